/-! The reference: what it holds, and its plain calls. Laid by wip/whole/specs/p41.py -/
def Hm (g : Sg) (F : Fam) : Prop := g.1 67 1 = nI (zn F) ∧ (∀ p, p < zn F → g.1 68 p = eO (za F p)) ∧ (∀ p, p < zn F → g.1 69 p = eO (zb F p)) ∧ (∀ p, p < zn F → g.1 70 p = eO (zs F p)) ∧ (∀ p, p < zn F → g.1 71 p = eO (zd F p)) ∧ (∀ p, p < zn F → g.1 72 p = nI (zo F p)) ∧ (∀ c p, c < 20 → p < 20 → g.1 73 (20 * c + p) = nI (zg F c p)) ∧ (∀ w f, w < 20 → f < 20 → g.1 74 (20 * w + f) = bI (zx F w f))
theorem Hm.congr {g g' : Sg} {F : Fam} (h : Hm g F) (h1 : g'.1 67 1 = g.1 67 1) (hq : ∀ q, 68 ≤ q → q ≤ 74 → g'.1 q = g.1 q) : Hm g' F := by
  obtain ⟨a1, h2, h3, h4, h5, h6, h7, h8⟩ := h
  exact ⟨by rw [h1]; exact a1, fun p hp => by rw [hq 68 (by omega) (by omega)]; exact h2 p hp, fun p hp => by rw [hq 69 (by omega) (by omega)]; exact h3 p hp, fun p hp => by rw [hq 70 (by omega) (by omega)]; exact h4 p hp, fun p hp => by rw [hq 71 (by omega) (by omega)]; exact h5 p hp, fun p hp => by rw [hq 72 (by omega) (by omega)]; exact h6 p hp, fun c p hc hp => by rw [hq 73 (by omega) (by omega)]; exact h7 c p hc hp, fun w f hw hf => by rw [hq 74 (by omega) (by omega)]; exact h8 w f hw hf⟩
/-- the reference's ledger -/
def Hn (g : Sg) (k : Lg) : Prop := (∀ e j, e < 20 → j < 21 → g.2 81 (21 * e + j) = lN (k.1 e j)) ∧ (∀ j, j < 21 → g.2 83 j = lN (k.2.1 j)) ∧ (∀ p, p < 20 → g.2 82 p = lN (k.2.2 p))
theorem Hn.congr {g g' : Sg} {k : Lg} (h : Hn g k) (hq : ∀ q, 81 ≤ q → q ≤ 83 → g'.2 q = g.2 q) : Hn g' k :=
  ⟨fun e j h1 h2 => by rw [hq 81 (by omega) (by omega)]; exact h.1 e j h1 h2, fun j h2 => by rw [hq 83 (by omega) (by omega)]; exact h.2.1 j h2, fun p h2 => by rw [hq 82 (by omega) (by omega)]; exact h.2.2 p h2⟩
/-- the class lies below -/
def Dn (g g' : Sg) : Prop := ∀ q, q < 67 ∨ 83 < q → g'.1 q = g.1 q ∧ g'.2 q = g.2 q
def mP (C : Nat) (A Z : Option Value) (g : Sg) (F : Fam) (k : Lg) : Option Value → Sg → Prop := fun v g' => v = (if C = 0 then A else Z) ∧ g'.1 67 0 = nI C ∧ Hm g' F ∧ Hn g' k ∧ Dn g g'
theorem no_t {F : Fam} {x : Int32} : (!zokB F x) = true ↔ ¬ (0 ≤ x.toInt ∧ x.toInt < (zn F : Int)) := by
  rw [← zok_u]; show _ ↔ ¬ (zokB F x = true); cases zokB F x <;> simp
theorem no_f {F : Fam} {x : Int32} : (!zokB F x) = false ↔ (0 ≤ x.toInt ∧ x.toInt < (zn F : Int)) := by
  rw [← zok_u]; show _ ↔ (zokB F x = true); cases zokB F x <;> simp
theorem ix20m (h j : Nat) : 20 * nI h + nI j = nI (20 * h + j) := by
  rw [show (20 : Int32) = nI 20 from rfl, pk_mul, nI_add]
theorem ix21m (h j : Nat) : 21 * nI h + nI j = nI (21 * h + j) := by
  rw [show (21 : Int32) = nI 21 from rfl, pk_mul, nI_add]
theorem eO_neg {o : Option Nat} (h : ∀ k, o = some k → k < 2 ^ 31) : eO o < 0 ↔ o = none := by
  cases o with
  | none => simp only [eO]; decide
  | some k =>
    have := nI_toInt (h k rfl)
    simp only [eO, Int32.lt_iff_toInt_lt, tI0, this]
    simp
theorem eO_nn {o : Option Nat} (h : ∀ k, o = some k → k < 2 ^ 31) : 0 ≤ eO o ↔ o ≠ none := by
  cases o with
  | none => simp only [eO]; decide
  | some k =>
    have := nI_toInt (h k rfl)
    simp only [eO, Int32.le_iff_toInt_le, tI0, this]
    simp
def m_M_thrown : Mt := (y_M_thrown, c_M_thrown, 1, { frames := 8, cells := 0, slots := 0, locals := 130 }, (some .int), none)
def m_M_no : Mt := (y_M_no, c_M_no, 2, { frames := 8, cells := 0, slots := 0, locals := 130 }, (some .boolean), none)
def m_M_isMarried : Mt := (y_M_isMarried, c_M_isMarried, 2, { frames := 8, cells := 0, slots := 0, locals := 130 }, (some .boolean), none)
def m_M_isChild : Mt := (y_M_isChild, c_M_isChild, 3, { frames := 8, cells := 0, slots := 0, locals := 130 }, (some .boolean), none)
def m_M_unsettled : Mt := (y_M_unsettled, c_M_unsettled, 2, { frames := 9, cells := 0, slots := 0, locals := 175 }, (some .int), none)
def m_M_pay : Mt := (y_M_pay, c_M_pay, 5, { frames := 8, cells := 0, slots := 0, locals := 130 }, none, none)
def m_M_hasLine : Mt := (y_M_hasLine, c_M_hasLine, 3, { frames := 8, cells := 0, slots := 0, locals := 130 }, (some .boolean), none)
def m_M_clear : Mt := (y_M_clear, c_M_clear, 2, { frames := 8, cells := 0, slots := 0, locals := 130 }, none, none)
def m_M_climb : Mt := (y_M_climb, c_M_climb, 8, { frames := 9, cells := 0, slots := 0, locals := 175 }, none, none)
def m_M_descend : Mt := (y_M_descend, c_M_descend, 5, { frames := 9, cells := 0, slots := 0, locals := 175 }, none, none)
def m_M_look : Mt := (y_M_look, c_M_look, 4, { frames := 9, cells := 0, slots := 0, locals := 175 }, none, none)
def m_M_divide : Mt := (y_M_divide, c_M_divide, 6, { frames := 10, cells := 0, slots := 0, locals := 220 }, none, none)
def m_M_giftsIn : Mt := (y_M_giftsIn, c_M_giftsIn, 4, { frames := 8, cells := 0, slots := 0, locals := 130 }, (some .long), none)
def m_M_sift : Mt := (y_M_sift, c_M_sift, 8, { frames := 9, cells := 0, slots := 0, locals := 175 }, (some .int), none)
def m_M_due : Mt := (y_M_due, c_M_due, 10, { frames := 11, cells := 0, slots := 0, locals := 265 }, none, none)
def m_M_divisor : Mt := (y_M_divisor, c_M_divisor, 10, { frames := 8, cells := 0, slots := 0, locals := 130 }, (some .long), none)
def m_M_settleOne : Mt := (y_M_settleOne, c_M_settleOne, 8, { frames := 12, cells := 0, slots := 0, locals := 310 }, none, none)
def m_M_person : Mt := (y_M_person, c_M_person, 4, { frames := 9, cells := 0, slots := 0, locals := 175 }, (some .int), none)
def m_M_amend : Mt := (y_M_amend, c_M_amend, 5, { frames := 9, cells := 0, slots := 0, locals := 175 }, none, none)
def m_M_marry : Mt := (y_M_marry, c_M_marry, 3, { frames := 9, cells := 0, slots := 0, locals := 175 }, none, none)
def m_M_divorce : Mt := (y_M_divorce, c_M_divorce, 2, { frames := 9, cells := 0, slots := 0, locals := 175 }, (some .boolean), none)
def m_M_spouse : Mt := (y_M_spouse, c_M_spouse, 2, { frames := 9, cells := 0, slots := 0, locals := 175 }, (some .int), none)
def m_M_dies : Mt := (y_M_dies, c_M_dies, 3, { frames := 9, cells := 0, slots := 0, locals := 175 }, none, none)
def m_M_exclude : Mt := (y_M_exclude, c_M_exclude, 5, { frames := 9, cells := 0, slots := 0, locals := 175 }, (some .boolean), none)
def m_M_gift : Mt := (y_M_gift, c_M_gift, 5, { frames := 9, cells := 0, slots := 0, locals := 175 }, (some .int), none)
def m_M_estate : Mt := (y_M_estate, c_M_estate, 3, { frames := 9, cells := 0, slots := 0, locals := 175 }, none, none)
def m_M_heirs : Mt := (y_M_heirs, c_M_heirs, 4, { frames := 11, cells := 0, slots := 0, locals := 265 }, (some .int), none)
def m_M_heir : Mt := (y_M_heir, c_M_heir, 5, { frames := 11, cells := 0, slots := 0, locals := 265 }, (some .int), none)
def m_M_share : Mt := (y_M_share, c_M_share, 5, { frames := 11, cells := 0, slots := 0, locals := 265 }, (some .long), none)
def m_M_order : Mt := (y_M_order, c_M_order, 2, { frames := 10, cells := 0, slots := 0, locals := 220 }, (some .int), none)
def m_M_stem : Mt := (y_M_stem, c_M_stem, 5, { frames := 10, cells := 0, slots := 0, locals := 220 }, (some .int), none)
def m_M_settle : Mt := (y_M_settle, c_M_settle, 4, { frames := 13, cells := 0, slots := 0, locals := 355 }, (some .int), none)
def m_M_paid : Mt := (y_M_paid, c_M_paid, 3, { frames := 9, cells := 0, slots := 0, locals := 175 }, (some .long), none)
def m_M_total : Mt := (y_M_total, c_M_total, 2, { frames := 9, cells := 0, slots := 0, locals := 175 }, (some .long), none)
def m_M_got : Mt := (y_M_got, c_M_got, 2, { frames := 9, cells := 0, slots := 0, locals := 175 }, (some .long), none)
set_option maxRecDepth 100000 in
set_option maxHeartbeats 4000000 in
theorem ct_M_thrown (l : Launch) (b : Nat) (id : Nat → ClassId) (D : va_G) {g : Sg} : qCT l b id D m_M_thrown false [.ref (b + 67)] 85 kT g 85 kT (fun v g' => v = some (.int (g.1 67 0)) ∧ g' = g) (fun _ _ => False) := by
  refine qCT_of rfl (by decide) (Nat.le_of_ble_eq_true rfl) ?_
  show Vq l b id D m_M_thrown false 85 kT _ 85 kT _ 85 kT 0 0 0 [(0, .ref (b + 67))] [] g
  refine vq_aload_n d_M_thrown_0 rfl ?_
  refine vq_getI (k := 0) (C := R_M) (T := T_M) d_M_thrown_1 rfl in_M w_655 (by decide) rfl (by decide) rfl ?_
  refine vq_iret d_M_thrown_4 rfl (by decide) (by decide) rfl rfl ?_
  exact ⟨rfl, rfl⟩
set_option maxRecDepth 100000 in
set_option maxHeartbeats 4000000 in
theorem ct_M_no (l : Launch) (b : Nat) (id : Nat → ClassId) (D : va_G) {g : Sg} {F : Fam} (hn : zn F ≤ 20) (hm : Hm g F) (x : Int32) : qCT l b id D m_M_no false [.ref (b + 67), .int x] 85 kT g 85 kT (fun v g' => v = some (.int (bI (!zokB F x))) ∧ g' = g) (fun _ _ => False) := by
  refine qCT_of rfl (by decide) (Nat.le_of_ble_eq_true rfl) ?_
  show Vq l b id D m_M_no false 85 kT _ 85 kT _ 85 kT 0 0 0 [(0, .ref (b + 67)), (1, .int x)] [] g
  refine vq_iload_n d_M_no_0 rfl ?_
  refine vq_if_lt (tgt := 12) d_M_no_1 (by decide) (fun h1 => ?_) (fun h1 => ?_)
  · simp only [Int32.lt_iff_toInt_lt, Int32.le_iff_toInt_le, ← Int32.toInt_inj, tI0, tI1, tIm1, tI999, tIm, tI20] at h1
    refine vq_iconst (v := 1) d_M_no_12 (by decide) ?_
    refine vq_goto (tgt := 17) d_M_no_13 (by decide) ?_
    refine vq_zret d_M_no_17 rfl (by first | exact Or.inl rfl | exact Or.inr rfl | assumption) (by decide) (by decide) rfl rfl ?_
    first
      | (refine ⟨r1 (no_t.mpr ?_), rfl⟩; omega)
      | (refine ⟨r0 (no_f.mpr ?_), rfl⟩; omega)
  · simp only [Int32.lt_iff_toInt_lt, Int32.le_iff_toInt_le, ← Int32.toInt_inj, tI0, tI1, tIm1, tI999, tIm, tI20] at h1
    refine vq_iload_n d_M_no_4 rfl ?_
    refine vq_aload_n d_M_no_5 rfl ?_
    refine vq_getI (k := 1) (C := R_M) (T := T_M) d_M_no_6 rfl in_M w_656 (by decide) rfl (by decide) rfl ?_
    refine vq_int (y := nI (zn F)) hm.1 ?_
    refine vq_icmp_lt (tgt := 16) d_M_no_9 (by decide) (fun h9 => ?_) (fun h9 => ?_)
    · simp only [Int32.lt_iff_toInt_lt, Int32.le_iff_toInt_le, ← Int32.toInt_inj, tI0, tI1, tIm1, tI999, tIm, tI20, nI_toInt (show zn F < 2 ^ 31 by omega)] at h9
      refine vq_iconst (v := 0) d_M_no_16 (by decide) ?_
      refine vq_zret d_M_no_17 rfl (by first | exact Or.inl rfl | exact Or.inr rfl | assumption) (by decide) (by decide) rfl rfl ?_
      first
        | (refine ⟨r1 (no_t.mpr ?_), rfl⟩; omega)
        | (refine ⟨r0 (no_f.mpr ?_), rfl⟩; omega)
    · simp only [Int32.lt_iff_toInt_lt, Int32.le_iff_toInt_le, ← Int32.toInt_inj, tI0, tI1, tIm1, tI999, tIm, tI20, nI_toInt (show zn F < 2 ^ 31 by omega)] at h9
      refine vq_iconst (v := 1) d_M_no_12 (by decide) ?_
      refine vq_goto (tgt := 17) d_M_no_13 (by decide) ?_
      refine vq_zret d_M_no_17 rfl (by first | exact Or.inl rfl | exact Or.inr rfl | assumption) (by decide) (by decide) rfl rfl ?_
      first
        | (refine ⟨r1 (no_t.mpr ?_), rfl⟩; omega)
        | (refine ⟨r0 (no_f.mpr ?_), rfl⟩; omega)
set_option maxRecDepth 100000 in
set_option maxHeartbeats 4000000 in
theorem ct_M_isChild (l : Launch) (b : Nat) (id : Nat → ClassId) (D : va_G) {g : Sg} {F : Fam} (hW : zW F) (hm : Hm g F) {c p : Nat} (hk : c < zn F) (hp : p < zn F) : qCT l b id D m_M_isChild false [.ref (b + 67), .int (nI c), .int (nI p)] 85 kT g 85 kT (fun v g' => v = some (.int (bI (zch F c p))) ∧ g' = g) (fun _ _ => False) := by
  have hn := hW.1
  have ha := hm.2.1 c hk
  have hb := hm.2.2.1 c hk
  have hp31 : p < 2 ^ 31 := by omega
  refine qCT_of rfl (by decide) (Nat.le_of_ble_eq_true rfl) ?_
  show Vq l b id D m_M_isChild false 85 kT _ 85 kT _ 85 kT 0 0 0 [(0, .ref (b + 67)), (1, .int (nI c)), (2, .int (nI p))] [] g
  refine vq_aload_n d_M_isChild_0 rfl ?_
  refine vq_getR (k := 2) (C := R_M) (T := T_M) d_M_isChild_1 rfl in_M w_657 (by decide) rfl (by decide) rfl rfl ?_
  refine vq_iload_n d_M_isChild_4 rfl ?_
  refine vq_iald d_M_isChild_5 (by decide) rfl rfl (show _ < 20 by omega) ?_
  refine vq_iload_n d_M_isChild_6 rfl ?_
  refine vq_icmp_eq (tgt := 20) d_M_isChild_7 (by decide) (fun h7 => ?_) (fun h7 => ?_)
  · rw [ha, eO_nI (za_lt hW hk) hp31] at h7
    refine vq_iconst (v := 1) d_M_isChild_20 (by decide) ?_
    refine vq_goto (tgt := 25) d_M_isChild_21 (by decide) ?_
    refine vq_zret d_M_isChild_25 rfl (by first | exact Or.inl rfl | exact Or.inr rfl | assumption) (by decide) (by decide) rfl rfl ?_
    first | refine ⟨r0 ?_, rfl⟩ | refine ⟨r1 ?_, rfl⟩
    first | (simp [zch, h7]; done) | (simp [zch, h7, h17]; done)
  · rw [ha, eO_nI (za_lt hW hk) hp31] at h7
    refine vq_aload_n d_M_isChild_10 rfl ?_
    refine vq_getR (k := 3) (C := R_M) (T := T_M) d_M_isChild_11 rfl in_M w_658 (by decide) rfl (by decide) rfl rfl ?_
    refine vq_iload_n d_M_isChild_14 rfl ?_
    refine vq_iald d_M_isChild_15 (by decide) rfl rfl (show _ < 20 by omega) ?_
    refine vq_iload_n d_M_isChild_16 rfl ?_
    refine vq_icmp_ne (tgt := 24) d_M_isChild_17 (by decide) (fun h17 => ?_) (fun h17 => ?_)
    · rw [hb, eO_nI (zb_lt hW hk) hp31] at h17
      refine vq_iconst (v := 0) d_M_isChild_24 (by decide) ?_
      refine vq_zret d_M_isChild_25 rfl (by first | exact Or.inl rfl | exact Or.inr rfl | assumption) (by decide) (by decide) rfl rfl ?_
      first | refine ⟨r0 ?_, rfl⟩ | refine ⟨r1 ?_, rfl⟩
      first | (simp [zch, h7]; done) | (simp [zch, h7, h17]; done)
    · rw [hb, eO_nI (zb_lt hW hk) hp31] at h17
      refine vq_iconst (v := 1) d_M_isChild_20 (by decide) ?_
      refine vq_goto (tgt := 25) d_M_isChild_21 (by decide) ?_
      refine vq_zret d_M_isChild_25 rfl (by first | exact Or.inl rfl | exact Or.inr rfl | assumption) (by decide) (by decide) rfl rfl ?_
      first | refine ⟨r0 ?_, rfl⟩ | refine ⟨r1 ?_, rfl⟩
      first | (simp [zch, h7]; done) | (simp [zch, h7, h17]; done)
/-- married to one who lives -/
def zmr (F : Fam) (p : Nat) : Bool := match zs F p with
  | none => false
  | some j => (zd F j).isNone
set_option maxRecDepth 100000 in
set_option maxHeartbeats 4000000 in
theorem ct_M_isMarried (l : Launch) (b : Nat) (id : Nat → ClassId) (D : va_G) {g : Sg} {F : Fam} (hW : zW F) (hm : Hm g F) {p : Nat} (hp : p < zn F) : qCT l b id D m_M_isMarried false [.ref (b + 67), .int (nI p)] 85 kT g 85 kT (fun v g' => v = some (.int (bI (zmr F p))) ∧ g' = g) (fun _ _ => False) := by
  have hn := hW.1
  refine qCT_of rfl (by decide) (Nat.le_of_ble_eq_true rfl) ?_
  show Vq l b id D m_M_isMarried false 85 kT _ 85 kT _ 85 kT 0 0 0 [(0, .ref (b + 67)), (1, .int (nI p))] [] g
  refine vq_aload_n d_M_isMarried_0 rfl ?_
  refine vq_getR (k := 4) (C := R_M) (T := T_M) d_M_isMarried_1 rfl in_M w_659 (by decide) rfl (by decide) rfl rfl ?_
  refine vq_iload_n d_M_isMarried_4 rfl ?_
  refine vq_iald d_M_isMarried_5 (by decide) rfl rfl (show _ < 20 by omega) ?_
  refine vq_int (y := eO (zs F p)) (hm.2.2.2.1 p hp) ?_
  refine vq_if_lt (tgt := 27) d_M_isMarried_6 (by decide) (fun h6 => ?_) (fun h6 => ?_)
  · rw [eO_neg (zs_lt hW hp)] at h6
    refine vq_iconst (v := 0) d_M_isMarried_27 (by decide) ?_
    refine vq_zret d_M_isMarried_28 rfl (by first | exact Or.inl rfl | exact Or.inr rfl | assumption) (by decide) (by decide) rfl rfl ?_
    first | refine ⟨r0 ?_, rfl⟩ | refine ⟨r1 ?_, rfl⟩
    unfold zmr
    first | (rw [h6]; done) | (rw [hj]; show (zd F j).isNone = true; cases hq : zd F j with | none => rfl | some t => exact absurd (by rw [hq]; simp) h20) | (rw [hj]; show (zd F j).isNone = false; cases hq : zd F j with | none => exact absurd hq h20 | some t => rfl)
  · rw [eO_neg (zs_lt hW hp)] at h6
    obtain ⟨j, hj⟩ := Option.ne_none_iff_exists'.mp h6
    have hjn := hW.2.2.2.2.1 p j hp hj
    refine vq_aload_n d_M_isMarried_9 rfl ?_
    refine vq_getR (k := 5) (C := R_M) (T := T_M) d_M_isMarried_10 rfl in_M w_660 (by decide) rfl (by decide) rfl rfl ?_
    refine vq_aload_n d_M_isMarried_13 rfl ?_
    refine vq_getR (k := 4) (C := R_M) (T := T_M) d_M_isMarried_14 rfl in_M w_659 (by decide) rfl (by decide) rfl rfl ?_
    refine vq_iload_n d_M_isMarried_17 rfl ?_
    refine vq_iald d_M_isMarried_18 (by decide) rfl rfl (show _ < 20 by omega) ?_
    refine vq_int (y := eO (zs F p)) (hm.2.2.2.1 p hp) ?_
    rw [hj]
    refine vq_iald d_M_isMarried_19 (by decide) rfl (show _ = nI j from rfl) (show _ < 20 by omega) ?_
    refine vq_int (y := eO (zd F j)) (hm.2.2.2.2.1 j hjn) ?_
    refine vq_if_ge (tgt := 27) d_M_isMarried_20 (by decide) (fun h20 => ?_) (fun h20 => ?_)
    · rw [eO_nn (zd_lt hW hjn)] at h20
      refine vq_iconst (v := 0) d_M_isMarried_27 (by decide) ?_
      refine vq_zret d_M_isMarried_28 rfl (by first | exact Or.inl rfl | exact Or.inr rfl | assumption) (by decide) (by decide) rfl rfl ?_
      first | refine ⟨r0 ?_, rfl⟩ | refine ⟨r1 ?_, rfl⟩
      unfold zmr
      first | (rw [h6]; done) | (rw [hj]; show (zd F j).isNone = true; cases hq : zd F j with | none => rfl | some t => exact absurd (by rw [hq]; simp) h20) | (rw [hj]; show (zd F j).isNone = false; cases hq : zd F j with | none => exact absurd hq h20 | some t => rfl)
    · rw [eO_nn (zd_lt hW hjn)] at h20
      refine vq_iconst (v := 1) d_M_isMarried_23 (by decide) ?_
      refine vq_goto (tgt := 28) d_M_isMarried_24 (by decide) ?_
      refine vq_zret d_M_isMarried_28 rfl (by first | exact Or.inl rfl | exact Or.inr rfl | assumption) (by decide) (by decide) rfl rfl ?_
      first | refine ⟨r0 ?_, rfl⟩ | refine ⟨r1 ?_, rfl⟩
      unfold zmr
      first | (rw [h6]; done) | (rw [hj]; show (zd F j).isNone = true; cases hq : zd F j with | none => rfl | some t => exact absurd (by rw [hq]; simp) h20) | (rw [hj]; show (zd F j).isNone = false; cases hq : zd F j with | none => exact absurd hq h20 | some t => rfl)
set_option maxRecDepth 100000 in
set_option maxHeartbeats 4000000 in
theorem ct_M_unsettled (l : Launch) (b : Nat) (id : Nat → ClassId) (D : va_G) {g : Sg} {F : Fam} (hW : zW F) (hm : Hm g F) (x : Int32) : qCT l b id D m_M_unsettled false [.ref (b + 67), .int x] 85 kT g 85 kT (fun v g' => v = some (.int (nI (k_dead F x))) ∧ g' = g) (fun _ _ => False) := by
  have hn := hW.1
  refine qCT_of rfl (by decide) (Nat.le_of_ble_eq_true rfl) ?_
  show Vq l b id D m_M_unsettled false 85 kT _ 85 kT _ 85 kT 0 0 0 [(0, .ref (b + 67)), (1, .int x)] [] g
  refine vq_aload_n d_M_unsettled_0 rfl ?_
  refine vq_iload_n d_M_unsettled_1 rfl ?_
  refine vq_callV (n := 1) (C := R_M) (T := T_M) _ _ d_M_unsettled_2 (ct_M_no l b id D hn hm x) w_733 w_735 sel_M_no w_736 w_7 rfl ⟨by decide, by decide, by decide +kernel⟩ ⟨by decide, by decide⟩ (by decide) rfl rfl rfl rfl (Nat.le_of_ble_eq_true rfl) rfl rfl rfl ⟨by decide, by decide⟩ (fun _ _ h => h.elim) (fun v2 g2 h2 => ?_)
  rw [h2.1, h2.2]
  refine vq_if_eq (tgt := 12) d_M_unsettled_5 (by decide) (fun h5 => ?_) (fun h5 => ?_)
  · rw [bI_0] at h5
    have hx : zok F x := zok_u.mpr (no_f.mp h5)
    obtain ⟨p, hp, rfl⟩ := zok_p hx
    have hz : zi (nI p) = p := zi_nI (by omega)
    refine vq_aload_n d_M_unsettled_12 rfl ?_
    refine vq_getR (k := 5) (C := R_M) (T := T_M) d_M_unsettled_13 rfl in_M w_660 (by decide) rfl (by decide) rfl rfl ?_
    refine vq_iload_n d_M_unsettled_16 rfl ?_
    refine vq_iald d_M_unsettled_17 (by decide) rfl rfl (show _ < 20 by omega) ?_
    refine vq_int (y := eO (zd F p)) (hm.2.2.2.2.1 p hp) ?_
    refine vq_if_ge (tgt := 25) d_M_unsettled_18 (by decide) (fun h18 => ?_) (fun h18 => ?_)
    · rw [eO_nn (zd_lt hW hp)] at h18
      refine vq_iconst (v := 0) d_M_unsettled_25 (by decide) ?_
      refine vq_iret d_M_unsettled_26 rfl (by decide) (by decide) rfl rfl ?_
      refine ⟨?_, rfl⟩
      unfold k_dead
      first | (rw [if_neg hx]; rfl) | (rw [if_pos hx, hz, if_pos (by cases hq : zd F p with | none => exact absurd hq h18 | some t => rfl)]; rfl) | (rw [if_pos hx, hz, if_neg (by intro h9; exact h18 (fun h8 => by rw [h8] at h9; cases h9))]; rfl)
    · rw [eO_nn (zd_lt hW hp)] at h18
      refine vq_iconst (v := 2) d_M_unsettled_21 (by decide) ?_
      refine vq_goto (tgt := 26) d_M_unsettled_22 (by decide) ?_
      refine vq_iret d_M_unsettled_26 rfl (by decide) (by decide) rfl rfl ?_
      refine ⟨?_, rfl⟩
      unfold k_dead
      first | (rw [if_neg hx]; rfl) | (rw [if_pos hx, hz, if_pos (by cases hq : zd F p with | none => exact absurd hq h18 | some t => rfl)]; rfl) | (rw [if_pos hx, hz, if_neg (by intro h9; exact h18 (fun h8 => by rw [h8] at h9; cases h9))]; rfl)
  · rw [bI_n0] at h5
    have hx : ¬ zok F x := fun h => no_t.mp h5 (zok_u.mp h)
    refine vq_iconst (v := 1) d_M_unsettled_8 (by decide) ?_
    refine vq_goto (tgt := 26) d_M_unsettled_9 (by decide) ?_
    refine vq_iret d_M_unsettled_26 rfl (by decide) (by decide) rfl rfl ?_
    refine ⟨?_, rfl⟩
    unfold k_dead
    first | (rw [if_neg hx]; rfl) | (rw [if_pos hx, hz, if_pos (by cases hq : zd F p with | none => exact absurd hq h18 | some t => rfl)]; rfl) | (rw [if_pos hx, hz, if_neg (by intro h9; exact h18 (fun h8 => by rw [h8] at h9; cases h9))]; rfl)
set_option maxRecDepth 100000 in
set_option maxHeartbeats 4000000 in
theorem ct_M_pay (l : Launch) (b : Nat) (id : Nat → ClassId) (D : va_G) {g : Sg} {e p : Nat} (he : e < 20) (hp : p < 21) (x : Int64) : qCT l b id D m_M_pay false [.ref (b + 67), .int (nI e), .int (nI p), .long x] 85 kT g 85 kT (fun v' g' => v' = none ∧ g' = sJ (sJ g 81 (vp_updL (g.2 81) (21 * e + p) (g.2 81 (21 * e + p) + x))) 83 (vp_updL (g.2 83) p (g.2 83 p + x))) (fun _ _ => False) := by
  refine qCT_of rfl (by decide) (Nat.le_of_ble_eq_true rfl) ?_
  show Vq l b id D m_M_pay false 85 kT _ 85 kT _ 85 kT 0 0 0 [(0, .ref (b + 67)), (1, .int (nI e)), (2, .int (nI p)), (3, .long x)] [] g
  refine vq_aload_n d_M_pay_0 rfl ?_
  refine vq_getR (k := 20) (C := R_M) (T := T_M) d_M_pay_1 rfl in_M w_675 (by decide) rfl (by decide) rfl rfl ?_
  refine vq_bipush (v := 21) d_M_pay_4 (by decide) ?_
  refine vq_iload_n d_M_pay_6 rfl ?_
  refine vq_imul d_M_pay_7 ?_
  refine vq_iload_n d_M_pay_8 rfl ?_
  refine vq_iadd d_M_pay_9 ?_
  rw [ix21m]
  refine vq_dup2_11 d_M_pay_10 rfl rfl ?_
  refine vq_lald d_M_pay_11 (by decide) rfl rfl (show _ < 420 by omega) ?_
  refine vq_lload_n d_M_pay_12 rfl ?_
  refine vq_ladd d_M_pay_13 ?_
  refine vq_last d_M_pay_14 rfl (by decide) rfl rfl (show _ < 420 by omega) ?_
  refine vq_aload_n d_M_pay_15 rfl ?_
  refine vq_getR (k := 22) (C := R_M) (T := T_M) d_M_pay_16 rfl in_M w_677 (by decide) rfl (by decide) rfl rfl ?_
  refine vq_iload_n d_M_pay_19 rfl ?_
  refine vq_dup2_11 d_M_pay_20 rfl rfl ?_
  refine vq_lald d_M_pay_21 (by decide) rfl rfl (show _ < 21 by omega) ?_
  refine vq_lload_n d_M_pay_22 rfl ?_
  refine vq_ladd d_M_pay_23 ?_
  refine vq_last d_M_pay_24 rfl (by decide) rfl rfl (show _ < 21 by omega) ?_
  refine vq_vret d_M_pay_25 rfl (by decide) (by decide) rfl rfl ?_
  exact ⟨rfl, rfl⟩
set_option maxRecDepth 100000 in
set_option maxHeartbeats 4000000 in
theorem ct_M_hasLine (l : Launch) (b : Nat) (id : Nat → ClassId) (D : va_G) {g : Sg} {h : Nat} (hh : h < 4) {o : Option Nat} (ho : ∀ j, o = some j → j < 20) {Y : Nat → Bool} (hY : ∀ j, o = some j → g.1 77 (20 * h + j) = bI (Y j)) : qCT l b id D m_M_hasLine false [.ref (b + 67), .int (nI h), .int (eO o)] 85 kT g 85 kT (fun v g' => v = some (.int (bI (zoB o Y))) ∧ g' = g) (fun _ _ => False) := by
  refine qCT_of rfl (by decide) (Nat.le_of_ble_eq_true rfl) ?_
  show Vq l b id D m_M_hasLine false 85 kT _ 85 kT _ 85 kT 0 0 0 [(0, .ref (b + 67)), (1, .int (nI h)), (2, .int (eO o))] [] g
  refine vq_iload_n d_M_hasLine_0 rfl ?_
  refine vq_if_lt (tgt := 22) d_M_hasLine_1 (by decide) (fun h1 => ?_) (fun h1 => ?_)
  · rw [eO_neg (fun k h => Nat.lt_of_lt_of_le (ho k h) (by decide))] at h1
    refine vq_iconst (v := 0) d_M_hasLine_22 (by decide) ?_
    refine vq_zret d_M_hasLine_23 rfl (by first | exact Or.inl rfl | exact Or.inr rfl | assumption) (by decide) (by decide) rfl rfl ?_
    first | refine ⟨r0 ?_, rfl⟩ | refine ⟨r1 ?_, rfl⟩
    first | (rw [h1]; rfl) | exact h15
  · rw [eO_neg (fun k h => Nat.lt_of_lt_of_le (ho k h) (by decide))] at h1
    obtain ⟨j, rfl⟩ := Option.ne_none_iff_exists'.mp h1
    have hj := ho j rfl
    rw [show eO (some j) = nI j from rfl]
    refine vq_aload_n d_M_hasLine_4 rfl ?_
    refine vq_getR (k := 12) (C := R_M) (T := T_M) d_M_hasLine_5 rfl in_M w_667 (by decide) rfl (by decide) rfl rfl ?_
    refine vq_bipush (v := 20) d_M_hasLine_8 (by decide) ?_
    refine vq_iload_n d_M_hasLine_10 rfl ?_
    refine vq_imul d_M_hasLine_11 ?_
    refine vq_iload_n d_M_hasLine_12 rfl ?_
    refine vq_iadd d_M_hasLine_13 ?_
    rw [ix20m]
    refine vq_zald d_M_hasLine_14 (by decide) rfl rfl (show _ < 80 by omega) ?_
    refine vq_int (y := bI (Y j)) (hY j rfl) ?_
    refine vq_if_eq (tgt := 22) d_M_hasLine_15 (by decide) (fun h15 => ?_) (fun h15 => ?_)
    · rw [bI_0] at h15
      refine vq_iconst (v := 0) d_M_hasLine_22 (by decide) ?_
      refine vq_zret d_M_hasLine_23 rfl (by first | exact Or.inl rfl | exact Or.inr rfl | assumption) (by decide) (by decide) rfl rfl ?_
      first | refine ⟨r0 ?_, rfl⟩ | refine ⟨r1 ?_, rfl⟩
      first | (rw [h1]; rfl) | exact h15
    · rw [bI_n0] at h15
      refine vq_iconst (v := 1) d_M_hasLine_18 (by decide) ?_
      refine vq_goto (tgt := 23) d_M_hasLine_19 (by decide) ?_
      refine vq_zret d_M_hasLine_23 rfl (by first | exact Or.inl rfl | exact Or.inr rfl | assumption) (by decide) (by decide) rfl rfl ?_
      first | refine ⟨r0 ?_, rfl⟩ | refine ⟨r1 ?_, rfl⟩
      first | (rw [h1]; rfl) | exact h15
