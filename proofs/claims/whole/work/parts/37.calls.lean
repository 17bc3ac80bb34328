/-! SuccessionClerk's own methods: what they refuse, what they enter. Laid by wip/whole/specs/p37.py -/
/-- the reference lies beyond -/
def Up (g g' : Sg) : Prop := ∀ q, 66 < q → g'.1 q = g.1 q ∧ g'.2 q = g.2 q
/-- a call's end: it returns A with the family F and the ledger k, or it throws by its code C -/
def cP (C : Nat) (A : Option Value) (g : Sg) (F : Fam) (k : Lg) : Option Value → Sg → Prop := fun v g' => C = 0 ∧ v = A ∧ Hc g' F ∧ Hl g' k ∧ Up g g'
def cX (C : Nat) (g : Sg) : String → Sg → Prop := fun E g' => ((C = 1 ∧ E = "java/lang/IllegalArgumentException") ∨ (C = 2 ∧ E = "java/lang/IllegalStateException")) ∧ g' = g
theorem Hl.congr {g g' : Sg} {k : Lg} (h : Hl g k) (hq : ∀ q, 43 ≤ q → q ≤ 64 → g'.2 q = g.2 q) : Hl g' k :=
  ⟨fun e j h1 h2 => by rw [hq (43 + e) (by omega) (by omega)]; exact h.1 e j h1 h2, fun j h2 => by rw [hq 64 (by omega) (by omega)]; exact h.2.1 j h2, fun p h2 => by rw [hq 63 (by omega) (by omega)]; exact h.2.2 p h2⟩
def m_F_enter : Mt := (y_F_enter, c_F_enter, 4, { frames := 8, cells := 0, slots := 0, locals := 130 }, (some .int), none)
def m_F_setExcluded : Mt := (y_F_setExcluded, c_F_setExcluded, 4, { frames := 8, cells := 0, slots := 0, locals := 130 }, none, none)
def m_S_requirePerson : Mt := (y_S_requirePerson, c_S_requirePerson, 2, { frames := 8, cells := 1, slots := 6, locals := 130 }, none, none)
def m_S_requireDead : Mt := (y_S_requireDead, c_S_requireDead, 2, { frames := 9, cells := 1, slots := 6, locals := 175 }, none, none)
def m_S_requireParents : Mt := (y_S_requireParents, c_S_requireParents, 3, { frames := 8, cells := 1, slots := 6, locals := 130 }, none, none)
def m_S_placeOf : Mt := (y_S_placeOf, c_S_placeOf, 2, { frames := 9, cells := 1, slots := 6, locals := 175 }, (some .int), none)
def m_S_person : Mt := (y_S_person, c_S_person, 3, { frames := 9, cells := 2, slots := 12, locals := 175 }, (some .int), none)
def m_S_amend : Mt := (y_S_amend, c_S_amend, 4, { frames := 9, cells := 2, slots := 12, locals := 175 }, none, none)
def m_S_marry : Mt := (y_S_marry, c_S_marry, 3, { frames := 10, cells := 3, slots := 18, locals := 220 }, none, none)
def m_S_divorce : Mt := (y_S_divorce, c_S_divorce, 3, { frames := 9, cells := 1, slots := 6, locals := 175 }, (some .boolean), none)
def m_S_spouse : Mt := (y_S_spouse, c_S_spouse, 2, { frames := 9, cells := 1, slots := 6, locals := 175 }, (some .int), none)
def m_S_dies : Mt := (y_S_dies, c_S_dies, 3, { frames := 9, cells := 3, slots := 18, locals := 175 }, none, none)
def m_S_exclude : Mt := (y_S_exclude, c_S_exclude, 4, { frames := 9, cells := 2, slots := 12, locals := 175 }, (some .boolean), none)
def m_S_gift : Mt := (y_S_gift, c_S_gift, 5, { frames := 9, cells := 3, slots := 18, locals := 175 }, (some .int), none)
def m_S_estate : Mt := (y_S_estate, c_S_estate, 3, { frames := 9, cells := 2, slots := 12, locals := 175 }, none, none)
def m_S_heirs : Mt := (y_S_heirs, c_S_heirs, 2, { frames := 12, cells := 2, slots := 12, locals := 310 }, (some .int), none)
def m_S_heir : Mt := (y_S_heir, c_S_heir, 3, { frames := 12, cells := 2, slots := 12, locals := 310 }, (some .int), none)
def m_S_share : Mt := (y_S_share, c_S_share, 3, { frames := 12, cells := 3, slots := 18, locals := 310 }, (some .long), none)
def m_S_order : Mt := (y_S_order, c_S_order, 2, { frames := 12, cells := 2, slots := 12, locals := 310 }, (some .int), none)
def m_S_stem : Mt := (y_S_stem, c_S_stem, 3, { frames := 16, cells := 3, slots := 18, locals := 490 }, (some .int), none)
def m_S_settle : Mt := (y_S_settle, c_S_settle, 1, { frames := 14, cells := 0, slots := 0, locals := 400 }, (some .int), none)
def m_S_paid : Mt := (y_S_paid, c_S_paid, 3, { frames := 10, cells := 2, slots := 12, locals := 220 }, (some .long), none)
def m_S_total : Mt := (y_S_total, c_S_total, 2, { frames := 9, cells := 1, slots := 6, locals := 175 }, (some .long), none)
def m_S_got : Mt := (y_S_got, c_S_got, 2, { frames := 10, cells := 1, slots := 6, locals := 220 }, (some .long), none)
set_option maxRecDepth 100000 in
set_option maxHeartbeats 4000000 in
theorem ct_S_requirePerson (l : Launch) (b : Nat) (id : Nat → ClassId) (D : va_G) (htr : l.stackTraces = false) {g : Sg} {F : Fam} (hn : zn F ≤ 20) (hc : Hc g F) (x : Int32) : qCT l b id D m_S_requirePerson false [.ref (b + 0), .int x] 85 kT g 85 kT (fun v g' => v = none ∧ zok F x ∧ g' = g) (fun E g' => E = "java/lang/IllegalArgumentException" ∧ ¬ zok F x ∧ g' = g) := by
  refine qCT_of rfl (by decide) (Nat.le_of_ble_eq_true rfl) ?_
  show Vq l b id D m_S_requirePerson false 85 kT _ 85 kT _ 85 kT 0 0 0 [(0, .ref (b + 0)), (1, .int x)] [] g
  refine vq_iload_n d_S_requirePerson_0 rfl ?_
  refine vq_if_lt (tgt := 15) d_S_requirePerson_1 (by decide) (fun h1 => ?_) (fun h1 => ?_)
  · simp only [Int32.lt_iff_toInt_lt, Int32.le_iff_toInt_le, ← Int32.toInt_inj, tI0, tI1, tIm1, tI999, tIm, tI20] at h1
    refine vq_throw (text := "there is no such person") (names := ["java/lang/RuntimeException", "java/lang/Exception"]) htr d_S_requirePerson_15 d_S_requirePerson_18 d_S_requirePerson_19 d_S_requirePerson_21 d_S_requirePerson_24 (by decide) (by decide) w_378 w_11 w_379 (by decide) (by decide +kernel) rfl (by decide) (by decide) (Nat.le_of_ble_eq_true rfl) (Nat.le_of_ble_eq_true rfl) rfl rfl ?_
    exact ⟨rfl, fun h => by have := zok_u.mp h; omega, rfl⟩
  · simp only [Int32.lt_iff_toInt_lt, Int32.le_iff_toInt_le, ← Int32.toInt_inj, tI0, tI1, tIm1, tI999, tIm, tI20] at h1
    refine vq_iload_n d_S_requirePerson_4 rfl ?_
    refine vq_aload_n d_S_requirePerson_5 rfl ?_
    refine vq_getR (k := 0) (C := R_S) (T := T_S) d_S_requirePerson_6 rfl in_S w_210 (by decide) rfl (by decide) rfl rfl ?_
    refine vq_getI (k := 0) (C := R_F) (T := T_F) d_S_requirePerson_9 rfl in_F w_32 (by decide) rfl (by decide) rfl ?_
    refine vq_int (y := nI (zn F)) hc.1 ?_
    refine vq_icmp_lt (tgt := 25) d_S_requirePerson_12 (by decide) (fun h12 => ?_) (fun h12 => ?_)
    · simp only [Int32.lt_iff_toInt_lt, Int32.le_iff_toInt_le, ← Int32.toInt_inj, tI0, tI1, tIm1, tI999, tIm, tI20, nI_toInt (show zn F < 2 ^ 31 by omega)] at h12
      refine vq_vret d_S_requirePerson_25 rfl (by decide) (by decide) rfl rfl ?_
      exact ⟨rfl, zok_u.mpr (by omega), rfl⟩
    · simp only [Int32.lt_iff_toInt_lt, Int32.le_iff_toInt_le, ← Int32.toInt_inj, tI0, tI1, tIm1, tI999, tIm, tI20, nI_toInt (show zn F < 2 ^ 31 by omega)] at h12
      refine vq_throw (text := "there is no such person") (names := ["java/lang/RuntimeException", "java/lang/Exception"]) htr d_S_requirePerson_15 d_S_requirePerson_18 d_S_requirePerson_19 d_S_requirePerson_21 d_S_requirePerson_24 (by decide) (by decide) w_378 w_11 w_379 (by decide) (by decide +kernel) rfl (by decide) (by decide) (Nat.le_of_ble_eq_true rfl) (Nat.le_of_ble_eq_true rfl) rfl rfl ?_
      exact ⟨rfl, fun h => by have := zok_u.mp h; omega, rfl⟩
set_option maxRecDepth 100000 in
set_option maxHeartbeats 4000000 in
theorem ct_S_requireDead (l : Launch) (b : Nat) (id : Nat → ClassId) (D : va_G) (htr : l.stackTraces = false) {g : Sg} {F : Fam} (hW : zW F) (hc : Hc g F) {p : Nat} (hp : p < zn F) : qCT l b id D m_S_requireDead false [.ref (b + 0), .int (nI p)] 85 kT g 85 kT (fun v g' => v = none ∧ (zd F p).isSome = true ∧ g' = g) (fun E g' => E = "java/lang/IllegalStateException" ∧ (zd F p).isSome = false ∧ g' = g) := by
  refine qCT_of rfl (by decide) (Nat.le_of_ble_eq_true rfl) ?_
  show Vq l b id D m_S_requireDead false 85 kT _ 85 kT _ 85 kT 0 0 0 [(0, .ref (b + 0)), (1, .int (nI p))] [] g
  refine vq_aload_n d_S_requireDead_0 rfl ?_
  refine vq_getR (k := 0) (C := R_S) (T := T_S) d_S_requireDead_1 rfl in_S w_210 (by decide) rfl (by decide) rfl rfl ?_
  refine vq_iload_n d_S_requireDead_4 rfl ?_
  refine vq_callV (n := 1) (C := R_F) (T := T_F) _ _ d_S_requireDead_5 (ct_F_died l b id D hW hc hp) w_498 w_243 w_244 w_245 w_2 rfl ⟨by decide, by decide, by decide +kernel⟩ ⟨by decide, by decide⟩ (by decide) rfl rfl rfl rfl (Nat.le_of_ble_eq_true rfl) rfl rfl rfl ⟨by decide, by decide⟩ (fun _ _ h => h.elim) (fun v5 g5 h5 => ?_)
  rw [h5.1, h5.2]
  refine vq_if_ne (tgt := 21) d_S_requireDead_8 (by decide) (fun h8 => ?_) (fun h8 => ?_)
  · refine vq_vret d_S_requireDead_21 rfl (by decide) (by decide) rfl rfl ?_
    exact ⟨rfl, bI_n0.mp h8, rfl⟩
  · refine vq_throw (text := "it did not die") (names := ["java/lang/RuntimeException", "java/lang/Exception"]) htr d_S_requireDead_11 d_S_requireDead_14 d_S_requireDead_15 d_S_requireDead_17 d_S_requireDead_20 (by decide) (by decide) w_446 w_12 w_447 (by decide) (by decide +kernel) rfl (by decide) (by decide) (Nat.le_of_ble_eq_true rfl) (Nat.le_of_ble_eq_true rfl) rfl rfl ?_
    exact ⟨rfl, bI_0.mp h8, rfl⟩
set_option maxRecDepth 100000 in
set_option maxHeartbeats 4000000 in
theorem ct_S_requireParents (l : Launch) (b : Nat) (id : Nat → ClassId) (D : va_G) (htr : l.stackTraces = false) {g : Sg} (x y : Int32) {m : Nat} (hm : m ≤ 20) : qCT l b id D m_S_requireParents false [.int x, .int y, .int (nI m)] 85 kT g 85 kT (fun v g' => v = none ∧ zpa m x y ∧ g' = g) (fun E g' => E = "java/lang/IllegalArgumentException" ∧ ¬ zpa m x y ∧ g' = g) := by
  have hm31 : m < 2 ^ 31 := by omega
  refine qCT_of rfl (by decide) (Nat.le_of_ble_eq_true rfl) ?_
  show Vq l b id D m_S_requireParents false 85 kT _ 85 kT _ 85 kT 0 0 0 [(0, .int x), (1, .int y), (2, .int (nI m))] [] g
  refine vq_iload_n d_S_requireParents_0 rfl ?_
  refine vq_iconst (v := -1) d_S_requireParents_1 (by decide) ?_
  refine vq_icmp_lt (tgt := 20) d_S_requireParents_2 (by decide) (fun h2 => ?_) (fun h2 => ?_)
  · simp only [Int32.lt_iff_toInt_lt, Int32.le_iff_toInt_le, ← Int32.toInt_inj, tI0, tI1, tIm1, tI999, tIm, tI20] at h2
    refine vq_throw (text := "a parent is NONE or a person with a lesser number") (names := ["java/lang/RuntimeException", "java/lang/Exception"]) htr d_S_requireParents_20 d_S_requireParents_23 d_S_requireParents_24 d_S_requireParents_26 d_S_requireParents_29 (by decide) (by decide) w_378 w_11 w_379 (by decide) (by decide +kernel) rfl (by decide) (by decide) (Nat.le_of_ble_eq_true rfl) (Nat.le_of_ble_eq_true rfl) rfl rfl ?_
    refine ⟨rfl, fun h => ?_, rfl⟩
    have h9 := zpa_u.mp h
    have h8 := zpo_u.mp h9.1
    have h7 := zpo_u.mp h9.2.1
    omega
  · simp only [Int32.lt_iff_toInt_lt, Int32.le_iff_toInt_le, ← Int32.toInt_inj, tI0, tI1, tIm1, tI999, tIm, tI20] at h2
    refine vq_iload_n d_S_requireParents_5 rfl ?_
    refine vq_iload_n d_S_requireParents_6 rfl ?_
    refine vq_icmp_ge (tgt := 20) d_S_requireParents_7 (by decide) (fun h7 => ?_) (fun h7 => ?_)
    · simp only [Int32.lt_iff_toInt_lt, Int32.le_iff_toInt_le, ← Int32.toInt_inj, tI0, tI1, tIm1, tI999, tIm, tI20, nI_toInt hm31] at h7
      refine vq_throw (text := "a parent is NONE or a person with a lesser number") (names := ["java/lang/RuntimeException", "java/lang/Exception"]) htr d_S_requireParents_20 d_S_requireParents_23 d_S_requireParents_24 d_S_requireParents_26 d_S_requireParents_29 (by decide) (by decide) w_378 w_11 w_379 (by decide) (by decide +kernel) rfl (by decide) (by decide) (Nat.le_of_ble_eq_true rfl) (Nat.le_of_ble_eq_true rfl) rfl rfl ?_
      refine ⟨rfl, fun h => ?_, rfl⟩
      have h9 := zpa_u.mp h
      have h8 := zpo_u.mp h9.1
      have h7 := zpo_u.mp h9.2.1
      omega
    · simp only [Int32.lt_iff_toInt_lt, Int32.le_iff_toInt_le, ← Int32.toInt_inj, tI0, tI1, tIm1, tI999, tIm, tI20, nI_toInt hm31] at h7
      refine vq_iload_n d_S_requireParents_10 rfl ?_
      refine vq_iconst (v := -1) d_S_requireParents_11 (by decide) ?_
      refine vq_icmp_lt (tgt := 20) d_S_requireParents_12 (by decide) (fun h12 => ?_) (fun h12 => ?_)
      · simp only [Int32.lt_iff_toInt_lt, Int32.le_iff_toInt_le, ← Int32.toInt_inj, tI0, tI1, tIm1, tI999, tIm, tI20] at h12
        refine vq_throw (text := "a parent is NONE or a person with a lesser number") (names := ["java/lang/RuntimeException", "java/lang/Exception"]) htr d_S_requireParents_20 d_S_requireParents_23 d_S_requireParents_24 d_S_requireParents_26 d_S_requireParents_29 (by decide) (by decide) w_378 w_11 w_379 (by decide) (by decide +kernel) rfl (by decide) (by decide) (Nat.le_of_ble_eq_true rfl) (Nat.le_of_ble_eq_true rfl) rfl rfl ?_
        refine ⟨rfl, fun h => ?_, rfl⟩
        have h9 := zpa_u.mp h
        have h8 := zpo_u.mp h9.1
        have h7 := zpo_u.mp h9.2.1
        omega
      · simp only [Int32.lt_iff_toInt_lt, Int32.le_iff_toInt_le, ← Int32.toInt_inj, tI0, tI1, tIm1, tI999, tIm, tI20] at h12
        refine vq_iload_n d_S_requireParents_15 rfl ?_
        refine vq_iload_n d_S_requireParents_16 rfl ?_
        refine vq_icmp_lt (tgt := 30) d_S_requireParents_17 (by decide) (fun h17 => ?_) (fun h17 => ?_)
        · simp only [Int32.lt_iff_toInt_lt, Int32.le_iff_toInt_le, ← Int32.toInt_inj, tI0, tI1, tIm1, tI999, tIm, tI20, nI_toInt hm31] at h17
          refine vq_iload_n d_S_requireParents_30 rfl ?_
          refine vq_iload_n d_S_requireParents_31 rfl ?_
          refine vq_icmp_ne (tgt := 50) d_S_requireParents_32 (by decide) (fun h32 => ?_) (fun h32 => ?_)
          · simp only [Int32.lt_iff_toInt_lt, Int32.le_iff_toInt_le, ← Int32.toInt_inj, tI0, tI1, tIm1, tI999, tIm, tI20] at h32
            refine vq_vret d_S_requireParents_50 rfl (by decide) (by decide) rfl rfl ?_
            exact ⟨rfl, zpa_u.mpr ⟨zpo_u.mpr (by omega), zpo_u.mpr (by omega), by omega⟩, rfl⟩
          · simp only [Int32.lt_iff_toInt_lt, Int32.le_iff_toInt_le, ← Int32.toInt_inj, tI0, tI1, tIm1, tI999, tIm, tI20] at h32
            refine vq_iload_n d_S_requireParents_35 rfl ?_
            refine vq_iconst (v := -1) d_S_requireParents_36 (by decide) ?_
            refine vq_icmp_eq (tgt := 50) d_S_requireParents_37 (by decide) (fun h37 => ?_) (fun h37 => ?_)
            · simp only [Int32.lt_iff_toInt_lt, Int32.le_iff_toInt_le, ← Int32.toInt_inj, tI0, tI1, tIm1, tI999, tIm, tI20] at h37
              refine vq_vret d_S_requireParents_50 rfl (by decide) (by decide) rfl rfl ?_
              exact ⟨rfl, zpa_u.mpr ⟨zpo_u.mpr (by omega), zpo_u.mpr (by omega), by omega⟩, rfl⟩
            · simp only [Int32.lt_iff_toInt_lt, Int32.le_iff_toInt_le, ← Int32.toInt_inj, tI0, tI1, tIm1, tI999, tIm, tI20] at h37
              refine vq_throw (text := "the parents are the same") (names := ["java/lang/RuntimeException", "java/lang/Exception"]) htr d_S_requireParents_40 d_S_requireParents_43 d_S_requireParents_44 d_S_requireParents_46 d_S_requireParents_49 (by decide) (by decide) w_378 w_11 w_379 (by decide) (by decide +kernel) rfl (by decide) (by decide) (Nat.le_of_ble_eq_true rfl) (Nat.le_of_ble_eq_true rfl) rfl rfl ?_
              refine ⟨rfl, fun h => ?_, rfl⟩
              have h9 := zpa_u.mp h
              have h8 := zpo_u.mp h9.1
              have h7 := zpo_u.mp h9.2.1
              omega
        · simp only [Int32.lt_iff_toInt_lt, Int32.le_iff_toInt_le, ← Int32.toInt_inj, tI0, tI1, tIm1, tI999, tIm, tI20, nI_toInt hm31] at h17
          refine vq_throw (text := "a parent is NONE or a person with a lesser number") (names := ["java/lang/RuntimeException", "java/lang/Exception"]) htr d_S_requireParents_20 d_S_requireParents_23 d_S_requireParents_24 d_S_requireParents_26 d_S_requireParents_29 (by decide) (by decide) w_378 w_11 w_379 (by decide) (by decide +kernel) rfl (by decide) (by decide) (Nat.le_of_ble_eq_true rfl) (Nat.le_of_ble_eq_true rfl) rfl rfl ?_
          refine ⟨rfl, fun h => ?_, rfl⟩
          have h9 := zpa_u.mp h
          have h8 := zpo_u.mp h9.1
          have h7 := zpo_u.mp h9.2.1
          omega
set_option maxRecDepth 100000 in
set_option maxHeartbeats 4000000 in
theorem ct_S_placeOf (l : Launch) (b : Nat) (id : Nat → ClassId) (D : va_G) (htr : l.stackTraces = false) {g : Sg} {F : Fam} (hn : zn F ≤ 20) (hc : Hc g F) (x : Int32) : qCT l b id D m_S_placeOf false [.ref (b + 0), .int x] 85 kT g 85 kT (fun v g' => v = some (.int (nI (zpp x))) ∧ zpo (zn F) x ∧ g' = g) (fun E g' => E = "java/lang/IllegalArgumentException" ∧ ¬ zpo (zn F) x ∧ g' = g) := by
  refine qCT_of rfl (by decide) (Nat.le_of_ble_eq_true rfl) ?_
  show Vq l b id D m_S_placeOf false 85 kT _ 85 kT _ 85 kT 0 0 0 [(0, .ref (b + 0)), (1, .int x)] [] g
  refine vq_iload_n d_S_placeOf_0 rfl ?_
  refine vq_iconst (v := -1) d_S_placeOf_1 (by decide) ?_
  refine vq_icmp_ne (tgt := 8) d_S_placeOf_2 (by decide) (fun h2 => ?_) (fun h2 => ?_)
  · simp only [Int32.lt_iff_toInt_lt, Int32.le_iff_toInt_le, ← Int32.toInt_inj, tI0, tI1, tIm1, tI999, tIm, tI20] at h2
    refine vq_aload_n d_S_placeOf_8 rfl ?_
    refine vq_iload_n d_S_placeOf_9 rfl ?_
    refine vq_callV (n := 1) (C := R_S) (T := T_S) _ _ d_S_placeOf_10 (ct_S_requirePerson l b id D htr hn hc x) w_473 w_475 sel_S_requirePerson w_476 w_1 rfl ⟨by decide, by decide, by decide +kernel⟩ ⟨by decide, by decide⟩ (by decide) rfl rfl rfl rfl (Nat.le_of_ble_eq_true rfl) rfl rfl rfl ⟨by decide, by decide⟩ (fun E g9 h => ⟨h.1, fun hh => (zpo_u.mp hh).elim (fun h1 => h2 h1) (fun h1 => h.2.1 (zok_u.mpr h1)), h.2.2⟩) (fun v10 g10 h10 => ?_)
    obtain ⟨e110, h9, e210⟩ := h10
    rw [e110, e210]
    have h8 := zok_u.mp h9
    refine vq_iload_n d_S_placeOf_13 rfl ?_
    refine vq_iret d_S_placeOf_14 rfl (by decide) (by decide) rfl rfl ?_
    refine ⟨?_, zpo_u.mpr (by omega), rfl⟩
    unfold zpp
    first
      | (rw [if_pos h2]; rfl)
      | (rw [if_neg h2, ← nI_zi h8.1])
  · simp only [Int32.lt_iff_toInt_lt, Int32.le_iff_toInt_le, ← Int32.toInt_inj, tI0, tI1, tIm1, tI999, tIm, tI20] at h2
    refine vq_bipush (v := 20) d_S_placeOf_5 (by decide) ?_
    refine vq_iret d_S_placeOf_7 rfl (by decide) (by decide) rfl rfl ?_
    refine ⟨?_, zpo_u.mpr (by omega), rfl⟩
    unfold zpp
    first
      | (rw [if_pos h2]; rfl)
      | (rw [if_neg h2, ← nI_zi h8.1])
set_option maxRecDepth 100000 in
set_option maxHeartbeats 4000000 in
theorem ct_F_enter (l : Launch) (b : Nat) (id : Nat → ClassId) (D : va_G) {g : Sg} {F : Fam} (hn : zn F < 20) (hc : g.1 1 0 = nI (zn F)) (x y : Int32) : qCT l b id D m_F_enter false [.ref (b + 1), .int x, .int y] 85 kT g 85 kT (fun v g' => v = some (.int (nI (zn F))) ∧ g' = sI (sI (sI (sI (sI g 2 (upd (g.1 2) (zn F) x)) 3 (upd (g.1 3) (zn F) y)) 4 (upd (g.1 4) (zn F) (-1))) 5 (upd (g.1 5) (zn F) (-1))) 1 (upd (g.1 1) 0 (nI (zn F + 1)))) (fun _ _ => False) := by
  refine qCT_of rfl (by decide) (Nat.le_of_ble_eq_true rfl) ?_
  show Vq l b id D m_F_enter false 85 kT _ 85 kT _ 85 kT 0 0 0 [(0, .ref (b + 1)), (1, .int x), (2, .int y)] [] g
  refine vq_aload_n d_F_enter_0 rfl ?_
  refine vq_getI (k := 0) (C := R_F) (T := T_F) d_F_enter_1 rfl in_F w_31 (by decide) rfl (by decide) rfl ?_
  refine vq_int (y := nI (zn F)) hc ?_
  refine vq_istore_n (lv' := [(3, _), (0, _), (1, _), (2, _)]) d_F_enter_4 (by decide) rfl ?_
  refine vq_aload_n d_F_enter_5 rfl ?_
  refine vq_getR (k := 1) (C := R_F) (T := T_F) d_F_enter_6 rfl in_F w_37 (by decide) rfl (by decide) rfl rfl ?_
  refine vq_iload_n d_F_enter_9 rfl ?_
  refine vq_iload_n d_F_enter_10 rfl ?_
  refine vq_iast d_F_enter_11 rfl (by decide) rfl rfl (show _ < 20 by omega) ?_
  refine vq_aload_n d_F_enter_12 rfl ?_
  refine vq_getR (k := 2) (C := R_F) (T := T_F) d_F_enter_13 rfl in_F w_41 (by decide) rfl (by decide) rfl rfl ?_
  refine vq_iload_n d_F_enter_16 rfl ?_
  refine vq_iload_n d_F_enter_17 rfl ?_
  refine vq_iast d_F_enter_18 rfl (by decide) rfl rfl (show _ < 20 by omega) ?_
  refine vq_aload_n d_F_enter_19 rfl ?_
  refine vq_getR (k := 3) (C := R_F) (T := T_F) d_F_enter_20 rfl in_F w_45 (by decide) rfl (by decide) rfl rfl ?_
  refine vq_iload_n d_F_enter_23 rfl ?_
  refine vq_iconst (v := -1) d_F_enter_24 (by decide) ?_
  refine vq_iast d_F_enter_25 rfl (by decide) rfl rfl (show _ < 20 by omega) ?_
  refine vq_aload_n d_F_enter_26 rfl ?_
  refine vq_getR (k := 4) (C := R_F) (T := T_F) d_F_enter_27 rfl in_F w_48 (by decide) rfl (by decide) rfl rfl ?_
  refine vq_iload_n d_F_enter_30 rfl ?_
  refine vq_iconst (v := -1) d_F_enter_31 (by decide) ?_
  refine vq_iast d_F_enter_32 rfl (by decide) rfl rfl (show _ < 20 by omega) ?_
  refine vq_aload_n d_F_enter_33 rfl ?_
  refine vq_dup d_F_enter_34 rfl ?_
  refine vq_getI (k := 0) (C := R_F) (T := T_F) d_F_enter_35 rfl in_F w_31 (by decide) rfl (by decide) rfl ?_
  refine vq_int (y := nI (zn F)) hc ?_
  refine vq_iconst (v := 1) d_F_enter_38 (by decide) ?_
  refine vq_iadd d_F_enter_39 ?_
  rw [show nI (zn F) + 1 = nI (zn F + 1) from nI_1 _]
  refine vq_putI (k := 0) (C := R_F) (T := T_F) (ty := .int) t_F d_F_enter_40 rfl in_F w_31 ty_F nm_F (by decide) rfl (by decide) rfl (by decide +kernel) rfl rfl rfl ?_
  refine vq_iload_n d_F_enter_43 rfl ?_
  refine vq_iret d_F_enter_44 rfl (by decide) (by decide) rfl rfl ?_
  exact ⟨rfl, rfl⟩
set_option maxRecDepth 100000 in
set_option maxHeartbeats 4000000 in
theorem ct_F_setExcluded (l : Launch) (b : Nat) (id : Nat → ClassId) (D : va_G) {g : Sg} {w f : Nat} (hw : w < 20) (hf : f < 20) (is : Bool) : qCT l b id D m_F_setExcluded false [.ref (b + 1), .int (nI w), .int (nI f), .int (bI is)] 85 kT g 85 kT (fun v g' => v = none ∧ ∃ y, g' = sI g 28 (upd (g.1 28) f y) ∧ ∀ w', w' < 20 → bt1 y w' = if w' = w then is else bt1 (g.1 28 f) w') (fun _ _ => False) := by
  refine qCT_of rfl (by decide) (Nat.le_of_ble_eq_true rfl) ?_
  show Vq l b id D m_F_setExcluded false 85 kT _ 85 kT _ 85 kT 0 0 0 [(0, .ref (b + 1)), (1, .int (nI w)), (2, .int (nI f)), (3, .int (bI is))] [] g
  refine vq_aload_n d_F_setExcluded_0 rfl ?_
  refine vq_getR (k := 7) (C := R_F) (T := T_F) d_F_setExcluded_1 rfl in_F w_57 (by decide) rfl (by decide) rfl rfl ?_
  refine vq_iload_n d_F_setExcluded_4 rfl ?_
  refine vq_iload_n d_F_setExcluded_5 rfl ?_
  refine vq_if_eq (tgt := 22) d_F_setExcluded_6 (by decide) (fun h6 => ?_) (fun h6 => ?_)
  · rw [bI_0] at h6
    refine vq_aload_n d_F_setExcluded_22 rfl ?_
    refine vq_getR (k := 7) (C := R_F) (T := T_F) d_F_setExcluded_23 rfl in_F w_57 (by decide) rfl (by decide) rfl rfl ?_
    refine vq_iload_n d_F_setExcluded_26 rfl ?_
    refine vq_iald d_F_setExcluded_27 (by decide) rfl rfl (show _ < 20 by omega) ?_
    refine vq_iconst (v := 1) d_F_setExcluded_28 (by decide) ?_
    refine vq_iload_n d_F_setExcluded_29 rfl ?_
    refine vq_ishl d_F_setExcluded_30 ?_
    refine vq_iconst (v := -1) d_F_setExcluded_31 (by decide) ?_
    refine vq_ixor d_F_setExcluded_32 ?_
    refine vq_iand d_F_setExcluded_33 ?_
    refine vq_iast d_F_setExcluded_34 rfl (by decide) rfl rfl (show _ < 20 by omega) ?_
    refine vq_vret d_F_setExcluded_35 rfl (by decide) (by decide) rfl rfl ?_
    subst h6
    exact ⟨rfl, _, rfl, fun w' hw' => by first | exact bt1_on _ hw hw' | exact bt1_off _ hw hw'⟩
  · rw [bI_n0] at h6
    refine vq_aload_n d_F_setExcluded_9 rfl ?_
    refine vq_getR (k := 7) (C := R_F) (T := T_F) d_F_setExcluded_10 rfl in_F w_57 (by decide) rfl (by decide) rfl rfl ?_
    refine vq_iload_n d_F_setExcluded_13 rfl ?_
    refine vq_iald d_F_setExcluded_14 (by decide) rfl rfl (show _ < 20 by omega) ?_
    refine vq_iconst (v := 1) d_F_setExcluded_15 (by decide) ?_
    refine vq_iload_n d_F_setExcluded_16 rfl ?_
    refine vq_ishl d_F_setExcluded_17 ?_
    refine vq_ior d_F_setExcluded_18 ?_
    refine vq_goto (tgt := 34) d_F_setExcluded_19 (by decide) ?_
    refine vq_iast d_F_setExcluded_34 rfl (by decide) rfl rfl (show _ < 20 by omega) ?_
    refine vq_vret d_F_setExcluded_35 rfl (by decide) (by decide) rfl rfl ?_
    subst h6
    exact ⟨rfl, _, rfl, fun w' hw' => by first | exact bt1_on _ hw hw' | exact bt1_off _ hw hw'⟩
set_option maxRecDepth 100000 in
set_option maxHeartbeats 4000000 in
theorem ct_S_person (l : Launch) (b : Nat) (id : Nat → ClassId) (D : va_G) (htr : l.stackTraces = false) {g : Sg} {F : Fam} (hV : zV F) (hc : Hc g F) {k : Lg} (hl : Hl g k) (x y : Int32) : qCT l b id D m_S_person false [.ref (b + 0), .int x, .int y] 85 kT g 85 kT (cP (k_person F x y) (some (.int (nI (zn F)))) g (f_person F x y) k) (cX (k_person F x y) g) := by
  have hW := hV.1
  have hn := hW.1
  refine qCT_of rfl (by decide) (Nat.le_of_ble_eq_true rfl) ?_
  show Vq l b id D m_S_person false 85 kT _ 85 kT _ 85 kT 0 0 0 [(0, .ref (b + 0)), (1, .int x), (2, .int y)] [] g
  refine vq_iload_n d_S_person_0 rfl ?_
  refine vq_iload_n d_S_person_1 rfl ?_
  refine vq_aload_n d_S_person_2 rfl ?_
  refine vq_getR (k := 0) (C := R_S) (T := T_S) d_S_person_3 rfl in_S w_210 (by decide) rfl (by decide) rfl rfl ?_
  refine vq_getI (k := 0) (C := R_F) (T := T_F) d_S_person_6 rfl in_F w_32 (by decide) rfl (by decide) rfl ?_
  refine vq_int (y := nI (zn F)) hc.1 ?_
  refine vq_callS (n := 3) _ _ d_S_person_9 (ct_S_requireParents l b id D htr x y hn) w_375 w_376 w_377 w_1 rfl ⟨by decide, by decide, by decide +kernel⟩ ⟨by decide, by decide⟩ rfl rfl (Nat.le_of_ble_eq_true rfl) rfl rfl rfl ⟨by decide, by decide⟩ (fun E g9 h => ⟨Or.inl ⟨by unfold k_person; rw [if_neg h.2.1], h.1⟩, h.2.2⟩) (fun v9 g9 h9 => ?_)
  obtain ⟨e19, hp, e29⟩ := h9
  rw [e19, e29]
  refine vq_aload_n d_S_person_12 rfl ?_
  refine vq_getR (k := 0) (C := R_S) (T := T_S) d_S_person_13 rfl in_S w_210 (by decide) rfl (by decide) rfl rfl ?_
  refine vq_getI (k := 0) (C := R_F) (T := T_F) d_S_person_16 rfl in_F w_32 (by decide) rfl (by decide) rfl ?_
  refine vq_int (y := nI (zn F)) hc.1 ?_
  refine vq_bipush (v := 20) d_S_person_19 (by decide) ?_
  refine vq_icmp_lt (tgt := 34) d_S_person_21 (by decide) (fun h21 => ?_) (fun h21 => ?_)
  · simp only [Int32.lt_iff_toInt_lt, Int32.le_iff_toInt_le, ← Int32.toInt_inj, tI0, tI1, tIm1, tI999, tIm, tI20, nI_toInt (show zn F < 2 ^ 31 by omega)] at h21
    refine vq_aload_n d_S_person_34 rfl ?_
    refine vq_getR (k := 0) (C := R_S) (T := T_S) d_S_person_35 rfl in_S w_210 (by decide) rfl (by decide) rfl rfl ?_
    refine vq_iload_n d_S_person_38 rfl ?_
    refine vq_iload_n d_S_person_39 rfl ?_
    refine vq_callV (n := 2) (C := R_F) (T := T_F) _ _ d_S_person_40 (ct_F_enter l b id D (by omega) hc.1 x y) w_462 w_463 w_464 w_465 w_2 rfl ⟨by decide, by decide, by decide +kernel⟩ ⟨by decide, by decide⟩ (by decide) rfl rfl rfl rfl (Nat.le_of_ble_eq_true rfl) rfl rfl rfl ⟨by decide, by decide⟩ (fun _ _ h => h.elim) (fun v40 g40 h40 => ?_)
    obtain ⟨rfl, rfl⟩ := h40
    refine vq_iret d_S_person_43 rfl (by decide) (by decide) rfl rfl ?_
    have hk : k_person F x y = 0 := by unfold k_person; rw [if_pos hp, if_neg (by omega)]
    obtain ⟨p1, p2, p3⟩ := zpa_u.mp hp
    obtain ⟨c1, c2, c3, c4, c5, c6, c7, c8⟩ := hc
    have hF : f_person F x y = (zn F + 1, zset (za F) (zn F) (zop x), zset (zb F) (zn F) (zop y), zset (zs F) (zn F) none, zset (zd F) (zn F) none, zo F, zg F, zx F) := if_pos hk
    rw [hF]
    refine ⟨hk, rfl, ⟨rfl, fun p hp => ?_, fun p hp => ?_, fun p hp => ?_, fun p hp => ?_, c6, fun c p h1 h2 => ?_, c8⟩, hl.congr (fun q _ _ => rfl), fun q hq => ⟨?_, rfl⟩⟩
    · show upd (g.1 2) (zn F) x p = eO (zset (za F) (zn F) (zop x) p)
      replace hp : p < zn F + 1 := hp
      rw [upd]
      by_cases e : p = zn F
      · rw [if_pos e, e, zset_s, zop_e p1]
      · rw [if_neg e, zset_n e]; exact c2 p (by omega)
    · show upd (g.1 3) (zn F) y p = eO (zset (zb F) (zn F) (zop y) p)
      replace hp : p < zn F + 1 := hp
      rw [upd]
      by_cases e : p = zn F
      · rw [if_pos e, e, zset_s, zop_e p2]
      · rw [if_neg e, zset_n e]; exact c3 p (by omega)
    · show upd (g.1 4) (zn F) (-1) p = eO (zset (zs F) (zn F) none p)
      replace hp : p < zn F + 1 := hp
      rw [upd]
      by_cases e : p = zn F
      · rw [if_pos e, e, zset_s]; rfl
      · rw [if_neg e, zset_n e]; exact c4 p (by omega)
    · show upd (g.1 5) (zn F) (-1) p = eO (zset (zd F) (zn F) none p)
      replace hp : p < zn F + 1 := hp
      rw [upd]
      by_cases e : p = zn F
      · rw [if_pos e, e, zset_s]; rfl
      · rw [if_neg e, zset_n e]; exact c5 p (by omega)
    · rw [sI_n (by omega), sI_n (by omega), sI_n (by omega), sI_n (by omega), sI_n (by omega)]; exact c7 c p h1 h2
    · rw [sI_n (by omega), sI_n (by omega), sI_n (by omega), sI_n (by omega), sI_n (by omega)]
  · simp only [Int32.lt_iff_toInt_lt, Int32.le_iff_toInt_le, ← Int32.toInt_inj, tI0, tI1, tIm1, tI999, tIm, tI20, nI_toInt (show zn F < 2 ^ 31 by omega)] at h21
    refine vq_throw (text := "there are 20 persons already") (names := ["java/lang/RuntimeException", "java/lang/Exception"]) htr d_S_person_24 d_S_person_27 d_S_person_28 d_S_person_30 d_S_person_33 (by decide) (by decide) w_446 w_12 w_447 (by decide) (by decide +kernel) rfl (by decide) (by decide) (Nat.le_of_ble_eq_true rfl) (Nat.le_of_ble_eq_true rfl) rfl rfl ?_
    exact ⟨Or.inr ⟨by unfold k_person; rw [if_pos hp, if_pos (by omega)], rfl⟩, rfl⟩
set_option maxRecDepth 100000 in
set_option maxHeartbeats 4000000 in
theorem ct_S_amend (l : Launch) (b : Nat) (id : Nat → ClassId) (D : va_G) (htr : l.stackTraces = false) {g : Sg} {F : Fam} (hV : zV F) (hc : Hc g F) {k : Lg} (hl : Hl g k) (x y w : Int32) : qCT l b id D m_S_amend false [.ref (b + 0), .int x, .int y, .int w] 85 kT g 85 kT (cP (k_amend F x y w) none g (f_amend F x y w) k) (cX (k_amend F x y w) g) := by
  have hW := hV.1
  have hn := hW.1
  refine qCT_of rfl (by decide) (Nat.le_of_ble_eq_true rfl) ?_
  show Vq l b id D m_S_amend false 85 kT _ 85 kT _ 85 kT 0 0 0 [(0, .ref (b + 0)), (1, .int x), (2, .int y), (3, .int w)] [] g
  refine vq_aload_n d_S_amend_0 rfl ?_
  refine vq_iload_n d_S_amend_1 rfl ?_
  refine vq_callV (n := 1) (C := R_S) (T := T_S) _ _ d_S_amend_2 (ct_S_requirePerson l b id D htr hn hc x) w_473 w_475 sel_S_requirePerson w_476 w_1 rfl ⟨by decide, by decide, by decide +kernel⟩ ⟨by decide, by decide⟩ (by decide) rfl rfl rfl rfl (Nat.le_of_ble_eq_true rfl) rfl rfl rfl ⟨by decide, by decide⟩ (fun E g9 h => ⟨Or.inl ⟨by unfold k_amend; rw [if_neg (fun hh => h.2.1 hh.1)], h.1⟩, h.2.2⟩) (fun v2 g2 h2 => ?_)
  obtain ⟨e12, hx, e22⟩ := h2
  rw [e12, e22]
  obtain ⟨p, hp, rfl⟩ := zok_p hx
  have hz : zi (nI p) = p := zi_nI (by omega)
  refine vq_iload_n d_S_amend_5 rfl ?_
  refine vq_iload_n d_S_amend_6 rfl ?_
  refine vq_iload_n d_S_amend_7 rfl ?_
  refine vq_callS (n := 3) _ _ d_S_amend_8 (ct_S_requireParents l b id D htr y w (m := p) (by omega)) w_375 w_376 w_377 w_1 rfl ⟨by decide, by decide, by decide +kernel⟩ ⟨by decide, by decide⟩ rfl rfl (Nat.le_of_ble_eq_true rfl) rfl rfl rfl ⟨by decide, by decide⟩ (fun E g9 h => ⟨Or.inl ⟨by unfold k_amend; rw [hz, if_neg (fun hh => h.2.1 hh.2)], h.1⟩, h.2.2⟩) (fun v8 g8 h8 => ?_)
  obtain ⟨e18, hpa, e28⟩ := h8
  rw [e18, e28]
  refine vq_aload_n d_S_amend_11 rfl ?_
  refine vq_getR (k := 0) (C := R_S) (T := T_S) d_S_amend_12 rfl in_S w_210 (by decide) rfl (by decide) rfl rfl ?_
  refine vq_getR (k := 1) (C := R_F) (T := T_F) d_S_amend_15 rfl in_F w_38 (by decide) rfl (by decide) rfl rfl ?_
  refine vq_iload_n d_S_amend_18 rfl ?_
  refine vq_iload_n d_S_amend_19 rfl ?_
  refine vq_iast d_S_amend_20 rfl (by decide) rfl rfl (show _ < 20 by omega) ?_
  refine vq_aload_n d_S_amend_21 rfl ?_
  refine vq_getR (k := 0) (C := R_S) (T := T_S) d_S_amend_22 rfl in_S w_210 (by decide) rfl (by decide) rfl rfl ?_
  refine vq_getR (k := 2) (C := R_F) (T := T_F) d_S_amend_25 rfl in_F w_42 (by decide) rfl (by decide) rfl rfl ?_
  refine vq_iload_n d_S_amend_28 rfl ?_
  refine vq_iload_n d_S_amend_29 rfl ?_
  refine vq_iast d_S_amend_30 rfl (by decide) rfl rfl (show _ < 20 by omega) ?_
  refine vq_vret d_S_amend_31 rfl (by decide) (by decide) rfl rfl ?_
  have hk : k_amend F (nI p) y w = 0 := by unfold k_amend; rw [hz]; exact if_pos ⟨hx, hpa⟩
  obtain ⟨p1, p2, p3⟩ := zpa_u.mp hpa
  obtain ⟨c1, c2, c3, c4, c5, c6, c7, c8⟩ := hc
  have hF : f_amend F (nI p) y w = (zn F, zset (za F) p (zop y), zset (zb F) p (zop w), zs F, zd F, zo F, zg F, zx F) := by rw [← hz]; rw [hz]; unfold f_amend; rw [if_pos hk, hz]
  rw [hF]
  refine ⟨hk, rfl, ⟨c1, fun i hi => ?_, fun i hi => ?_, c4, c5, c6, fun c i h1 h2 => ?_, c8⟩, hl.congr (fun q _ _ => rfl), fun q hq => ⟨?_, rfl⟩⟩
  · show upd (g.1 2) p y i = eO (zset (za F) p (zop y) i)
    rw [upd]
    by_cases e : i = p
    · rw [if_pos e, e, zset_s, zop_e p1]
    · rw [if_neg e, zset_n e]; exact c2 i hi
  · show upd (g.1 3) p w i = eO (zset (zb F) p (zop w) i)
    rw [upd]
    by_cases e : i = p
    · rw [if_pos e, e, zset_s, zop_e p2]
    · rw [if_neg e, zset_n e]; exact c3 i hi
  · rw [sI_n (by omega), sI_n (by omega)]; exact c7 c i h1 h2
  · rw [sI_n (by omega), sI_n (by omega)]
