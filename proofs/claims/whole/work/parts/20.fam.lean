/-! What the class holds of a family, and the methods of SuccessionClerk$Family. Laid by wip/whole/specs/p20.py -/
def kT : Nat → Nat → Bool := fun _ _ => true
def eO : Option Nat → Int32
  | none => -1
  | some k => nI k
def bI : Bool → Int32
  | true => 1
  | false => 0
theorem bI_01 (x : Bool) : bI x = 0 ∨ bI x = 1 := by cases x <;> simp [bI]
theorem bI_0 {x : Bool} : bI x = 0 ↔ x = false := by cases x <;> simp [bI]
theorem bI_n0 {x : Bool} : ¬ bI x = 0 ↔ x = true := by cases x <;> simp [bI]
theorem r0 {x : Bool} (h : x = false) : some (Value.int 0) = some (Value.int (bI x)) := by rw [h]; rfl
theorem r1 {x : Bool} (h : x = true) : some (Value.int 1) = some (Value.int (bI x)) := by rw [h]; rfl
theorem nI_ne_m1 {k : Nat} (h : k < 2 ^ 31) : ¬ nI k = -1 := by
  intro e
  have h1 := nI_toInt h
  rw [e] at h1
  have h2 : (-1 : Int32).toInt = -1 := by decide
  omega
theorem eO_m1 {o : Option Nat} (h : ∀ k, o = some k → k < 2 ^ 31) : eO o = -1 ↔ o = none := by
  cases o with
  | none => simp [eO]
  | some k => simp [eO, nI_ne_m1 (h k rfl)]
/-- the bit of a person -/
def bt1 (x : Int32) (w : Nat) : Bool := !(decide (x &&& ((1 : Int32) <<< (nI w &&& 31)) = 0))
/-- the class holds the family F -/
def Hc (g : Sg) (F : Fam) : Prop := g.1 1 0 = nI (zn F) ∧ (∀ p, p < zn F → g.1 2 p = eO (za F p)) ∧ (∀ p, p < zn F → g.1 3 p = eO (zb F p)) ∧ (∀ p, p < zn F → g.1 4 p = eO (zs F p)) ∧ (∀ p, p < zn F → g.1 5 p = eO (zd F p)) ∧ (∀ p, p < 20 → g.1 6 p = nI (zo F p)) ∧ (∀ c p, c < 20 → p < 20 → g.1 (8 + c) p = nI (zg F c p)) ∧ (∀ w f, w < 20 → f < 20 → bt1 (g.1 28 f) w = zx F w f)
theorem Hc.congr {g g' : Sg} {F : Fam} (h : Hc g F) (hq : ∀ q, 1 ≤ q → q ≤ 28 → g'.1 q = g.1 q) : Hc g' F := by
  obtain ⟨h1, h2, h3, h4, h5, h6, h7, h8⟩ := h
  refine ⟨by rw [hq 1 (by omega) (by omega)]; exact h1, fun p hp => by rw [hq 2 (by omega) (by omega)]; exact h2 p hp, fun p hp => by rw [hq 3 (by omega) (by omega)]; exact h3 p hp, fun p hp => by rw [hq 4 (by omega) (by omega)]; exact h4 p hp, fun p hp => by rw [hq 5 (by omega) (by omega)]; exact h5 p hp, fun p hp => by rw [hq 6 (by omega) (by omega)]; exact h6 p hp, fun c p hc hp => by rw [hq (8 + c) (by omega) (by omega)]; exact h7 c p hc hp, fun w f hw hf => by rw [hq 28 (by omega) (by omega)]; exact h8 w f hw hf⟩
theorem zd_lt {F : Fam} (hW : zW F) {p : Nat} (hp : p < zn F) : ∀ k, zd F p = some k → k < 2 ^ 31 := fun k h => Nat.lt_of_le_of_lt (hW.2.2.2.2.2.1 p k hp h) (by decide)
theorem zs_lt {F : Fam} (hW : zW F) {p : Nat} (hp : p < zn F) : ∀ k, zs F p = some k → k < 2 ^ 31 := fun k h => Nat.lt_trans (hW.2.2.2.2.1 p k hp h) (Nat.lt_of_le_of_lt hW.1 (by decide))
theorem za_lt {F : Fam} (hW : zW F) {p : Nat} (hp : p < zn F) : ∀ k, za F p = some k → k < 2 ^ 31 := fun k h => Nat.lt_trans (hW.2.1 p k hp h) (Nat.lt_trans hp (Nat.lt_of_le_of_lt hW.1 (by decide)))
theorem zb_lt {F : Fam} (hW : zW F) {p : Nat} (hp : p < zn F) : ∀ k, zb F p = some k → k < 2 ^ 31 := fun k h => Nat.lt_trans (hW.2.2.1 p k hp h) (Nat.lt_trans hp (Nat.lt_of_le_of_lt hW.1 (by decide)))
theorem eO_nI {o : Option Nat} {p : Nat} (h : ∀ k, o = some k → k < 2 ^ 31) (hp : p < 2 ^ 31) : eO o = nI p ↔ o = some p := by
  cases o with
  | none =>
    simp only [eO]
    constructor
    · intro e; exact absurd e.symm (nI_ne_m1 hp)
    · intro e; cases e
  | some k =>
    simp only [eO]
    rw [nI_eq (h k rfl) hp]
    constructor
    · intro e; rw [e]
    · intro e; exact Option.some.inj e
def m_F_died : Mt := (y_F_died, c_F_died, 2, { frames := 8, cells := 0, slots := 0, locals := 130 }, (some .boolean), none)
def m_F_isChild : Mt := (y_F_isChild, c_F_isChild, 3, { frames := 8, cells := 0, slots := 0, locals := 130 }, (some .boolean), none)
def m_F_isExcluded : Mt := (y_F_isExcluded, c_F_isExcluded, 3, { frames := 8, cells := 0, slots := 0, locals := 130 }, (some .boolean), none)
def m_F_isLeft : Mt := (y_F_isLeft, c_F_isLeft, 3, { frames := 9, cells := 0, slots := 0, locals := 175 }, (some .boolean), none)
def m_F_isFree : Mt := (y_F_isFree, c_F_isFree, 2, { frames := 9, cells := 0, slots := 0, locals := 175 }, (some .boolean), none)
set_option maxRecDepth 100000 in
set_option maxHeartbeats 4000000 in
theorem ct_F_died (l : Launch) (b : Nat) (id : Nat → ClassId) (D : va_G) {g : Sg} {F : Fam} (hW : zW F) (hc : Hc g F) {k : Nat} (hk : k < zn F) : qCT l b id D m_F_died false [.ref (b + 1), .int (nI k)] 85 kT g 85 kT (fun v g' => v = some (.int (bI (zd F k).isSome)) ∧ g' = g) (fun _ _ => False) := by
  have hn := hW.1
  have hd5 := hc.2.2.2.2.1 k hk
  refine qCT_of rfl (by decide) (Nat.le_of_ble_eq_true rfl) ?_
  show Vq l b id D m_F_died false 85 kT _ 85 kT _ 85 kT 0 0 0 [(0, .ref (b + 1)), (1, .int (nI k))] [] g
  refine vq_aload_n d_F_died_0 rfl ?_
  refine vq_getR (k := 4) (C := R_F) (T := T_F) d_F_died_1 rfl in_F w_48 (by decide) rfl (by decide) rfl rfl ?_
  refine vq_iload_n d_F_died_4 rfl ?_
  refine vq_iald d_F_died_5 (by decide) rfl rfl (show _ < 20 by omega) ?_
  refine vq_iconst (v := -1) d_F_died_6 (by decide) ?_
  refine vq_icmp_eq (tgt := 14) d_F_died_7 (by decide) (fun h7 => ?_) (fun h7 => ?_)
  · rw [hd5] at h7
    refine vq_iconst (v := 0) d_F_died_14 (by decide) ?_
    refine vq_zret d_F_died_15 rfl (by first | exact Or.inl rfl | exact Or.inr rfl | assumption) (by decide) (by decide) rfl rfl ?_
    first
      | exact ⟨by rw [show (zd F k).isSome = false by rw [(eO_m1 (zd_lt hW hk)).mp h7]; rfl]; rfl, rfl⟩
      | exact ⟨by rw [show (zd F k).isSome = true by cases hz : zd F k with | none => exact absurd (by rw [hz]; rfl) h7 | some x => rfl]; rfl, rfl⟩
  · rw [hd5] at h7
    refine vq_iconst (v := 1) d_F_died_10 (by decide) ?_
    refine vq_goto (tgt := 15) d_F_died_11 (by decide) ?_
    refine vq_zret d_F_died_15 rfl (by first | exact Or.inl rfl | exact Or.inr rfl | assumption) (by decide) (by decide) rfl rfl ?_
    first
      | exact ⟨by rw [show (zd F k).isSome = false by rw [(eO_m1 (zd_lt hW hk)).mp h7]; rfl]; rfl, rfl⟩
      | exact ⟨by rw [show (zd F k).isSome = true by cases hz : zd F k with | none => exact absurd (by rw [hz]; rfl) h7 | some x => rfl]; rfl, rfl⟩
set_option maxRecDepth 100000 in
set_option maxHeartbeats 4000000 in
theorem ct_F_isChild (l : Launch) (b : Nat) (id : Nat → ClassId) (D : va_G) {g : Sg} {F : Fam} (hW : zW F) (hc : Hc g F) {k p : Nat} (hk : k < zn F) (hp : p < zn F) : qCT l b id D m_F_isChild false [.ref (b + 1), .int (nI k), .int (nI p)] 85 kT g 85 kT (fun v g' => v = some (.int (bI (zch F k p))) ∧ g' = g) (fun _ _ => False) := by
  have hn := hW.1
  have ha := hc.2.1 k hk
  have hb := hc.2.2.1 k hk
  have hp31 : p < 2 ^ 31 := by omega
  refine qCT_of rfl (by decide) (Nat.le_of_ble_eq_true rfl) ?_
  show Vq l b id D m_F_isChild false 85 kT _ 85 kT _ 85 kT 0 0 0 [(0, .ref (b + 1)), (1, .int (nI k)), (2, .int (nI p))] [] g
  refine vq_aload_n d_F_isChild_0 rfl ?_
  refine vq_getR (k := 1) (C := R_F) (T := T_F) d_F_isChild_1 rfl in_F w_37 (by decide) rfl (by decide) rfl rfl ?_
  refine vq_iload_n d_F_isChild_4 rfl ?_
  refine vq_iald d_F_isChild_5 (by decide) rfl rfl (show _ < 20 by omega) ?_
  refine vq_iload_n d_F_isChild_6 rfl ?_
  refine vq_icmp_eq (tgt := 20) d_F_isChild_7 (by decide) (fun h7 => ?_) (fun h7 => ?_)
  · rw [ha, eO_nI (za_lt hW hk) hp31] at h7
    refine vq_iconst (v := 1) d_F_isChild_20 (by decide) ?_
    refine vq_goto (tgt := 25) d_F_isChild_21 (by decide) ?_
    refine vq_zret d_F_isChild_25 rfl (by first | exact Or.inl rfl | exact Or.inr rfl | assumption) (by decide) (by decide) rfl rfl ?_
    first | refine ⟨r0 ?_, rfl⟩ | refine ⟨r1 ?_, rfl⟩
    first | (simp [zch, h7]; done) | (simp [zch, h7, h17]; done)
  · rw [ha, eO_nI (za_lt hW hk) hp31] at h7
    refine vq_aload_n d_F_isChild_10 rfl ?_
    refine vq_getR (k := 2) (C := R_F) (T := T_F) d_F_isChild_11 rfl in_F w_41 (by decide) rfl (by decide) rfl rfl ?_
    refine vq_iload_n d_F_isChild_14 rfl ?_
    refine vq_iald d_F_isChild_15 (by decide) rfl rfl (show _ < 20 by omega) ?_
    refine vq_iload_n d_F_isChild_16 rfl ?_
    refine vq_icmp_ne (tgt := 24) d_F_isChild_17 (by decide) (fun h17 => ?_) (fun h17 => ?_)
    · rw [hb, eO_nI (zb_lt hW hk) hp31] at h17
      refine vq_iconst (v := 0) d_F_isChild_24 (by decide) ?_
      refine vq_zret d_F_isChild_25 rfl (by first | exact Or.inl rfl | exact Or.inr rfl | assumption) (by decide) (by decide) rfl rfl ?_
      first | refine ⟨r0 ?_, rfl⟩ | refine ⟨r1 ?_, rfl⟩
      first | (simp [zch, h7]; done) | (simp [zch, h7, h17]; done)
    · rw [hb, eO_nI (zb_lt hW hk) hp31] at h17
      refine vq_iconst (v := 1) d_F_isChild_20 (by decide) ?_
      refine vq_goto (tgt := 25) d_F_isChild_21 (by decide) ?_
      refine vq_zret d_F_isChild_25 rfl (by first | exact Or.inl rfl | exact Or.inr rfl | assumption) (by decide) (by decide) rfl rfl ?_
      first | refine ⟨r0 ?_, rfl⟩ | refine ⟨r1 ?_, rfl⟩
      first | (simp [zch, h7]; done) | (simp [zch, h7, h17]; done)
set_option maxRecDepth 100000 in
set_option maxHeartbeats 4000000 in
theorem ct_F_isExcluded (l : Launch) (b : Nat) (id : Nat → ClassId) (D : va_G) {g : Sg} {F : Fam} (hW : zW F) (hc : Hc g F) {w f : Nat} (hw : w < 20) (hf : f < 20) : qCT l b id D m_F_isExcluded false [.ref (b + 1), .int (nI w), .int (nI f)] 85 kT g 85 kT (fun v g' => v = some (.int (bI (zx F w f))) ∧ g' = g) (fun _ _ => False) := by
  have hx := hc.2.2.2.2.2.2.2 w f hw hf
  refine qCT_of rfl (by decide) (Nat.le_of_ble_eq_true rfl) ?_
  show Vq l b id D m_F_isExcluded false 85 kT _ 85 kT _ 85 kT 0 0 0 [(0, .ref (b + 1)), (1, .int (nI w)), (2, .int (nI f))] [] g
  refine vq_aload_n d_F_isExcluded_0 rfl ?_
  refine vq_getR (k := 7) (C := R_F) (T := T_F) d_F_isExcluded_1 rfl in_F w_57 (by decide) rfl (by decide) rfl rfl ?_
  refine vq_iload_n d_F_isExcluded_4 rfl ?_
  refine vq_iald d_F_isExcluded_5 (by decide) rfl rfl (show _ < 20 by omega) ?_
  refine vq_iconst (v := 1) d_F_isExcluded_6 (by decide) ?_
  refine vq_iload_n d_F_isExcluded_7 rfl ?_
  refine vq_ishl d_F_isExcluded_8 ?_
  refine vq_iand d_F_isExcluded_9 ?_
  refine vq_if_eq (tgt := 17) d_F_isExcluded_10 (by decide) (fun h10 => ?_) (fun h10 => ?_)
  · refine vq_iconst (v := 0) d_F_isExcluded_17 (by decide) ?_
    refine vq_zret d_F_isExcluded_18 rfl (by first | exact Or.inl rfl | exact Or.inr rfl | assumption) (by decide) (by decide) rfl rfl ?_
    exact ⟨by rw [← hx]; simp [bt1, h10, bI], rfl⟩
  · refine vq_iconst (v := 1) d_F_isExcluded_13 (by decide) ?_
    refine vq_goto (tgt := 18) d_F_isExcluded_14 (by decide) ?_
    refine vq_zret d_F_isExcluded_18 rfl (by first | exact Or.inl rfl | exact Or.inr rfl | assumption) (by decide) (by decide) rfl rfl ?_
    exact ⟨by rw [← hx]; simp [bt1, h10, bI], rfl⟩
set_option maxRecDepth 100000 in
set_option maxHeartbeats 4000000 in
theorem ct_F_isLeft (l : Launch) (b : Nat) (id : Nat → ClassId) (D : va_G) {g : Sg} {F : Fam} (hW : zW F) (hc : Hc g F) {w e u : Nat} (hk : w < zn F) (he : e < zn F) (hu : zd F e = some u) : qCT l b id D m_F_isLeft false [.ref (b + 1), .int (nI w), .int (nI e)] 85 kT g 85 kT (fun v g' => v = some (.int (bI (zl F e w))) ∧ g' = g) (fun _ _ => False) := by
  have hn := hW.1
  have hd5 := hc.2.2.2.2.1 w hk
  have hd6 := hc.2.2.2.2.1 e he
  have hu9 := hW.2.2.2.2.2.1 e u he hu
  refine qCT_of rfl (by decide) (Nat.le_of_ble_eq_true rfl) ?_
  show Vq l b id D m_F_isLeft false 85 kT _ 85 kT _ 85 kT 0 0 0 [(0, .ref (b + 1)), (1, .int (nI w)), (2, .int (nI e))] [] g
  refine vq_iload_n d_F_isLeft_0 rfl ?_
  refine vq_iload_n d_F_isLeft_1 rfl ?_
  refine vq_icmp_eq (tgt := 41) d_F_isLeft_2 (by decide) (fun h2 => ?_) (fun h2 => ?_)
  · rw [nI_eq (by omega) (by omega)] at h2
    refine vq_iconst (v := 0) d_F_isLeft_41 (by decide) ?_
    refine vq_zret d_F_isLeft_42 rfl (by first | exact Or.inl rfl | exact Or.inr rfl | assumption) (by decide) (by decide) rfl rfl ?_
    first | refine ⟨r0 ?_, rfl⟩ | refine ⟨r1 ?_, rfl⟩
    unfold zl zlt
    first | (simp [h2]; done) | (simp [h2, h11]; done) | (simp [h2, h11, ht]; done) | (simp [h2, h11, ht, hu]; omega) | (simp [h2, h11, ht, hu]; done)
  · rw [nI_eq (by omega) (by omega)] at h2
    refine vq_aload_n d_F_isLeft_5 rfl ?_
    refine vq_iload_n d_F_isLeft_6 rfl ?_
    refine vq_iload_n d_F_isLeft_7 rfl ?_
    refine vq_callV (n := 2) (C := R_F) (T := T_F) _ _ d_F_isLeft_8 (ct_F_isExcluded l b id D hW hc (w := w) (f := e) (by omega) (by omega)) w_265 w_266 w_267 w_268 w_2 rfl ⟨by decide, by decide, by decide +kernel⟩ ⟨by decide, by decide⟩ (by decide) rfl rfl rfl rfl (by decide) rfl rfl rfl ⟨by decide, by decide⟩ (fun _ _ h => h.elim) (fun v8 g8 h8 => ?_)
    rw [h8.1, h8.2]
    refine vq_if_ne (tgt := 41) d_F_isLeft_11 (by decide) (fun h11 => ?_) (fun h11 => ?_)
    · rw [bI_n0] at h11
      refine vq_iconst (v := 0) d_F_isLeft_41 (by decide) ?_
      refine vq_zret d_F_isLeft_42 rfl (by first | exact Or.inl rfl | exact Or.inr rfl | assumption) (by decide) (by decide) rfl rfl ?_
      first | refine ⟨r0 ?_, rfl⟩ | refine ⟨r1 ?_, rfl⟩
      unfold zl zlt
      first | (simp [h2]; done) | (simp [h2, h11]; done) | (simp [h2, h11, ht]; done) | (simp [h2, h11, ht, hu]; omega) | (simp [h2, h11, ht, hu]; done)
    · rw [bI_0] at h11
      refine vq_aload_n d_F_isLeft_14 rfl ?_
      refine vq_iload_n d_F_isLeft_15 rfl ?_
      refine vq_callV (n := 1) (C := R_F) (T := T_F) _ _ d_F_isLeft_16 (ct_F_died l b id D hW hc hk) w_269 w_243 w_244 w_245 w_2 rfl ⟨by decide, by decide, by decide +kernel⟩ ⟨by decide, by decide⟩ (by decide) rfl rfl rfl rfl (by decide) rfl rfl rfl ⟨by decide, by decide⟩ (fun _ _ h => h.elim) (fun v16 g16 h16 => ?_)
      rw [h16.1, h16.2]
      refine vq_if_eq (tgt := 37) d_F_isLeft_19 (by decide) (fun h19 => ?_) (fun h19 => ?_)
      · have ht : zd F w = none := by cases hz : zd F w with | none => rfl | some x => rw [hz] at h19; cases h19
        refine vq_iconst (v := 1) d_F_isLeft_37 (by decide) ?_
        refine vq_goto (tgt := 42) d_F_isLeft_38 (by decide) ?_
        refine vq_zret d_F_isLeft_42 rfl (by first | exact Or.inl rfl | exact Or.inr rfl | assumption) (by decide) (by decide) rfl rfl ?_
        first | refine ⟨r0 ?_, rfl⟩ | refine ⟨r1 ?_, rfl⟩
        unfold zl zlt
        first | (simp [h2]; done) | (simp [h2, h11]; done) | (simp [h2, h11, ht]; done) | (simp [h2, h11, ht, hu]; omega) | (simp [h2, h11, ht, hu]; done)
      · obtain ⟨t, ht⟩ := Option.isSome_iff_exists.mp (bI_n0.mp h19)
        have ht9 := hW.2.2.2.2.2.1 w t hk ht
        refine vq_aload_n d_F_isLeft_22 rfl ?_
        refine vq_getR (k := 4) (C := R_F) (T := T_F) d_F_isLeft_23 rfl in_F w_48 (by decide) rfl (by decide) rfl rfl ?_
        refine vq_iload_n d_F_isLeft_26 rfl ?_
        refine vq_iald d_F_isLeft_27 (by decide) rfl rfl (show _ < 20 by omega) ?_
        refine vq_aload_n d_F_isLeft_28 rfl ?_
        refine vq_getR (k := 4) (C := R_F) (T := T_F) d_F_isLeft_29 rfl in_F w_48 (by decide) rfl (by decide) rfl rfl ?_
        refine vq_iload_n d_F_isLeft_32 rfl ?_
        refine vq_iald d_F_isLeft_33 (by decide) rfl rfl (show _ < 20 by omega) ?_
        refine vq_icmp_le (tgt := 41) d_F_isLeft_34 (by decide) (fun h34 => ?_) (fun h34 => ?_)
        · rw [hd5, hd6, ht, hu, show eO (some t) = nI t from rfl, show eO (some u) = nI u from rfl, nI_leI (by omega) (by omega)] at h34
          refine vq_iconst (v := 0) d_F_isLeft_41 (by decide) ?_
          refine vq_zret d_F_isLeft_42 rfl (by first | exact Or.inl rfl | exact Or.inr rfl | assumption) (by decide) (by decide) rfl rfl ?_
          first | refine ⟨r0 ?_, rfl⟩ | refine ⟨r1 ?_, rfl⟩
          unfold zl zlt
          first | (simp [h2]; done) | (simp [h2, h11]; done) | (simp [h2, h11, ht]; done) | (simp [h2, h11, ht, hu]; omega) | (simp [h2, h11, ht, hu]; done)
        · rw [hd5, hd6, ht, hu, show eO (some t) = nI t from rfl, show eO (some u) = nI u from rfl, nI_leI (by omega) (by omega)] at h34
          refine vq_iconst (v := 1) d_F_isLeft_37 (by decide) ?_
          refine vq_goto (tgt := 42) d_F_isLeft_38 (by decide) ?_
          refine vq_zret d_F_isLeft_42 rfl (by first | exact Or.inl rfl | exact Or.inr rfl | assumption) (by decide) (by decide) rfl rfl ?_
          first | refine ⟨r0 ?_, rfl⟩ | refine ⟨r1 ?_, rfl⟩
          unfold zl zlt
          first | (simp [h2]; done) | (simp [h2, h11]; done) | (simp [h2, h11, ht]; done) | (simp [h2, h11, ht, hu]; omega) | (simp [h2, h11, ht, hu]; done)
def zfree (F : Fam) (k : Nat) : Bool := (zd F k).isNone && (match zs F k with | none => true | some j => (zd F j).isSome)
set_option maxRecDepth 100000 in
set_option maxHeartbeats 4000000 in
theorem ct_F_isFree (l : Launch) (b : Nat) (id : Nat → ClassId) (D : va_G) {g : Sg} {F : Fam} (hW : zW F) (hc : Hc g F) {k : Nat} (hk : k < zn F) : qCT l b id D m_F_isFree false [.ref (b + 1), .int (nI k)] 85 kT g 85 kT (fun v g' => v = some (.int (bI (zfree F k))) ∧ g' = g) (fun _ _ => False) := by
  have hn := hW.1
  have hs4 := hc.2.2.2.1 k hk
  refine qCT_of rfl (by decide) (Nat.le_of_ble_eq_true rfl) ?_
  show Vq l b id D m_F_isFree false 85 kT _ 85 kT _ 85 kT 0 0 0 [(0, .ref (b + 1)), (1, .int (nI k))] [] g
  refine vq_aload_n d_F_isFree_0 rfl ?_
  refine vq_iload_n d_F_isFree_1 rfl ?_
  refine vq_callV (n := 1) (C := R_F) (T := T_F) _ _ d_F_isFree_2 (ct_F_died l b id D hW hc hk) w_269 w_243 w_244 w_245 w_2 rfl ⟨by decide, by decide, by decide +kernel⟩ ⟨by decide, by decide⟩ (by decide) rfl rfl rfl rfl (by decide) rfl rfl rfl ⟨by decide, by decide⟩ (fun _ _ h => h.elim) (fun v2 g2 h2 => ?_)
  rw [h2.1, h2.2]
  refine vq_if_ne (tgt := 35) d_F_isFree_5 (by decide) (fun h5 => ?_) (fun h5 => ?_)
  · have hd : (zd F k).isSome = true := bI_n0.mp h5
    refine vq_iconst (v := 0) d_F_isFree_35 (by decide) ?_
    refine vq_zret d_F_isFree_36 rfl (by first | exact Or.inl rfl | exact Or.inr rfl | assumption) (by decide) (by decide) rfl rfl ?_
    first | refine ⟨r0 ?_, rfl⟩ | refine ⟨r1 ?_, rfl⟩
    unfold zfree
    first | (simp [← Option.not_isSome, hd]; done) | (simp [← Option.not_isSome, hd, h15]; done) | (simp [← Option.not_isSome, hd, hj, h28]; done)
  · have hd : (zd F k).isSome = false := bI_0.mp h5
    refine vq_aload_n d_F_isFree_8 rfl ?_
    refine vq_getR (k := 3) (C := R_F) (T := T_F) d_F_isFree_9 rfl in_F w_45 (by decide) rfl (by decide) rfl rfl ?_
    refine vq_iload_n d_F_isFree_12 rfl ?_
    refine vq_iald d_F_isFree_13 (by decide) rfl rfl (show _ < 20 by omega) ?_
    refine vq_iconst (v := -1) d_F_isFree_14 (by decide) ?_
    refine vq_icmp_eq (tgt := 31) d_F_isFree_15 (by decide) (fun h15 => ?_) (fun h15 => ?_)
    · rw [hs4, eO_m1 (zs_lt hW hk)] at h15
      refine vq_iconst (v := 1) d_F_isFree_31 (by decide) ?_
      refine vq_goto (tgt := 36) d_F_isFree_32 (by decide) ?_
      refine vq_zret d_F_isFree_36 rfl (by first | exact Or.inl rfl | exact Or.inr rfl | assumption) (by decide) (by decide) rfl rfl ?_
      first | refine ⟨r0 ?_, rfl⟩ | refine ⟨r1 ?_, rfl⟩
      unfold zfree
      first | (simp [← Option.not_isSome, hd]; done) | (simp [← Option.not_isSome, hd, h15]; done) | (simp [← Option.not_isSome, hd, hj, h28]; done)
    · rw [hs4, eO_m1 (zs_lt hW hk)] at h15
      obtain ⟨j, hj⟩ := Option.ne_none_iff_exists'.mp h15
      have hjn := hW.2.2.2.2.1 k j hk hj
      refine vq_aload_n d_F_isFree_18 rfl ?_
      refine vq_aload_n d_F_isFree_19 rfl ?_
      refine vq_getR (k := 3) (C := R_F) (T := T_F) d_F_isFree_20 rfl in_F w_45 (by decide) rfl (by decide) rfl rfl ?_
      refine vq_iload_n d_F_isFree_23 rfl ?_
      refine vq_iald d_F_isFree_24 (by decide) rfl rfl (show _ < 20 by omega) ?_
      rw [hs4, hj]
      refine vq_callV (n := 1) (C := R_F) (T := T_F) _ _ d_F_isFree_25 (ct_F_died l b id D hW hc hjn) w_269 w_243 w_244 w_245 w_2 rfl ⟨by decide, by decide, by decide +kernel⟩ ⟨by decide, by decide⟩ (by decide) rfl rfl rfl rfl (by decide) rfl rfl rfl ⟨by decide, by decide⟩ (fun _ _ h => h.elim) (fun v25 g25 h25 => ?_)
      rw [h25.1, h25.2]
      refine vq_if_eq (tgt := 35) d_F_isFree_28 (by decide) (fun h28 => ?_) (fun h28 => ?_)
      · rw [bI_0] at h28
        refine vq_iconst (v := 0) d_F_isFree_35 (by decide) ?_
        refine vq_zret d_F_isFree_36 rfl (by first | exact Or.inl rfl | exact Or.inr rfl | assumption) (by decide) (by decide) rfl rfl ?_
        first | refine ⟨r0 ?_, rfl⟩ | refine ⟨r1 ?_, rfl⟩
        unfold zfree
        first | (simp [← Option.not_isSome, hd]; done) | (simp [← Option.not_isSome, hd, h15]; done) | (simp [← Option.not_isSome, hd, hj, h28]; done)
      · rw [bI_n0] at h28
        refine vq_iconst (v := 1) d_F_isFree_31 (by decide) ?_
        refine vq_goto (tgt := 36) d_F_isFree_32 (by decide) ?_
        refine vq_zret d_F_isFree_36 rfl (by first | exact Or.inl rfl | exact Or.inr rfl | assumption) (by decide) (by decide) rfl rfl ?_
        first | refine ⟨r0 ?_, rfl⟩ | refine ⟨r1 ?_, rfl⟩
        unfold zfree
        first | (simp [← Option.not_isSome, hd]; done) | (simp [← Option.not_isSome, hd, h15]; done) | (simp [← Option.not_isSome, hd, hj, h28]; done)
