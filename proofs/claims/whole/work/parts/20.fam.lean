/-! What the class holds of a family, and the methods of SuccessionClerk$Family. Laid by wip/whole/specs/p20.py -/
def kT : Nat → Nat → Bool := fun _ _ => true
def eO : Option Nat → Int32
  | none => -1
  | some k => nI k
def bI : Bool → Int32
  | true => 1
  | false => 0
theorem bI_01 (x : Bool) : bI x = 0 ∨ bI x = 1 := by cases x <;> simp [bI]
theorem bI_0 {x : Bool} : bI x = 0 ↔ x = false := by cases x <;> simp [bI]
theorem bI_n0 {x : Bool} : ¬ bI x = 0 ↔ x = true := by cases x <;> simp [bI]
theorem nI_ne_m1 {k : Nat} (h : k < 2 ^ 31) : ¬ nI k = -1 := by
  intro e
  have h1 := nI_toInt h
  rw [e] at h1
  have h2 : (-1 : Int32).toInt = -1 := by decide
  omega
theorem eO_m1 {o : Option Nat} (h : ∀ k, o = some k → k < 2 ^ 31) : eO o = -1 ↔ o = none := by
  cases o with
  | none => simp [eO]
  | some k => simp [eO, nI_ne_m1 (h k rfl)]
/-- the bit of a person -/
def bt1 (x : Int32) (w : Nat) : Bool := !(decide (x &&& ((1 : Int32) <<< (nI w &&& 31)) = 0))
/-- the class holds the family F -/
def Hc (g : Sg) (F : Fam) : Prop := g.1 1 0 = nI (zn F) ∧ (∀ p, p < zn F → g.1 2 p = eO (za F p)) ∧ (∀ p, p < zn F → g.1 3 p = eO (zb F p)) ∧ (∀ p, p < zn F → g.1 4 p = eO (zs F p)) ∧ (∀ p, p < zn F → g.1 5 p = eO (zd F p)) ∧ (∀ p, p < 20 → g.1 6 p = nI (zo F p)) ∧ (∀ c p, c < 20 → p < 20 → g.1 (8 + c) p = nI (zg F c p)) ∧ (∀ w f, w < 20 → f < 20 → bt1 (g.1 28 f) w = zx F w f)
theorem Hc.congr {g g' : Sg} {F : Fam} (h : Hc g F) (hq : ∀ q, 1 ≤ q → q ≤ 28 → g'.1 q = g.1 q) : Hc g' F := by
  obtain ⟨h1, h2, h3, h4, h5, h6, h7, h8⟩ := h
  refine ⟨by rw [hq 1 (by omega) (by omega)]; exact h1, fun p hp => by rw [hq 2 (by omega) (by omega)]; exact h2 p hp, fun p hp => by rw [hq 3 (by omega) (by omega)]; exact h3 p hp, fun p hp => by rw [hq 4 (by omega) (by omega)]; exact h4 p hp, fun p hp => by rw [hq 5 (by omega) (by omega)]; exact h5 p hp, fun p hp => by rw [hq 6 (by omega) (by omega)]; exact h6 p hp, fun c p hc hp => by rw [hq (8 + c) (by omega) (by omega)]; exact h7 c p hc hp, fun w f hw hf => by rw [hq 28 (by omega) (by omega)]; exact h8 w f hw hf⟩
theorem zd_lt {F : Fam} (hW : zW F) {p : Nat} (hp : p < zn F) : ∀ k, zd F p = some k → k < 2 ^ 31 := fun k h => Nat.lt_of_le_of_lt (hW.2.2.2.2.2.1 p k hp h) (by decide)
theorem zs_lt {F : Fam} (hW : zW F) {p : Nat} (hp : p < zn F) : ∀ k, zs F p = some k → k < 2 ^ 31 := fun k h => Nat.lt_trans (hW.2.2.2.2.1 p k hp h) (Nat.lt_of_le_of_lt hW.1 (by decide))
theorem za_lt {F : Fam} (hW : zW F) {p : Nat} (hp : p < zn F) : ∀ k, za F p = some k → k < 2 ^ 31 := fun k h => Nat.lt_trans (hW.2.1 p k hp h) (Nat.lt_trans hp (Nat.lt_of_le_of_lt hW.1 (by decide)))
theorem zb_lt {F : Fam} (hW : zW F) {p : Nat} (hp : p < zn F) : ∀ k, zb F p = some k → k < 2 ^ 31 := fun k h => Nat.lt_trans (hW.2.2.1 p k hp h) (Nat.lt_trans hp (Nat.lt_of_le_of_lt hW.1 (by decide)))
theorem eO_nI {o : Option Nat} {p : Nat} (h : ∀ k, o = some k → k < 2 ^ 31) (hp : p < 2 ^ 31) : eO o = nI p ↔ o = some p := by
  cases o with
  | none =>
    simp only [eO]
    constructor
    · intro e; exact absurd e.symm (nI_ne_m1 hp)
    · intro e; cases e
  | some k =>
    simp only [eO]
    rw [nI_eq (h k rfl) hp]
    constructor
    · intro e; rw [e]
    · intro e; exact Option.some.inj e
def m_F_died : Mt := (y_F_died, c_F_died, 2, { frames := 8, cells := 0, slots := 0, locals := 130 }, (some .boolean), none)
def m_F_isChild : Mt := (y_F_isChild, c_F_isChild, 3, { frames := 8, cells := 0, slots := 0, locals := 130 }, (some .boolean), none)
def m_F_isExcluded : Mt := (y_F_isExcluded, c_F_isExcluded, 3, { frames := 8, cells := 0, slots := 0, locals := 130 }, (some .boolean), none)
def m_F_isLeft : Mt := (y_F_isLeft, c_F_isLeft, 3, { frames := 9, cells := 0, slots := 0, locals := 175 }, (some .boolean), none)
def m_F_isFree : Mt := (y_F_isFree, c_F_isFree, 2, { frames := 9, cells := 0, slots := 0, locals := 175 }, (some .boolean), none)
set_option maxRecDepth 100000 in
set_option maxHeartbeats 4000000 in
theorem ct_F_died (l : Launch) (b : Nat) (id : Nat → ClassId) (D : va_G) {g : Sg} {F : Fam} (hW : zW F) (hc : Hc g F) {k : Nat} (hk : k < zn F) : qCT l b id D m_F_died false [.ref (b + 1), .int (nI k)] 85 kT g 85 kT (fun v g' => v = some (.int (bI (zd F k).isSome)) ∧ g' = g) (fun _ _ => False) := by
  have hn := hW.1
  have hd5 := hc.2.2.2.2.1 k hk
  refine qCT_of rfl (by decide) (Nat.le_of_ble_eq_true rfl) ?_
  show Vq l b id D m_F_died false 85 kT _ 85 kT _ 85 kT 0 0 0 [(0, .ref (b + 1)), (1, .int (nI k))] [] g
  refine vq_aload_n d_F_died_0 rfl ?_
  refine vq_getR (k := 4) (C := R_F) (T := T_F) d_F_died_1 rfl in_F w_48 (by decide) rfl (by decide) rfl rfl ?_
  refine vq_iload_n d_F_died_4 rfl ?_
  refine vq_iald d_F_died_5 (by decide) rfl rfl (show _ < 20 by omega) ?_
  refine vq_iconst (v := -1) d_F_died_6 (by decide) ?_
  refine vq_icmp_eq (tgt := 14) d_F_died_7 (by decide) (fun h7 => ?_) (fun h7 => ?_)
  · rw [hd5] at h7
    refine vq_iconst (v := 0) d_F_died_14 (by decide) ?_
    refine vq_zret d_F_died_15 rfl (by first | exact Or.inl rfl | exact Or.inr rfl | assumption) (by decide) (by decide) rfl rfl ?_
    first
      | exact ⟨by rw [show (zd F k).isSome = false by rw [(eO_m1 (zd_lt hW hk)).mp h7]; rfl]; rfl, rfl⟩
      | exact ⟨by rw [show (zd F k).isSome = true by cases hz : zd F k with | none => exact absurd (by rw [hz]; rfl) h7 | some x => rfl]; rfl, rfl⟩
  · rw [hd5] at h7
    refine vq_iconst (v := 1) d_F_died_10 (by decide) ?_
    refine vq_goto (tgt := 15) d_F_died_11 (by decide) ?_
    refine vq_zret d_F_died_15 rfl (by first | exact Or.inl rfl | exact Or.inr rfl | assumption) (by decide) (by decide) rfl rfl ?_
    first
      | exact ⟨by rw [show (zd F k).isSome = false by rw [(eO_m1 (zd_lt hW hk)).mp h7]; rfl]; rfl, rfl⟩
      | exact ⟨by rw [show (zd F k).isSome = true by cases hz : zd F k with | none => exact absurd (by rw [hz]; rfl) h7 | some x => rfl]; rfl, rfl⟩
