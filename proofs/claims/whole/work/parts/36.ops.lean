/-! What each call asks of the family, and what it makes of it: no machine here -/
def zi (x : Int32) : Nat := x.toInt.toNat
theorem zi_nI {k : Nat} (h : k < 2 ^ 31) : zi (nI k) = k := by
  unfold zi
  rw [nI_toInt h]
  rfl
theorem nI_zi {x : Int32} (h : 0 ≤ x.toInt) : x = nI (zi x) := by
  have h1 : x.toInt < 2 ^ 31 := Int32.toInt_lt x
  have h2 : zi x < 2 ^ 31 := by unfold zi; omega
  apply Int32.toInt_inj.mp
  rw [nI_toInt h2]
  unfold zi
  omega
/-- a person of the family; a person or none, below m; parents -/
def zokB (F : Fam) (x : Int32) : Bool := decide (0 ≤ x.toInt ∧ x.toInt < (zn F : Int))
abbrev zok (F : Fam) (x : Int32) : Prop := zokB F x = true
theorem zok_u {F : Fam} {x : Int32} : zok F x ↔ (0 ≤ x.toInt ∧ x.toInt < (zn F : Int)) := by unfold zok zokB; exact decide_eq_true_iff
def zpoB (m : Nat) (x : Int32) : Bool := decide (x.toInt = -1 ∨ (0 ≤ x.toInt ∧ x.toInt < (m : Int)))
abbrev zpo (m : Nat) (x : Int32) : Prop := zpoB m x = true
theorem zpo_u {m : Nat} {x : Int32} : zpo m x ↔ (x.toInt = -1 ∨ (0 ≤ x.toInt ∧ x.toInt < (m : Int))) := by unfold zpo zpoB; exact decide_eq_true_iff
def zpaB (m : Nat) (x y : Int32) : Bool := decide (zpo m x ∧ zpo m y ∧ ¬ (x.toInt = y.toInt ∧ ¬ x.toInt = -1))
abbrev zpa (m : Nat) (x y : Int32) : Prop := zpaB m x y = true
theorem zpa_u {m : Nat} {x y : Int32} : zpa m x y ↔ (zpo m x ∧ zpo m y ∧ ¬ (x.toInt = y.toInt ∧ ¬ x.toInt = -1)) := by unfold zpa zpaB; exact decide_eq_true_iff
def zop (x : Int32) : Option Nat := if x.toInt = -1 then none else some (zi x)
theorem zok_p {F : Fam} {x : Int32} (h : zok F x) : ∃ p, p < zn F ∧ x = nI p := ⟨zi x, by have := zok_u.mp h; unfold zi; omega, nI_zi (zok_u.mp h).1⟩
theorem zok_n {F : Fam} {p : Nat} (hn : zn F ≤ 20) (h : p < zn F) : zok F (nI p) := by
  rw [zok_u, nI_toInt (by omega)]
  omega
theorem zop_e {m : Nat} {x : Int32} (h : zpo m x) : eO (zop x) = x := by
  unfold zop
  rcases zpo_u.mp h with h | h
  · rw [if_pos h]
    apply Int32.toInt_inj.mp
    rw [h]
    rfl
  · rw [if_neg (by omega)]
    exact (nI_zi h.1).symm
theorem zop_lt {m : Nat} {x : Int32} (h : zpo m x) {j : Nat} (hj : zop x = some j) : j < m := by
  unfold zop at hj
  rcases zpo_u.mp h with h | h
  · rw [if_pos h] at hj; cases hj
  · rw [if_neg (by omega)] at hj
    cases hj
    unfold zi
    omega
def zset {α : Type} (f : Nat → α) (n : Nat) (v : α) : Nat → α := fun p => if p = n then v else f p
theorem zset_s {α : Type} (f : Nat → α) (n : Nat) (v : α) : zset f n v n = v := if_pos rfl
theorem zset_n {α : Type} {f : Nat → α} {n p : Nat} {v : α} (h : p ≠ n) : zset f n v p = f p := if_neg h
/-- who was not entered has nothing -/
def zV (F : Fam) : Prop := zW F ∧ ∀ p, zn F ≤ p → zo F p = 0
def k_person (F : Fam) (x y : Int32) : Nat := if zpa (zn F) x y then (if zn F = 20 then 2 else 0) else 1
def f_person (F : Fam) (x y : Int32) : Fam := if k_person F x y = 0 then (zn F + 1, zset (za F) (zn F) (zop x), zset (zb F) (zn F) (zop y), zset (zs F) (zn F) none, zset (zd F) (zn F) none, zo F, zg F, zx F) else F
def k_amend (F : Fam) (x y w : Int32) : Nat := if zok F x ∧ zpa (zi x) y w then 0 else 1
def f_amend (F : Fam) (x y w : Int32) : Fam := if k_amend F x y w = 0 then (zn F, zset (za F) (zi x) (zop y), zset (zb F) (zi x) (zop w), zs F, zd F, zo F, zg F, zx F) else F
def k_marry (F : Fam) (x y : Int32) : Nat := if zok F x ∧ zok F y ∧ ¬ x.toInt = y.toInt then (if zfree F (zi x) = true ∧ zfree F (zi y) = true then 0 else 2) else 1
def f_marry (F : Fam) (x y : Int32) : Fam := if k_marry F x y = 0 then (zn F, za F, zb F, zset (zset (zs F) (zi x) (some (zi y))) (zi y) (some (zi x)), zd F, zo F, zg F, zx F) else F
def k_one (F : Fam) (x : Int32) : Nat := if zok F x then 0 else 1
def zdv (F : Fam) (p : Nat) : Option Nat := match zs F p with
  | none => none
  | some j => if (zd F p).isNone = true ∧ (zd F j).isNone = true then some j else none
def f_divorce (F : Fam) (x : Int32) : Fam := if k_one F x = 0 then (match zdv F (zi x) with
  | none => F
  | some j => (zn F, za F, zb F, zset (zset (zs F) (zi x) none) j none, zd F, zo F, zg F, zx F)) else F
def k_dies (F : Fam) (x y : Int32) : Nat := if zok F x ∧ 0 ≤ y.toInt ∧ y.toInt ≤ 999 then (if (zd F (zi x)).isSome = true then 2 else 0) else 1
def f_dies (F : Fam) (x y : Int32) : Fam := if k_dies F x y = 0 then (zn F, za F, zb F, zs F, zset (zd F) (zi x) (some (zi y)), zo F, zg F, zx F) else F
def k_two (F : Fam) (x y : Int32) : Nat := if zok F x ∧ zok F y then 0 else 1
def f_exclude (F : Fam) (x y : Int32) (is : Bool) : Fam := if k_two F x y = 0 then (zn F, za F, zb F, zs F, zd F, zo F, zg F, zset (zx F) (zi x) (zset (zx F (zi x)) (zi y) is)) else F
def k_gift (F : Fam) (x y w : Int32) : Nat := if zok F x ∧ zok F y ∧ zch F (zi x) (zi y) = true ∧ 1 ≤ w.toInt ∧ w.toInt ≤ 1000000 then (if zg F (zi x) (zi y) + zi w ≤ 1000000 then 0 else 2) else 1
def f_gift (F : Fam) (x y w : Int32) : Fam := if k_gift F x y w = 0 then (zn F, za F, zb F, zs F, zd F, zo F, zset (zg F) (zi x) (zset (zg F (zi x)) (zi y) (zg F (zi x) (zi y) + zi w)), zx F) else F
def k_estate (F : Fam) (x y : Int32) : Nat := if zok F x ∧ 0 ≤ y.toInt ∧ y.toInt ≤ 1000000 then 0 else 1
def f_estate (F : Fam) (x y : Int32) : Fam := if k_estate F x y = 0 then (zn F, za F, zb F, zs F, zd F, zset (zo F) (zi x) (zi y), zg F, zx F) else F
def k_dead (F : Fam) (x : Int32) : Nat := if zok F x then (if (zd F (zi x)).isSome = true then 0 else 2) else 1
def k_dead2 (F : Fam) (x y : Int32) : Nat := if zok F x ∧ zok F y then (if (zd F (zi x)).isSome = true then 0 else 2) else 1
def k_paid (F : Fam) (x y : Int32) : Nat := if zok F x ∧ zpo (zn F) y then 0 else 1
def k_got (F : Fam) (x : Int32) : Nat := if zpo (zn F) x then 0 else 1
/-- the place of a person or none in the ledger -/
def zpp (x : Int32) : Nat := if x.toInt = -1 then 20 else zi x
theorem zpp_e {F : Fam} {x : Int32} (hn : zn F ≤ 20) (h : zpo (zn F) x) : zpp x < 21 := by
  unfold zpp
  rcases zpo_u.mp h with h | h
  · rw [if_pos h]; decide
  · rw [if_neg (by omega)]; unfold zi; omega
/-! every call keeps a family well -/
theorem zV_person {F : Fam} (h : zV F) (x y : Int32) : zV (f_person F x y) := by
  obtain ⟨⟨h1, h2, h3, h4, h5, h6, h7, h8⟩, h9⟩ := id h
  unfold f_person
  by_cases hk : k_person F x y = 0
  · rw [if_pos hk]
    unfold k_person at hk
    by_cases hp : zpa (zn F) x y
    · rw [if_pos hp] at hk
      by_cases h20 : zn F = 20
      · rw [if_pos h20] at hk; omega
      · obtain ⟨p1, p2, p3⟩ := zpa_u.mp hp
        refine ⟨⟨?_, fun p j hpn hj => ?_, fun p j hpn hj => ?_, fun p j hpn hj hj2 => ?_, fun p j hpn hj => ?_, fun p t hpn ht => ?_, h7, h8⟩, fun p hp => h9 p ?_⟩
        · show zn F + 1 ≤ 20
          omega
        · replace hpn : p < zn F + 1 := hpn
          replace hj : zset (za F) (zn F) (zop x) p = some j := hj
          by_cases e : p = zn F
          · rw [e, zset_s] at hj; rw [e]; exact zop_lt p1 hj
          · rw [zset_n e] at hj; exact h2 p j (by omega) hj
        · replace hpn : p < zn F + 1 := hpn
          replace hj : zset (zb F) (zn F) (zop y) p = some j := hj
          by_cases e : p = zn F
          · rw [e, zset_s] at hj; rw [e]; exact zop_lt p2 hj
          · rw [zset_n e] at hj; exact h3 p j (by omega) hj
        · replace hpn : p < zn F + 1 := hpn
          replace hj : zset (za F) (zn F) (zop x) p = some j := hj
          replace hj2 : zset (zb F) (zn F) (zop y) p = some j := hj2
          by_cases e : p = zn F
          · rw [e, zset_s] at hj hj2
            have e1 : x = y := by rw [← zop_e p1, ← zop_e p2, hj, hj2]
            unfold zop at hj
            by_cases e2 : x.toInt = -1
            · rw [if_pos e2] at hj; cases hj
            · exact p3 ⟨by rw [e1], e2⟩
          · rw [zset_n e] at hj hj2; exact h4 p j (by omega) hj hj2
        · replace hpn : p < zn F + 1 := hpn
          replace hj : zset (zs F) (zn F) none p = some j := hj
          show j < zn F + 1
          by_cases e : p = zn F
          · rw [e, zset_s] at hj; cases hj
          · rw [zset_n e] at hj; have := h5 p j (by omega) hj; omega
        · replace hpn : p < zn F + 1 := hpn
          replace ht : zset (zd F) (zn F) none p = some t := ht
          by_cases e : p = zn F
          · rw [e, zset_s] at ht; cases ht
          · rw [zset_n e] at ht; exact h6 p t (by omega) ht
        · replace hp : zn F + 1 ≤ p := hp
          omega
    · rw [if_neg hp] at hk; omega
  · rw [if_neg hk]; exact h
theorem zV_amend {F : Fam} (h : zV F) (x y w : Int32) : zV (f_amend F x y w) := by
  obtain ⟨⟨h1, h2, h3, h4, h5, h6, h7, h8⟩, h9⟩ := id h
  unfold f_amend
  by_cases hk : k_amend F x y w = 0
  · rw [if_pos hk]
    unfold k_amend at hk
    by_cases hp : zok F x ∧ zpa (zi x) y w
    · obtain ⟨p0, p9⟩ := hp
      obtain ⟨p1, p2, p3⟩ := zpa_u.mp p9
      refine ⟨⟨h1, fun p j hpn hj => ?_, fun p j hpn hj => ?_, fun p j hpn hj hj2 => ?_, h5, h6, h7, h8⟩, h9⟩
      · replace hj : zset (za F) (zi x) (zop y) p = some j := hj
        by_cases e : p = zi x
        · rw [e, zset_s] at hj; rw [e]; exact zop_lt p1 hj
        · rw [zset_n e] at hj; exact h2 p j hpn hj
      · replace hj : zset (zb F) (zi x) (zop w) p = some j := hj
        by_cases e : p = zi x
        · rw [e, zset_s] at hj; rw [e]; exact zop_lt p2 hj
        · rw [zset_n e] at hj; exact h3 p j hpn hj
      · replace hj : zset (za F) (zi x) (zop y) p = some j := hj
        replace hj2 : zset (zb F) (zi x) (zop w) p = some j := hj2
        by_cases e : p = zi x
        · rw [e, zset_s] at hj hj2
          have e1 : y = w := by rw [← zop_e p1, ← zop_e p2, hj, hj2]
          unfold zop at hj
          by_cases e2 : y.toInt = -1
          · rw [if_pos e2] at hj; cases hj
          · exact p3 ⟨by rw [e1], e2⟩
        · rw [zset_n e] at hj hj2; exact h4 p j hpn hj hj2
    · rw [if_neg hp] at hk; omega
  · rw [if_neg hk]; exact h
theorem zok_i {F : Fam} {x : Int32} (h : zok F x) : zi x < zn F := by have := zok_u.mp h; unfold zi; omega
theorem zV_marry {F : Fam} (h : zV F) (x y : Int32) : zV (f_marry F x y) := by
  obtain ⟨⟨h1, h2, h3, h4, h5, h6, h7, h8⟩, h9⟩ := id h
  unfold f_marry
  by_cases hk : k_marry F x y = 0
  · rw [if_pos hk]
    unfold k_marry at hk
    by_cases hp : zok F x ∧ zok F y ∧ ¬ x.toInt = y.toInt
    · obtain ⟨p1, p2, p3⟩ := hp
      refine ⟨⟨h1, h2, h3, h4, fun p j hpn hj => ?_, h6, h7, h8⟩, h9⟩
      replace hj : zset (zset (zs F) (zi x) (some (zi y))) (zi y) (some (zi x)) p = some j := hj
      show j < zn F
      by_cases e : p = zi y
      · rw [e, zset_s] at hj; cases hj; exact zok_i p1
      · rw [zset_n e] at hj
        by_cases e2 : p = zi x
        · rw [e2, zset_s] at hj; cases hj; exact zok_i p2
        · rw [zset_n e2] at hj; exact h5 p j hpn hj
    · rw [if_neg hp] at hk; omega
  · rw [if_neg hk]; exact h
theorem zV_divorce {F : Fam} (h : zV F) (x : Int32) : zV (f_divorce F x) := by
  obtain ⟨⟨h1, h2, h3, h4, h5, h6, h7, h8⟩, h9⟩ := id h
  unfold f_divorce
  by_cases hk : k_one F x = 0
  · rw [if_pos hk]
    cases hv : zdv F (zi x) with
    | none => exact h
    | some j =>
      refine ⟨⟨h1, h2, h3, h4, fun p i hpn hj => ?_, h6, h7, h8⟩, h9⟩
      replace hj : zset (zset (zs F) (zi x) none) j none p = some i := hj
      show i < zn F
      by_cases e : p = j
      · rw [e, zset_s] at hj; cases hj
      · rw [zset_n e] at hj
        by_cases e2 : p = zi x
        · rw [e2, zset_s] at hj; cases hj
        · rw [zset_n e2] at hj; exact h5 p i hpn hj
  · rw [if_neg hk]; exact h
theorem zV_dies {F : Fam} (h : zV F) (x y : Int32) : zV (f_dies F x y) := by
  obtain ⟨⟨h1, h2, h3, h4, h5, h6, h7, h8⟩, h9⟩ := id h
  unfold f_dies
  by_cases hk : k_dies F x y = 0
  · rw [if_pos hk]
    unfold k_dies at hk
    by_cases hp : zok F x ∧ 0 ≤ y.toInt ∧ y.toInt ≤ 999
    · refine ⟨⟨h1, h2, h3, h4, h5, fun p t hpn hj => ?_, h7, h8⟩, h9⟩
      replace hj : zset (zd F) (zi x) (some (zi y)) p = some t := hj
      by_cases e : p = zi x
      · rw [e, zset_s] at hj; cases hj; unfold zi; omega
      · rw [zset_n e] at hj; exact h6 p t hpn hj
    · rw [if_neg hp] at hk; omega
  · rw [if_neg hk]; exact h
theorem zV_exclude {F : Fam} (h : zV F) (x y : Int32) (is : Bool) : zV (f_exclude F x y is) := by
  unfold f_exclude
  by_cases hk : k_two F x y = 0
  · rw [if_pos hk]; exact h
  · rw [if_neg hk]; exact h
theorem zV_gift {F : Fam} (h : zV F) (x y w : Int32) : zV (f_gift F x y w) := by
  obtain ⟨⟨h1, h2, h3, h4, h5, h6, h7, h8⟩, h9⟩ := id h
  unfold f_gift
  by_cases hk : k_gift F x y w = 0
  · rw [if_pos hk]
    refine ⟨⟨h1, h2, h3, h4, h5, h6, h7, fun c p => ?_⟩, h9⟩
    show zset (zg F) (zi x) (zset (zg F (zi x)) (zi y) (zg F (zi x) (zi y) + zi w)) c p ≤ 1000000
    by_cases e : c = zi x
    · rw [e, zset_s]
      by_cases e2 : p = zi y
      · rw [e2, zset_s]
        unfold k_gift at hk
        split at hk
        · split at hk
          · assumption
          · omega
        · omega
      · rw [zset_n e2]; exact h8 _ _
    · rw [zset_n e]; exact h8 _ _
  · rw [if_neg hk]; exact h
theorem zV_estate {F : Fam} (h : zV F) (x y : Int32) : zV (f_estate F x y) := by
  obtain ⟨⟨h1, h2, h3, h4, h5, h6, h7, h8⟩, h9⟩ := id h
  unfold f_estate
  by_cases hk : k_estate F x y = 0
  · rw [if_pos hk]
    unfold k_estate at hk
    by_cases hp : zok F x ∧ 0 ≤ y.toInt ∧ y.toInt ≤ 1000000
    · have hx := zok_i hp.1
      refine ⟨⟨h1, h2, h3, h4, h5, h6, fun p => ?_, h8⟩, fun p hp => ?_⟩
      · show zset (zo F) (zi x) (zi y) p ≤ 1000000
        by_cases e : p = zi x
        · rw [e, zset_s]; unfold zi; omega
        · rw [zset_n e]; exact h7 p
      · replace hp : zn F ≤ p := hp
        show zset (zo F) (zi x) (zi y) p = 0
        rw [zset_n (by omega)]
        exact h9 p hp
    · rw [if_neg hp] at hk; omega
  · rw [if_neg hk]; exact h
/-! bits -/
theorem bt_pow : ∀ w : Fin 20, ((1 : Int32) <<< (nI w &&& 31)).toBitVec = BitVec.twoPow 32 w := by decide
theorem bt1_get (x : Int32) {w : Nat} (hw : w < 20) : bt1 x w = x.toBitVec.getLsbD w := by
  unfold bt1
  have h1 := bt_pow ⟨w, hw⟩
  have h2 : (x &&& ((1 : Int32) <<< (nI w &&& 31)) = 0) ↔ x.toBitVec.getLsbD w = false := by
    rw [← Int32.toBitVec_inj, Int32.toBitVec_and, h1, BitVec.and_twoPow]
    cases x.toBitVec.getLsbD w with
    | false => simp
    | true =>
      simp only [if_true]
      constructor
      · intro h
        have h3 := congrArg (fun z => BitVec.getLsbD z w) h
        simp [BitVec.getLsbD_twoPow] at h3
        omega
      · intro h; cases h
  cases hb : x.toBitVec.getLsbD w with
  | false => simp [h2.mpr hb]
  | true =>
    have : ¬ (x &&& ((1 : Int32) <<< (nI w &&& 31)) = 0) := fun h => by rw [h2.mp h] at hb; cases hb
    simp [this]
theorem bt1_on (x : Int32) {w w' : Nat} (hw : w < 20) (hw' : w' < 20) : bt1 (x ||| ((1 : Int32) <<< (nI w &&& 31))) w' = if w' = w then true else bt1 x w' := by
  rw [bt1_get _ hw', bt1_get _ hw', Int32.toBitVec_or, bt_pow ⟨w, hw⟩, BitVec.getLsbD_or, BitVec.getLsbD_twoPow]
  by_cases e : w' = w
  · subst e; simp; omega
  · have e2 : ¬ w = w' := fun h => e h.symm
    simp [e, e2]
theorem bt1_off (x : Int32) {w w' : Nat} (hw : w < 20) (hw' : w' < 20) : bt1 (x &&& (((1 : Int32) <<< (nI w &&& 31)) ^^^ -1)) w' = if w' = w then false else bt1 x w' := by
  have h3 : (-1 : Int32).toBitVec = BitVec.allOnes 32 := by decide
  rw [bt1_get _ hw', bt1_get _ hw', Int32.toBitVec_and, Int32.toBitVec_xor, bt_pow ⟨w, hw⟩, h3, BitVec.getLsbD_and, BitVec.getLsbD_xor, BitVec.getLsbD_twoPow, BitVec.getLsbD_allOnes]
  by_cases e : w' = w
  · subst e; simp
  · have e2 : ¬ w = w' := fun h => e h.symm
    simp [e, e2]
    omega
theorem tI0 : (0 : Int32).toInt = 0 := by decide
theorem tI1 : (1 : Int32).toInt = 1 := by decide
theorem tIm1 : (-1 : Int32).toInt = -1 := by decide
theorem tI999 : (999 : Int32).toInt = 999 := by decide
theorem tIm : (1000000 : Int32).toInt = 1000000 := by decide
theorem tI20 : (20 : Int32).toInt = 20 := by decide
theorem w_379 : Cond.instantiable "java/lang/IllegalArgumentException" (6 : Nat) ∈ TT := tm 379 (by decide +kernel) (by decide +kernel)
theorem w_447 : Cond.instantiable "java/lang/IllegalStateException" (6 : Nat) ∈ TT := tm 447 (by decide +kernel) (by decide +kernel)
