/-! Gifts brought in: who stays among the children that divide; numbers alone -/
theorem lsub_toInt {a b : Nat} (ha : a < 2 ^ 62) (hb : b < 2 ^ 62) : (lN a - lN b).toInt = (a : Int) - b := by
  rw [Int64.toInt_sub, pk_lT (by omega), pk_lT (by omega)]
  exact Int.bmod_eq_of_le (by omega) (by omega)
theorem lsub_sign {a b : Nat} (ha : a < 2 ^ 62) (hb : b < 2 ^ 62) : (0 ≤ lN a - lN b) ↔ b ≤ a := by
  rw [Int64.le_iff_toInt_le, lsub_toInt ha hb, show (0 : Int64).toInt = 0 from by decide]
  omega
theorem zfst_yes {P : Nat → Bool} : ∀ {n p : Nat}, zfst P n = some p → p < n ∧ P p = true
  | 0, p, h => by cases h
  | n + 1, p, h => by
    have h9 : (match zfst P n with | some i => some i | none => if P n = true then some n else none) = some p := h
    cases hz : zfst P n with
    | some i =>
      rw [hz] at h9
      cases h9
      have := zfst_yes hz
      exact ⟨by omega, this.2⟩
    | none =>
      rw [hz] at h9
      by_cases hp : P n = true
      · simp [hp] at h9
        subst h9
        exact ⟨by omega, hp⟩
      · simp [hp] at h9
theorem zfst_no {P : Nat → Bool} : ∀ {n : Nat}, zfst P n = none → ∀ p, p < n → P p = false
  | 0, _, p, h => absurd h (Nat.not_lt_zero p)
  | n + 1, h, p, hp => by
    have h9 : (match zfst P n with | some i => some i | none => if P n = true then some n else none) = none := h
    cases hz : zfst P n with
    | some i => rw [hz] at h9; cases h9
    | none =>
      rw [hz] at h9
      by_cases hn : P n = true
      · simp [hn] at h9
      · by_cases e1 : p = n
        · subst e1; simpa using hn
        · exact zfst_no hz p (by omega)
theorem zfst_all {P : Nat → Bool} : ∀ {n : Nat}, (∀ p, p < n → P p = false) → zfst P n = none
  | 0, _ => rfl
  | n + 1, h => zfst_none (zfst_all (fun p hp => h p (by omega))) (h n (by omega))
theorem zsum_at {f f' : Nat → Nat} {p : Nat} : ∀ {n : Nat}, p < n → (∀ q, q ≠ p → f q = f' q) → zsum f n + f' p = zsum f' n + f p
  | 0, h, _ => absurd h (Nat.not_lt_zero p)
  | n + 1, h, hq => by
    show zsum f n + f n + f' p = zsum f' n + f' n + f p
    by_cases e1 : p = n
    · subst e1
      rw [zsum_congr (n := p) (fun c hc => hq c (by omega))]
      omega
    · have := zsum_at (n := n) (by omega) hq
      rw [hq n (Ne.symm e1)]
      omega
section Sf
variable {F : Fam} {e c : Nat}
def zIn0 (F : Fam) (e p : Nat) : Bool := zch F p e && zX F e p
def zam (F : Fam) (e c : Nat) (In : Nat → Bool) : Nat := c + zsum (fun p => if In p = true then 4 * zg F p e else 0) (zn F)
def zsz (F : Fam) (In : Nat → Bool) : Nat := zsum (fun p => if In p = true then 1 else 0) (zn F)
def zab (F : Fam) (e c : Nat) (In : Nat → Bool) (p : Nat) : Bool := In p && decide (zam F e c In < zsz F In * (4 * zg F p e))
def zab1 (F : Fam) (e c : Nat) (In : Nat → Bool) : Option Nat := zfst (zab F e c In) (zn F)
def zrm (In : Nat → Bool) (p : Nat) : Nat → Bool := fun q => if q = p then false else In q
def zst1 (F : Fam) (e c : Nat) (In : Nat → Bool) : Nat → Bool := match zab1 F e c In with
  | none => In
  | some p => zrm In p
def zit (F : Fam) (e c : Nat) : Nat → Nat → Bool
  | 0 => zIn0 F e
  | r + 1 => zst1 F e c (zit F e c r)
theorem zsz_le (In : Nat → Bool) : zsz F In ≤ zn F := by
  have h : zsz F In ≤ zsum (fun _ => 1) (zn F) := zsum_le (fun p _ => by split <;> omega)
  have h1 : ∀ n : Nat, zsum (fun _ => 1) n = n := by
    intro n
    induction n with
    | zero => rfl
    | succ n ih =>
      show zsum (fun _ => 1) n + 1 = n + 1
      rw [ih]
  rw [h1] at h
  exact h
theorem zam_le (hW : zW F) (In : Nat → Bool) : zam F e c In ≤ c + 80000000 := by
  have h : zsum (fun p => if In p = true then 4 * zg F p e else 0) (zn F) ≤ zsum (fun _ => 4000000 * 1) (zn F) := zsum_le (fun p _ => by
    have := hW.2.2.2.2.2.2.2 p e
    split <;> omega)
  rw [zsum_mul] at h
  have h1 : ∀ n : Nat, zsum (fun _ => 1) n = n := by
    intro n
    induction n with
    | zero => rfl
    | succ n ih =>
      show zsum (fun _ => 1) n + 1 = n + 1
      rw [ih]
  rw [h1] at h
  have := hW.1
  unfold zam
  omega
theorem zsg_le (hW : zW F) (In : Nat → Bool) (p : Nat) : zsz F In * (4 * zg F p e) ≤ 80000000 := by
  have h1 := zsz_le (F := F) In
  have h2 := hW.1
  have h3 := hW.2.2.2.2.2.2.2 p e
  have := Nat.mul_le_mul (show zsz F In ≤ 20 by omega) (show 4 * zg F p e ≤ 4000000 by omega)
  omega
theorem zrm_sz {In : Nat → Bool} {p : Nat} (hp : p < zn F) (h : In p = true) : zsz F (zrm In p) + 1 = zsz F In := by
  have h9 : zsz F (zrm In p) + (if In p = true then 1 else 0) = zsz F In + (if zrm In p p = true then 1 else 0) := zsum_at (f := fun q => if zrm In p q = true then 1 else 0) (f' := fun q => if In q = true then 1 else 0) hp (fun q hq => by simp [zrm, hq])
  rw [if_pos h, if_neg (by simp [zrm])] at h9
  exact h9
theorem zrm_am {In : Nat → Bool} {p : Nat} (hp : p < zn F) (h : In p = true) : zam F e c (zrm In p) + 4 * zg F p e = zam F e c In := by
  have h9 : zsum (fun q => if zrm In p q = true then 4 * zg F q e else 0) (zn F) + (if In p = true then 4 * zg F p e else 0) = zsum (fun q => if In q = true then 4 * zg F q e else 0) (zn F) + (if zrm In p p = true then 4 * zg F p e else 0) := zsum_at (f := fun q => if zrm In p q = true then 4 * zg F q e else 0) (f' := fun q => if In q = true then 4 * zg F q e else 0) hp (fun q hq => by simp [zrm, hq])
  rw [if_pos h, if_neg (by simp [zrm])] at h9
  unfold zam
  omega
theorem zab1_some {In : Nat → Bool} {p : Nat} (h : zab1 F e c In = some p) : p < zn F ∧ In p = true ∧ zam F e c In < zsz F In * (4 * zg F p e) := by
  have := zfst_yes h
  unfold zab at this
  simp only [Bool.and_eq_true, decide_eq_true_eq] at this
  exact ⟨this.1, this.2.1, this.2.2⟩
theorem zab1_none {In : Nat → Bool} (h : zab1 F e c In = none) {p : Nat} (hp : p < zn F) (hi : In p = true) : zsz F In * (4 * zg F p e) ≤ zam F e c In := by
  have := zfst_no h p hp
  unfold zab at this
  simp [hi] at this
  exact this
/-- the last one is never above -/
theorem zst1_pos {In : Nat → Bool} (h : 1 ≤ zsz F In) : 1 ≤ zsz F (zst1 F e c In) := by
  unfold zst1
  cases hz : zab1 F e c In with
  | none => exact h
  | some p =>
    obtain ⟨h1, h2, h3⟩ := zab1_some hz
    have h4 := zrm_sz h1 h2
    show 1 ≤ zsz F (zrm In p)
    have h5 : 4 * zg F p e ≤ zam F e c In := by
      have := zsum_one (f := fun q => if In q = true then 4 * zg F q e else 0) h1
      simp [h2] at this
      unfold zam
      omega
    by_cases h6 : zsz F In = 1
    · rw [h6] at h3; omega
    · omega
theorem zit_pos (h : 1 ≤ zsz F (zIn0 F e)) : ∀ r, 1 ≤ zsz F (zit F e c r)
  | 0 => h
  | r + 1 => zst1_pos (zit_pos h r)
theorem zit_stay {r : Nat} (h : zab1 F e c (zit F e c r) = none) : ∀ d, zit F e c (r + d) = zit F e c r
  | 0 => rfl
  | d + 1 => by
    show zst1 F e c (zit F e c (r + d)) = _
    rw [zit_stay h d]
    unfold zst1
    rw [h]
theorem zit_sub : ∀ (r p : Nat), zit F e c r p = true → zIn0 F e p = true
  | 0, p, h => h
  | r + 1, p, h => by
    have h9 : zst1 F e c (zit F e c r) p = true := h
    unfold zst1 at h9
    cases hz : zab1 F e c (zit F e c r) with
    | none => rw [hz] at h9; exact zit_sub r p h9
    | some q =>
      rw [hz] at h9
      by_cases e1 : p = q
      · simp [zrm, e1] at h9
      · simp [zrm, e1] at h9
        exact zit_sub r p h9
theorem zit_fall : ∀ r, zab1 F e c (zit F e c r) ≠ none → zsz F (zit F e c r) + r ≤ zsz F (zIn0 F e)
  | 0, _ => Nat.le_refl _
  | r + 1, h => by
    have h1 : zab1 F e c (zit F e c r) ≠ none := by
      intro h2
      apply h
      have := zit_stay h2 1
      rw [this]; exact h2
    have h3 := zit_fall r h1
    obtain ⟨p, hp⟩ := Option.ne_none_iff_exists'.mp h1
    obtain ⟨q1, q2, -⟩ := zab1_some hp
    have h4 := zrm_sz q1 q2
    have h5 : zit F e c (r + 1) = zrm (zit F e c r) p := by
      show zst1 F e c (zit F e c r) = _
      unfold zst1
      rw [hp]
    rw [h5]
    omega
theorem zit_end (hn : zn F ≤ 20) : zab1 F e c (zit F e c 20) = none := by
  cases hz : zab1 F e c (zit F e c 20) with
  | none => rfl
  | some p =>
    exfalso
    have h1 := zit_fall 20 (by rw [hz]; exact fun h => by cases h)
    have h2 := zsz_le (F := F) (zIn0 F e)
    obtain ⟨q1, q2, -⟩ := zab1_some hz
    have h3 := zrm_sz q1 q2
    omega
end Sf
