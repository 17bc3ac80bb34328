/-! Settling one estate, and all: numbers alone -/
section Mo
variable {F : Fam} {e a : Nat}
def zS (F : Fam) (e a : Nat) : Nat → Nat := if zt F e = 0 then zgs F e a else zsh F e a
def zdn (F : Fam) (e a : Nat) : Nat := if zt F e = 0 then 4 * (zpr F e * zgz F e a) else 4 * (8 * zpr F e)
theorem zIn0_pos (he : e < zn F) (ht : zt F e = 0) : 1 ≤ zsz F (zIn0 F e) := by
  have h0 := zt_Y (F := F) (e := e) (by omega)
  rw [ht] at h0
  have h1 : zX F e e = true := h0
  rw [zX_eq F e he] at h1
  have h2 : zl F e e = false := by unfold zl; simp
  rw [h2] at h1
  simp at h1
  obtain ⟨c, hc, h3⟩ := zsum_ne (show zsum (fun c => if zk F e e c = true then 1 else 0) (zn F) ≠ 0 by unfold zB at h1; omega)
  have h4 : zk F e e c = true := by
    cases h5 : zk F e e c with
    | true => rfl
    | false => simp [h5] at h3
  have h6 : zIn0 F e c = true := by
    unfold zk at h4
    simp only [Bool.and_eq_true, decide_eq_true_eq] at h4
    unfold zIn0
    rw [h4.1.2, h4.2]; rfl
  have h7 := zsum_one (f := fun p => if zIn0 F e p = true then 1 else 0) hc
  simp only [h6, if_true] at h7
  exact h7
theorem zgz_pos (he : e < zn F) (ht : zt F e = 0) : 1 ≤ zgz F e a := zit_pos (zIn0_pos he ht) 20
theorem zdn_pos (he : e < zn F) : 0 < zdn F e a := by
  unfold zdn
  have := zpr_pos (F := F) (e := e)
  split
  · rename_i h
    have h2 := zgz_pos (a := a) he h
    have := Nat.mul_pos (zpr_pos (F := F) (e := e)) (show 0 < zgz F e a by omega)
    omega
  · omega
theorem zdn_lt (hW : zW F) : zdn F e a < 2 ^ 28 := by
  have h1 := zpr_lt (F := F) (e := e) hW.1
  have h2 := zsz_le (F := F) (zgI F e a)
  have h3 := hW.1
  unfold zdn
  split
  · have := Nat.mul_le_mul (show zpr F e ≤ 2300000 by omega) (show zgz F e a ≤ 20 by unfold zgz; omega)
    omega
  · omega
/-- equal parts less what was given: all in all the amount times the size -/
theorem zless (In : Nat → Bool) (B : Nat → Nat) (A k : Nat) : ∀ n, (∀ p, p < n → In p = true → B p ≤ A) → zsum (fun p => if In p = true then (A - B p) * k else 0) n + zsum (fun p => if In p = true then B p else 0) n * k = zsum (fun p => if In p = true then 1 else 0) n * A * k
  | 0, _ => by simp [zsum]
  | n + 1, h => by
    show zsum (fun p => if In p = true then (A - B p) * k else 0) n + (if In n = true then (A - B n) * k else 0) + (zsum (fun p => if In p = true then B p else 0) n + (if In n = true then B n else 0)) * k = (zsum (fun p => if In p = true then 1 else 0) n + (if In n = true then 1 else 0)) * A * k
    have ih := zless In B A k n (fun p hp => h p (by omega))
    by_cases hi : In n = true
    · have hb := h n (by omega) hi
      rw [if_pos hi, if_pos hi, if_pos hi, Nat.add_mul, Nat.add_mul, Nat.add_mul, Nat.one_mul, ← ih]
      have e1 : (A - B n) * k + B n * k = A * k := by rw [← Nat.add_mul]; congr 1; omega
      omega
    · rw [if_neg hi, if_neg hi, if_neg hi]
      simp only [Nat.add_zero]
      exact ih
theorem zPg_all (hW : zW F) : zsum (zPg F e a) (zn F) = zgz F e a * zgc F e a * zpr F e := by
  have h := zless (zgI F e a) (fun p => zgz F e a * (4 * zg F p e)) (zam F e (zgc F e a) (zgI F e a)) (zpr F e) (zn F) (fun p hp hi => zab1_none (zit_end hW.1) hp hi)
  have h1 : zsum (fun p => if zgI F e a p = true then zgz F e a * (4 * zg F p e) else 0) (zn F) = zgz F e a * zsum (fun p => if zgI F e a p = true then 4 * zg F p e else 0) (zn F) := by
    rw [← zsum_mul]
    refine zsum_congr (fun p _ => ?_)
    split <;> simp
  rw [h1] at h
  have h2 : zsum (fun p => if zgI F e a p = true then 1 else 0) (zn F) = zgz F e a := rfl
  rw [h2] at h
  have h3 : zam F e (zgc F e a) (zgI F e a) = zgc F e a + zsum (fun p => if zgI F e a p = true then 4 * zg F p e else 0) (zn F) := rfl
  have h4 : zgz F e a * zam F e (zgc F e a) (zgI F e a) * zpr F e = zgz F e a * zgc F e a * zpr F e + zgz F e a * zsum (fun p => if zgI F e a p = true then 4 * zg F p e else 0) (zn F) * zpr F e := by
    rw [h3, Nat.mul_add, Nat.add_mul]
  rw [h4] at h
  show zsum (fun p => if zgI F e a p = true then (zam F e (zgc F e a) (zgI F e a) - zgz F e a * (4 * zg F p e)) * zpr F e else 0) (zn F) = _
  omega
theorem zTg_all (hW : zW F) (he : e < zn F) : zsum (zTg F e a) (zn F) = a * (zpr F e * zgz F e a) * zq F e := by
  unfold zTg
  cases hw : zw F e with
  | none =>
    rw [zsum_congr (g := fun _ => 0) (fun c _ => by simp), zsum_zero]
    simp [zq, hw]
  | some j =>
    have hj := (zw_lt hW he hw).1
    rw [zsum_congr (g := fun c => if c = j then a * (zpr F e * zgz F e a) * zq F e else 0) (fun c _ => by
      by_cases hc : c = j
      · simp [hc]
      · simp [hc, Ne.symm hc]), zsum_pt]
    simp [hj]
theorem zgs_sum (hW : zW F) (he : e < zn F) : zsum (zgs F e a) (zn F) = a * (4 * (zpr F e * zgz F e a)) := by
  show zsum (zta F e (zPg F e a) (zTg F e a)) (zn F) = _
  rw [zta_sum (fun c _ => by unfold zPg; split <;> first | exact Nat.dvd_mul_left _ _ | exact Nat.dvd_zero _) (fun c hc hx => by
    unfold zPg
    rw [if_neg]
    intro h
    have := zit_sub 20 c h
    unfold zIn0 at this
    rw [hx] at this
    simp at this), zTg_all hW he, zPg_all hW]
  have hq := zq_le (F := F) (e := e)
  unfold zgc
  have e1 : zgz F e a * (a * (4 - zq F e)) * zpr F e = a * (zpr F e * zgz F e a) * (4 - zq F e) := by
    rw [Nat.mul_comm (zgz F e a), Nat.mul_assoc, Nat.mul_comm (zgz F e a), Nat.mul_assoc, Nat.mul_comm (4 - zq F e), ← Nat.mul_assoc]
  rw [e1, ← Nat.mul_add, show zq F e + (4 - zq F e) = 4 by omega, Nat.mul_assoc, Nat.mul_comm (zpr F e * zgz F e a) 4]
theorem zS_sum (hW : zW F) (he : e < zn F) (ht : zt F e ≤ 4) : zsum (zS F e a) (zn F) = a * zdn F e a := by
  unfold zS zdn
  by_cases h0 : zt F e = 0
  · rw [if_pos h0, if_pos h0]; exact zgs_sum hW he
  · rw [if_neg h0, if_neg h0]
    rw [zsum_congr (fun p hp => zsh_lin hW he a hp), zsum_mul, zsh_sum hW he ht]
    congr 1
    omega
theorem zS_lt (hW : zW F) (he : e < zn F) (ht : zt F e ≤ 4) (ha : a < 2 ^ 26) {p : Nat} (hp : p < zn F) : zS F e a p < 2 ^ 63 := by
  have h1 := zsum_one (f := zS F e a) hp
  rw [zS_sum hW he ht] at h1
  have h2 := zdn_lt (e := e) (a := a) hW
  have h3 := Nat.mul_le_mul (show a ≤ 2 ^ 26 by omega) (show zdn F e a ≤ 2 ^ 28 by omega)
  have h4 : (2 : Nat) ^ 26 * 2 ^ 28 < 2 ^ 63 := by decide
  omega
/-- the ledger: what was paid, what each got, the totals -/
abbrev Lg : Type := (Nat → Nat → Nat) × (Nat → Nat) × (Nat → Nat)
def zdue (F : Fam) (e A j : Nat) : Nat := if zt F e = 5 then (if j = 20 then A else 0) else (if j < zn F then zpy (zn F) (zS F e A) (zdn F e A) A j else 0)
def zone1 (F : Fam) (e : Nat) (k : Lg) : Lg := (fun e' j => k.1 e' j + (if e' = e then zdue F e (zo F e + k.2.1 e) j else 0), fun j => k.2.1 j + zdue F e (zo F e + k.2.1 e) j, fun p => if p = e then zo F e + k.2.1 e else k.2.2 p)
theorem zxt_sum {n : Nat} (hn : 0 < n) (R : Nat → Nat) : ∀ r, zsum (zxt n R r) n = r
  | 0 => zsum_zero n
  | r + 1 => by
    show zsum (fun q => zxt n R r q + (if q = zgr (zrs n R r) n then 1 else 0)) n = r + 1
    rw [zsum_add, zxt_sum hn R r, zsum_pt, if_pos (zgr_lt _ n hn)]
theorem zpy_sum {n d A : Nat} {S : Nat → Nat} (hn : 0 < n) (hd : 0 < d) (h : zsum S n = A * d) : zsum (zpy n S d A) n = A := by
  show zsum (fun p => S p / d + zxt n (fun p => S p % d) (zun n S d A) p) n = A
  rw [zsum_add, zxt_sum hn]
  have := zdiv_A hd h (Nat.le_refl n)
  unfold zun
  omega
theorem zt_5 (ht : ¬ zt F e = 5) : zt F e ≤ 4 := by
  have := zt_le F e
  omega
theorem zdue_sum (hW : zW F) (he : e < zn F) (A : Nat) : zsum (zdue F e A) (zn F) ≤ A := by
  unfold zdue
  have hn := hW.1
  by_cases h5 : zt F e = 5
  · simp only [h5, if_true]
    rw [zsum_pt]
    split <;> omega
  · simp only [h5, if_false]
    rw [zsum_congr (g := zpy (zn F) (zS F e A) (zdn F e A) A) (fun p hp => by simp [hp]), zpy_sum (by omega) (zdn_pos he) (zS_sum hW he (zt_5 h5))]
    exact Nat.le_refl _
/-- who is next: the earliest day, then the least number -/
def zday (F : Fam) (p : Nat) : Nat := (zd F p).getD 0
def zer (F : Fam) (st : Nat → Bool) : Nat → Option Nat
  | 0 => none
  | k + 1 => if ((zd F k).isSome && !st k && (match zer F st k with | none => true | some b => decide (zday F k < zday F b))) = true then some k else zer F st k
theorem zer_lt {st : Nat → Bool} : ∀ {k p : Nat}, zer F st k = some p → p < k ∧ (zd F p).isSome = true ∧ st p = false
  | 0, p, h => by cases h
  | k + 1, p, h => by
    have h9 : (if ((zd F k).isSome && !st k && (match zer F st k with | none => true | some b => decide (zday F k < zday F b))) = true then some k else zer F st k) = some p := h
    by_cases hc : ((zd F k).isSome && !st k && (match zer F st k with | none => true | some b => decide (zday F k < zday F b))) = true
    · rw [if_pos hc] at h9
      cases h9
      simp only [Bool.and_eq_true, Bool.not_eq_true'] at hc
      exact ⟨by omega, hc.1.1, hc.1.2⟩
    · rw [if_neg hc] at h9
      have := zer_lt h9
      exact ⟨by omega, this.2⟩
def zmk (st : Nat → Bool) (e : Nat) : Nat → Bool := fun q => if q = e then true else st q
/-- all that is settled after r rounds -/
def zra (F : Fam) : Nat → (Nat → Bool) × Lg
  | 0 => (fun _ => false, (fun _ _ => 0, fun _ => 0, fun _ => 0))
  | r + 1 => match zer F (zra F r).1 (zn F) with
    | none => zra F r
    | some e => (zmk (zra F r).1 e, zone1 F e (zra F r).2)
theorem zra_some {r e : Nat} (h : zer F (zra F r).1 (zn F) = some e) : zra F (r + 1) = (zmk (zra F r).1 e, zone1 F e (zra F r).2) := by
  show (match zer F (zra F r).1 (zn F) with | none => zra F r | some e => (zmk (zra F r).1 e, zone1 F e (zra F r).2)) = _
  rw [h]
theorem zra_stay {r : Nat} (h : zer F (zra F r).1 (zn F) = none) : ∀ d, zra F (r + d) = zra F r
  | 0 => rfl
  | d + 1 => by
    show (match zer F (zra F (r + d)).1 (zn F) with | none => zra F (r + d) | some e => (zmk (zra F (r + d)).1 e, zone1 F e (zra F (r + d)).2)) = _
    rw [zra_stay h d, h]
/-- the money that is still to be settled comes from estates that were -/
theorem zra_money (hW : zW F) : ∀ r, zsum (fun j => if (zra F r).1 j = true then 0 else (zra F r).2.2.1 j) (zn F) ≤ zsum (fun j => if (zra F r).1 j = true then zo F j else 0) (zn F)
  | 0 => by
    show zsum (fun j => if false = true then 0 else 0) (zn F) ≤ _
    rw [zsum_congr (g := fun _ => 0) (fun c _ => by simp), zsum_zero]
    omega
  | r + 1 => by
    have ih := zra_money hW r
    cases hz : zer F (zra F r).1 (zn F) with
    | none =>
      have := zra_stay hz 1
      rw [this]
      exact ih
    | some e =>
      obtain ⟨he, -, hs⟩ := zer_lt hz
      rw [zra_some hz]
      obtain ⟨A, hA⟩ : ∃ A, A = zo F e + (zra F r).2.2.1 e := ⟨_, rfl⟩
      show zsum (fun j => if zmk (zra F r).1 e j = true then 0 else (zra F r).2.2.1 j + zdue F e (zo F e + (zra F r).2.2.1 e) j) (zn F) ≤ zsum (fun j => if zmk (zra F r).1 e j = true then zo F j else 0) (zn F)
      rw [← hA]
      have h1 : zsum (fun j => if zmk (zra F r).1 e j = true then zo F j else 0) (zn F) + 0 = zsum (fun j => if (zra F r).1 j = true then zo F j else 0) (zn F) + zo F e := by
        have := zsum_at (f := fun j => if zmk (zra F r).1 e j = true then zo F j else 0) (f' := fun j => if (zra F r).1 j = true then zo F j else 0) he (fun q hq => by simp [zmk, hq])
        simp only [hs, zmk, if_true] at this
        simp only [zmk]
        simpa using this
      have h2 : zsum (fun j => if zmk (zra F r).1 e j = true then 0 else (zra F r).2.2.1 j) (zn F) + (zra F r).2.2.1 e = zsum (fun j => if (zra F r).1 j = true then 0 else (zra F r).2.2.1 j) (zn F) + 0 := by
        have := zsum_at (f := fun j => if zmk (zra F r).1 e j = true then 0 else (zra F r).2.2.1 j) (f' := fun j => if (zra F r).1 j = true then 0 else (zra F r).2.2.1 j) he (fun q hq => by simp [zmk, hq])
        simp only [hs, zmk, if_true] at this
        simp only [zmk]
        simpa using this
      have h3 : zsum (fun j => if zmk (zra F r).1 e j = true then 0 else (zra F r).2.2.1 j + zdue F e A j) (zn F) ≤ zsum (fun j => (if zmk (zra F r).1 e j = true then 0 else (zra F r).2.2.1 j) + zdue F e A j) (zn F) := zsum_le (fun j _ => by split <;> omega)
      rw [zsum_add] at h3
      have h4 := zdue_sum hW he A
      omega
theorem zra_A (hW : zW F) {r e : Nat} (he : e < zn F) (hs : (zra F r).1 e = false) : zo F e + (zra F r).2.2.1 e < 2 ^ 26 := by
  have h1 := zra_money hW r
  have h2 := zsum_one (f := fun j => if (zra F r).1 j = true then 0 else (zra F r).2.2.1 j) he
  simp only [hs] at h2
  have h3 : zsum (fun j => if (zra F r).1 j = true then zo F j else 0) (zn F) ≤ zsum (fun _ => 1000000 * 1) (zn F) := zsum_le (fun j _ => by have := hW.2.2.2.2.2.2.1 j; split <;> omega)
  rw [zsum_mul] at h3
  have h5 : ∀ n : Nat, zsum (fun _ => 1) n = n := by
    intro n
    induction n with
    | zero => rfl
    | succ n ih =>
      show zsum (fun _ => 1) n + 1 = n + 1
      rw [ih]
  rw [h5] at h3
  have h6 := hW.2.2.2.2.2.2.1 e
  have h7 := hW.1
  simp at h2
  omega
end Mo
