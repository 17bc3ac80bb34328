/-! The product of the branches is small: 20 persons have at most 40 parents known -/
section Bd
variable {F : Fam} {e : Nat}
theorem zcube : ∀ n : Nat, n < 21 → n ^ 3 ≤ 3 ^ n := by decide
theorem zB_le (p : Nat) : zB F e p ≤ zn F := by
  unfold zB
  have h : zsum (fun c => if zk F e p c = true then 1 else 0) (zn F) ≤ zsum (fun _ => 1) (zn F) := zsum_le (fun c _ => by split <;> omega)
  have h1 : ∀ n : Nat, zsum (fun _ => 1) n = n := by
    intro n
    induction n with
    | zero => rfl
    | succ n ih =>
      show zsum (fun _ => 1) n + 1 = n + 1
      rw [ih]
  rw [h1] at h
  exact h
theorem zone (o : Option Nat) (n : Nat) : zsum (fun p => if o = some p then 1 else 0) n ≤ 1 := by
  cases o with
  | none =>
    rw [zsum_congr (g := fun _ => 0) (fun c _ => by simp), zsum_zero]; omega
  | some i =>
    rw [zsum_congr (g := fun p => if p = i then 1 else 0) (fun c _ => by
      by_cases h : c = i
      · simp [h]
      · simp [h, Ne.symm h]), zsum_pt]
    split <;> omega
theorem zB_sum : zsum (zB F e) (zn F) ≤ 2 * zn F := by
  show zsum (fun p => zsum (fun c => if zk F e p c = true then 1 else 0) (zn F)) (zn F) ≤ _
  rw [zsum_swap]
  have h : ∀ c, zsum (fun p => if zk F e p c = true then 1 else 0) (zn F) ≤ 2 := by
    intro c
    have h1 : zsum (fun p => if zk F e p c = true then 1 else 0) (zn F) ≤ zsum (fun p => (if za F c = some p then 1 else 0) + (if zb F c = some p then 1 else 0)) (zn F) := by
      refine zsum_le (fun p _ => ?_)
      by_cases hk : zk F e p c = true
      · rw [if_pos hk]
        unfold zk zch at hk
        simp only [Bool.and_eq_true, Bool.or_eq_true, beq_iff_eq, decide_eq_true_eq] at hk
        rcases hk.1.2 with h | h
        · simp [h]
        · simp [h]
      · rw [if_neg hk]; omega
    rw [zsum_add] at h1
    have h2 := zone (za F c) (zn F)
    have h3 := zone (zb F c) (zn F)
    omega
  have h4 : zsum (fun c => zsum (fun p => if zk F e p c = true then 1 else 0) (zn F)) (zn F) ≤ zsum (fun _ => 2 * 1) (zn F) := zsum_le (fun c _ => h c)
  rw [zsum_mul] at h4
  have h5 : ∀ n : Nat, zsum (fun _ => 1) n = n := by
    intro n
    induction n with
    | zero => rfl
    | succ n ih =>
      show zsum (fun _ => 1) n + 1 = n + 1
      rw [ih]
  rw [h5] at h4
  exact h4
theorem zpd_cube {f h : Nat → Nat} : ∀ {n : Nat}, (∀ c, c < n → f c ^ 3 ≤ 3 ^ h c) → zpd f n ^ 3 ≤ 3 ^ zsum h n
  | 0, _ => by simp [zpd, zsum]
  | n + 1, hc => by
    show (zpd f n * f n) ^ 3 ≤ 3 ^ (zsum h n + h n)
    rw [Nat.mul_pow, Nat.pow_add]
    exact Nat.mul_le_mul (zpd_cube (fun c hc2 => hc c (Nat.lt_succ_of_lt hc2))) (hc n (Nat.lt_succ_self n))
theorem zpr_lt (hn : zn F ≤ 20) : zpr F e < 2300000 := by
  have h1 : zpr F e ^ 3 ≤ 3 ^ zsum (zB F e) (zn F) := by
    refine zpd_cube (fun c _ => ?_)
    unfold zfa
    split
    · exact zcube _ (Nat.lt_of_le_of_lt (zB_le c) (by omega))
    · simp; exact Nat.one_le_pow _ _ (by omega)
  have h2 : zsum (zB F e) (zn F) ≤ 40 := Nat.le_trans zB_sum (by omega)
  have h3 : zpr F e ^ 3 ≤ 3 ^ 40 := Nat.le_trans h1 (Nat.pow_le_pow_right (by omega) h2)
  apply Nat.lt_of_not_le
  intro h
  have h4 : 2300000 ^ 3 ≤ zpr F e ^ 3 := Nat.pow_le_pow_left h 3
  have h5 : (2300000 ^ 3 : Nat) ≤ 3 ^ 40 := Nat.le_trans h4 h3
  exact absurd h5 (by decide)
end Bd
