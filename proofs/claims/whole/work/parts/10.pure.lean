/-! The family as numbers, and what is computed from it: no machine here -/
abbrev Fam : Type := Nat × (Nat → Option Nat) × (Nat → Option Nat) × (Nat → Option Nat) × (Nat → Option Nat) × (Nat → Nat) × (Nat → Nat → Nat) × (Nat → Nat → Bool)
def zn (F : Fam) : Nat := F.1
def za (F : Fam) : Nat → Option Nat := F.2.1
def zb (F : Fam) : Nat → Option Nat := F.2.2.1
def zs (F : Fam) : Nat → Option Nat := F.2.2.2.1
def zd (F : Fam) : Nat → Option Nat := F.2.2.2.2.1
def zo (F : Fam) : Nat → Nat := F.2.2.2.2.2.1
def zg (F : Fam) : Nat → Nat → Nat := F.2.2.2.2.2.2.1
def zx (F : Fam) : Nat → Nat → Bool := F.2.2.2.2.2.2.2
/-- what holds of every family that was entered -/
def zW (F : Fam) : Prop := zn F ≤ 20 ∧ (∀ p j, p < zn F → za F p = some j → j < p) ∧ (∀ p j, p < zn F → zb F p = some j → j < p) ∧ (∀ p j, p < zn F → za F p = some j → zb F p ≠ some j) ∧ (∀ p j, p < zn F → zs F p = some j → j < zn F) ∧ (∀ p t, p < zn F → zd F p = some t → t ≤ 999) ∧ (∀ p, zo F p ≤ 1000000) ∧ (∀ c p, zg F c p ≤ 1000000)
def zch (F : Fam) (c p : Nat) : Bool := (za F c == some p) || (zb F c == some p)
def zlt (F : Fam) (e p : Nat) : Bool := match zd F p with
  | none => true
  | some t => match zd F e with
    | none => true
    | some u => decide (u < t)
def zl (F : Fam) (e p : Nat) : Bool := !(p == e) && !(zx F p e) && zlt F e p
/-- sums -/
def zsum (f : Nat → Nat) : Nat → Nat
  | 0 => 0
  | k + 1 => zsum f k + f k
theorem zsum_congr {f g : Nat → Nat} : ∀ {n : Nat}, (∀ c, c < n → f c = g c) → zsum f n = zsum g n
  | 0, _ => rfl
  | n + 1, h => by
    show zsum f n + f n = zsum g n + g n
    rw [zsum_congr (n := n) (fun c hc => h c (Nat.lt_succ_of_lt hc)), h n (Nat.lt_succ_self n)]
theorem zsum_add (f g : Nat → Nat) : ∀ n : Nat, zsum (fun c => f c + g c) n = zsum f n + zsum g n
  | 0 => rfl
  | n + 1 => by
    show zsum (fun c => f c + g c) n + (f n + g n) = (zsum f n + f n) + (zsum g n + g n)
    rw [zsum_add f g n]; omega
theorem zsum_zero : ∀ n : Nat, zsum (fun _ => 0) n = 0
  | 0 => rfl
  | n + 1 => by
    show zsum (fun _ => 0) n + 0 = 0
    rw [zsum_zero n]
theorem zsum_mul (a : Nat) (f : Nat → Nat) : ∀ n : Nat, zsum (fun c => a * f c) n = a * zsum f n
  | 0 => rfl
  | n + 1 => by
    show zsum (fun c => a * f c) n + a * f n = a * (zsum f n + f n)
    rw [zsum_mul a f n, Nat.mul_add]
theorem zsum_le {f g : Nat → Nat} : ∀ {n : Nat}, (∀ c, c < n → f c ≤ g c) → zsum f n ≤ zsum g n
  | 0, _ => Nat.le_refl _
  | n + 1, h => Nat.add_le_add (zsum_le (n := n) (fun c hc => h c (Nat.lt_succ_of_lt hc))) (h n (Nat.lt_succ_self n))
theorem zsum_one {f : Nat → Nat} : ∀ {n k : Nat}, k < n → f k ≤ zsum f n
  | 0, k, h => absurd h (Nat.not_lt_zero k)
  | n + 1, k, h => by
    show f k ≤ zsum f n + f n
    by_cases e : k = n
    · subst e; omega
    · have := zsum_one (f := f) (n := n) (k := k) (by omega)
      omega
/-- all but one are nothing -/
theorem zsum_pt (j x : Nat) : ∀ n : Nat, zsum (fun c => if c = j then x else 0) n = if j < n then x else 0
  | 0 => by simp [zsum]
  | n + 1 => by
    show zsum (fun c => if c = j then x else 0) n + (if n = j then x else 0) = _
    rw [zsum_pt j x n]
    by_cases h : j < n
    · have h1 : ¬ n = j := by omega
      have h2 : j < n + 1 := by omega
      simp [h, h1, h2]
    · by_cases h1 : n = j
      · have h2 : j < n + 1 := by omega
        simp [h, h1, h2]
      · have h2 : ¬ j < n + 1 := by omega
        simp [h, h1, h2]
/-- who has heirs in his stem, with fuel -/
def zx0 (F : Fam) (e : Nat) : Nat → Nat → Bool
  | 0, _ => false
  | k + 1, p => zl F e p || decide (0 < zsum (fun c => if (decide (p < c) && zch F c p && zx0 F e k c) = true then 1 else 0) (zn F))
def zX (F : Fam) (e p : Nat) : Bool := zx0 F e (zn F) p
/-- c is a child of p that has heirs -/
def zk (F : Fam) (e p c : Nat) : Bool := decide (p < c) && zch F c p && zX F e c
def zB (F : Fam) (e p : Nat) : Nat := zsum (fun c => if zk F e p c = true then 1 else 0) (zn F)
theorem zx0_stable (F : Fam) (e : Nat) : ∀ k p : Nat, p < zn F → zn F ≤ p + k → zx0 F e (k + 1) p = zx0 F e k p
  | 0, p, h, h2 => by omega
  | k + 1, p, h, h2 => by
    show (zl F e p || decide (0 < zsum (fun c => if (decide (p < c) && zch F c p && zx0 F e (k + 1) c) = true then 1 else 0) (zn F))) = (zl F e p || decide (0 < zsum (fun c => if (decide (p < c) && zch F c p && zx0 F e k c) = true then 1 else 0) (zn F)))
    rw [zsum_congr (n := zn F) (g := fun c => if (decide (p < c) && zch F c p && zx0 F e k c) = true then 1 else 0)]
    intro c hc
    by_cases hpc : p < c
    · rw [zx0_stable F e k c hc (by omega)]
    · simp [hpc]
theorem zX_eq (F : Fam) (e : Nat) {p : Nat} (h : p < zn F) : zX F e p = (zl F e p || decide (0 < zB F e p)) := by
  unfold zX zB zk zX
  obtain ⟨k, hk⟩ : ∃ k, zn F = k + 1 := ⟨zn F - 1, by omega⟩
  rw [hk]
  show (zl F e p || decide (0 < zsum (fun c => if (decide (p < c) && zch F c p && zx0 F e k c) = true then 1 else 0) (zn F))) = _
  rw [hk]
  rw [zsum_congr (n := k + 1) (g := fun c => if (decide (p < c) && zch F c p && zx0 F e (k + 1) c) = true then 1 else 0)]
  intro c hc
  by_cases hpc : p < c
  · rw [zx0_stable F e k c (by omega) (by omega)]
  · simp [hpc]
def zoB (x : Option Nat) (f : Nat → Bool) : Bool := match x with
  | some j => f j
  | none => false
/-- who has heirs in his line of a height -/
def zY (F : Fam) (e : Nat) : Nat → Nat → Bool
  | 0, p => zX F e p
  | h + 1, p => zoB (za F p) (zY F e h) || zoB (zb F p) (zY F e h)
def zw (F : Fam) (e : Nat) : Option Nat := match zs F e with
  | some j => if zl F e j = true then some j else none
  | none => none
def zt (F : Fam) (e : Nat) : Nat :=
  if zY F e 0 e = true then 0 else if zY F e 1 e = true then 1 else if zY F e 2 e = true then 2
  else if (zw F e).isNone = true then (if zY F e 3 e = true then 3 else 5) else 4
def zq (F : Fam) (e : Nat) : Nat := if (zw F e).isNone = true then 0 else if zt F e = 0 then 1 else if zt F e ≤ 3 then 2 else 4
/-- products -/
def zpd (f : Nat → Nat) : Nat → Nat
  | 0 => 1
  | k + 1 => zpd f k * f k
def zfa (F : Fam) (e p : Nat) : Nat := if (!zl F e p && decide (0 < zB F e p)) = true then zB F e p else 1
def zpr (F : Fam) (e : Nat) : Nat := zpd (zfa F e) (zn F)
/-- what comes down the stems: when the first k persons have handed on what they had -/
def ztb (F : Fam) (e : Nat) (P : Nat → Nat) : Nat → Nat → Nat
  | 0, c => P c
  | k + 1, c => ztb F e P k c + (if (!zl F e k && decide (c < zn F) && zk F e k c) = true then ztb F e P k k / zB F e k else 0)
/-- what one takes -/
def zta (F : Fam) (e : Nat) (P T : Nat → Nat) (p : Nat) : Nat := T p + (if zl F e p = true then ztb F e P p p else 0)
/-- what comes up from the persons of one height to those of the height h -/
def zc1 (F : Fam) (e h : Nat) (v : Nat → Nat) (p j : Nat) : Nat :=
  (if za F p = some j ∧ zY F e h j = true then (if zoB (zb F p) (zY F e h) = true then v p / 2 else v p) else 0) +
  (if zb F p = some j ∧ zY F e h j = true then (if zoB (za F p) (zY F e h) = true then v p / 2 else v p) else 0)
def zcl (F : Fam) (e h : Nat) (v : Nat → Nat) (j : Nat) : Nat := zsum (fun p => zc1 F e h v p j) (zn F)
def zup (F : Fam) (e : Nat) : Nat → (Nat → Nat) → (Nat → Nat)
  | 0, v => v
  | h + 1, v => zup F e h (zcl F e h v)
/-- the division by shares of an amount a: in parts of 32 times the product -/
def zP0 (F : Fam) (e a : Nat) : Nat → Nat := if zt F e ≤ 3 then zup F e (zt F e) (fun p => if p = e then a * (8 * zpr F e) * (4 - zq F e) else 0) else fun _ => 0
def zT0 (F : Fam) (e a : Nat) (p : Nat) : Nat := if zw F e = some p then a * (8 * zpr F e) * zq F e else 0
def zsh (F : Fam) (e a : Nat) (p : Nat) : Nat := zta F e (zP0 F e a) (zT0 F e a) p
theorem ztb_still (F : Fam) (e : Nat) (P : Nat → Nat) (c : Nat) : ∀ d : Nat, ztb F e P (c + d) c = ztb F e P c c
  | 0 => rfl
  | d + 1 => by
    show ztb F e P (c + d) c + _ = _
    rw [ztb_still F e P c d]
    have h : zk F e (c + d) c = false := by
      unfold zk
      have : ¬ c + d < c := by omega
      simp [this]
    simp [h]
/-- a sum from a place on -/
def zsf (f : Nat → Nat) (k n : Nat) : Nat := zsum (fun c => if k ≤ c then f c else 0) n
theorem zsf_0 (f : Nat → Nat) (n : Nat) : zsf f 0 n = zsum f n := zsum_congr (fun c _ => by simp)
theorem zsf_cut (f : Nat → Nat) {k : Nat} : ∀ {n : Nat}, k < n → zsf f k n = f k + zsf f (k + 1) n
  | 0, h => absurd h (Nat.not_lt_zero k)
  | n + 1, h => by
    show zsum (fun c => if k ≤ c then f c else 0) n + (if k ≤ n then f n else 0) = f k + (zsum (fun c => if k + 1 ≤ c then f c else 0) n + (if k + 1 ≤ n then f n else 0))
    by_cases e : k = n
    · subst e
      have h1 : zsum (fun c => if k ≤ c then f c else 0) k = 0 := by
        rw [zsum_congr (g := fun _ => 0) (fun c hc => by simp; omega), zsum_zero]
      have h2 : zsum (fun c => if k + 1 ≤ c then f c else 0) k = 0 := by
        rw [zsum_congr (g := fun _ => 0) (fun c hc => by simp; omega), zsum_zero]
      rw [h1, h2]
      have h3 : ¬ k + 1 ≤ k := by omega
      simp only [Nat.le_refl, if_true, h3, if_false]
      omega
    · have h1 := zsf_cut f (k := k) (n := n) (by omega)
      unfold zsf at h1
      rw [h1]
      have h2 : k ≤ n := by omega
      have h3 : k + 1 ≤ n := by omega
      simp [h2, h3]
      omega
theorem zsf_end (f : Nat → Nat) (n : Nat) : zsf f n n = 0 := by
  unfold zsf
  rw [zsum_congr (g := fun _ => 0) (fun c hc => by simp; omega), zsum_zero]
