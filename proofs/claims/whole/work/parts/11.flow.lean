/-! What comes down the stems: nothing is lost, all divisions are exact, and it goes with the amount -/
section Fl
variable {F : Fam} {e : Nat} {P : Nat → Nat}
theorem zsum_swap (f : Nat → Nat → Nat) (m : Nat) : ∀ n : Nat, zsum (fun p => zsum (fun c => f p c) m) n = zsum (fun c => zsum (fun p => f p c) n) m
  | 0 => by
    show 0 = zsum (fun c => 0) m
    rw [zsum_zero]
  | n + 1 => by
    show zsum (fun p => zsum (fun c => f p c) m) n + zsum (fun c => f n c) m = zsum (fun c => zsum (fun p => f p c) n + f n c) m
    rw [zsum_swap f m n, ← zsum_add]
theorem zk_lt {k c : Nat} (h : zk F e k c = true) : k < c := by
  unfold zk at h
  simp only [Bool.and_eq_true, decide_eq_true_eq] at h
  exact h.1.1
theorem zk_X {k c : Nat} (h : zk F e k c = true) : zX F e c = true := by
  unfold zk at h
  simp only [Bool.and_eq_true, decide_eq_true_eq] at h
  exact h.2
/-- who has a child with heirs has a count -/
theorem zB_pos {k c : Nat} (hc : c < zn F) (h : zk F e k c = true) : 0 < zB F e k := by
  have h1 := zsum_one (f := fun c => if zk F e k c = true then 1 else 0) hc
  unfold zB
  simp only [h, if_true] at h1
  omega
/-- what k hands on, all in all -/
theorem zhand (x k : Nat) : zsum (fun c => if (!zl F e k && decide (c < zn F) && zk F e k c) = true then x else 0) (zn F) = if zl F e k = true then 0 else zB F e k * x := by
  by_cases hl : zl F e k = true
  · rw [if_pos hl, zsum_congr (g := fun _ => 0) (fun c hc => by simp [hl]), zsum_zero]
  · rw [if_neg hl]
    have hl2 : zl F e k = false := by simpa using hl
    unfold zB
    rw [Nat.mul_comm, ← zsum_mul]
    refine zsum_congr (fun c hc => ?_)
    by_cases hk : zk F e k c = true
    · simp [hl2, hc, hk]
    · simp [hk]
theorem zsf_congr {f g : Nat → Nat} {k n : Nat} (h : ∀ c, k ≤ c → c < n → f c = g c) : zsf f k n = zsf g k n := by
  unfold zsf
  refine zsum_congr (fun c hc => ?_)
  by_cases hk : k ≤ c
  · simp [hk, h c hk hc]
  · simp [hk]
theorem zsf_add (f g : Nat → Nat) (k n : Nat) : zsf (fun c => f c + g c) k n = zsf f k n + zsf g k n := by
  unfold zsf
  rw [← zsum_add]
  refine zsum_congr (fun c hc => ?_)
  by_cases hk : k ≤ c
  · simp [hk]
  · simp [hk]
theorem zsf_all {f : Nat → Nat} {k n : Nat} (h : ∀ c, c < n → c < k → f c = 0) : zsf f k n = zsum f n := by
  unfold zsf
  refine zsum_congr (fun c hc => ?_)
  by_cases hk : k ≤ c
  · simp [hk]
  · simp [hk, h c hc (by omega)]
/-- all that is there when the first k have handed on -/
def zM (F : Fam) (e : Nat) (P : Nat → Nat) (k : Nat) : Nat := zsf (ztb F e P k) k (zn F) + zsum (fun p => if zl F e p = true then ztb F e P p p else 0) k
theorem zM_step {k : Nat} (hk : k < zn F) : zM F e P (k + 1) = zsf (ztb F e P k) (k + 1) (zn F) + (if zl F e k = true then ztb F e P k k else zB F e k * (ztb F e P k k / zB F e k)) + zsum (fun p => if zl F e p = true then ztb F e P p p else 0) k := by
  unfold zM
  have h1 : zsf (ztb F e P (k + 1)) (k + 1) (zn F) = zsf (ztb F e P k) (k + 1) (zn F) + zsum (fun c => if (!zl F e k && decide (c < zn F) && zk F e k c) = true then ztb F e P k k / zB F e k else 0) (zn F) := by
    rw [← zsf_all (k := k + 1) (f := fun c => if (!zl F e k && decide (c < zn F) && zk F e k c) = true then ztb F e P k k / zB F e k else 0), ← zsf_add]
    · rfl
    · intro c hc hck
      have : zk F e k c = false := by
        unfold zk
        have : ¬ k < c := by omega
        simp [this]
      simp [this]
  rw [h1, zhand]
  show _ + (zsum (fun p => if zl F e p = true then ztb F e P p p else 0) k + (if zl F e k = true then ztb F e P k k else 0)) = _
  by_cases hl : zl F e k = true
  · simp only [hl, if_true]; omega
  · simp only [hl]; simp
theorem zM_cut {k : Nat} (hk : k < zn F) : zM F e P k = zsf (ztb F e P k) (k + 1) (zn F) + ztb F e P k k + zsum (fun p => if zl F e p = true then ztb F e P p p else 0) k := by
  unfold zM
  rw [zsf_cut _ hk]
  omega
theorem zM_le {k : Nat} (hk : k < zn F) : zM F e P (k + 1) ≤ zM F e P k := by
  rw [zM_step hk, zM_cut hk]
  have h1 : zB F e k * (ztb F e P k k / zB F e k) ≤ ztb F e P k k := Nat.mul_div_le _ _
  by_cases hl : zl F e k = true
  · simp only [hl, if_true]; omega
  · simp only [hl]; simp; omega
theorem zM_eq {k : Nat} (hk : k < zn F) (h : zl F e k = false → zB F e k ∣ ztb F e P k k) : zM F e P (k + 1) = zM F e P k := by
  rw [zM_step hk, zM_cut hk]
  by_cases hl : zl F e k = true
  · simp only [hl, if_true]
  · have hl2 : zl F e k = false := by simpa using hl
    rw [if_neg hl, Nat.mul_div_cancel' (h hl2)]
theorem zM_0 : zM F e P 0 = zsum P (zn F) := by
  unfold zM
  rw [zsf_0]
  rfl
theorem zM_mono : ∀ {k : Nat}, k ≤ zn F → zM F e P k ≤ zsum P (zn F)
  | 0, _ => by rw [zM_0]; exact Nat.le_refl _
  | k + 1, h => Nat.le_trans (zM_le (by omega)) (zM_mono (by omega))
/-- no part is above the whole -/
theorem ztb_le {k c : Nat} (hk : k ≤ c) (hc : c < zn F) : ztb F e P k c ≤ zsum P (zn F) := by
  have h1 := zM_mono (F := F) (e := e) (P := P) (k := k) (by omega)
  have h2 : ztb F e P k c ≤ zsf (ztb F e P k) k (zn F) := by
    have := zsum_one (f := fun c => if k ≤ c then ztb F e P k c else 0) hc
    simp only [hk, if_true] at this
    exact this
  unfold zM at h1
  omega
/-- the product from a place on -/
def zsp (f : Nat → Nat) : Nat → Nat → Nat
  | 0, _ => 1
  | m + 1, k => f k * zsp f m (k + 1)
theorem zpd_sp (f : Nat → Nat) : ∀ (m k : Nat), zpd f (k + m) = zpd f k * zsp f m k
  | 0, k => by simp [zsp]
  | m + 1, k => by
    have h := zpd_sp f m (k + 1)
    have e1 : k + (m + 1) = k + 1 + m := by omega
    rw [e1, h]
    show zpd f k * f k * zsp f m (k + 1) = zpd f k * (f k * zsp f m (k + 1))
    rw [Nat.mul_assoc]
theorem zsp_all (f : Nat → Nat) (n : Nat) : zsp f n 0 = zpd f n := by
  have := zpd_sp f n 0
  simp [zpd] at this
  exact this.symm
theorem zfa_pos (p : Nat) : 0 < zfa F e p := by
  unfold zfa
  by_cases h : (!zl F e p && decide (0 < zB F e p)) = true
  · rw [if_pos h]
    simp only [Bool.and_eq_true, decide_eq_true_eq] at h
    exact h.2
  · rw [if_neg h]; omega
theorem zsp_pos (m k : Nat) : 0 < zsp (zfa F e) m k := by
  induction m generalizing k with
  | zero => exact Nat.one_pos
  | succ m ih => exact Nat.mul_pos (zfa_pos k) (ih (k + 1))
theorem zpr_pos : 0 < zpr F e := by
  unfold zpr
  rw [← zsp_all]
  exact zsp_pos _ _
/-- parts lie where heirs are -/
def zSup (F : Fam) (e : Nat) (P : Nat → Nat) : Prop := ∀ c, c < zn F → zX F e c = false → P c = 0
theorem ztb_sup (hs : zSup F e P) : ∀ k : Nat, zSup F e (ztb F e P k)
  | 0 => hs
  | k + 1 => by
    intro c hc hx
    show ztb F e P k c + _ = 0
    rw [ztb_sup hs k c hc hx]
    have : zk F e k c = false := by
      unfold zk
      simp [hx]
    simp [this]
/-- every part is a multiple of the product from there on -/
theorem ztb_dvd (hd : ∀ c, c < zn F → zpr F e ∣ P c) : ∀ k m : Nat, k + m = zn F → ∀ c, k ≤ c → c < zn F → zsp (zfa F e) m k ∣ ztb F e P k c
  | 0, m, h, c, _, hc => by
    have e1 : m = zn F := by omega
    subst e1
    rw [zsp_all]
    exact hd c hc
  | k + 1, m, h, c, hk, hc => by
    have h1 := ztb_dvd hd k (m + 1) (by omega) c (by omega) hc
    have h2 := ztb_dvd hd k (m + 1) (by omega) k (Nat.le_refl k) (by omega)
    have e1 : zsp (zfa F e) (m + 1) k = zfa F e k * zsp (zfa F e) m (k + 1) := rfl
    rw [e1] at h1 h2
    refine Nat.dvd_add (Nat.dvd_trans (Nat.dvd_mul_left _ _) h1) ?_
    by_cases hcond : (!zl F e k && decide (c < zn F) && zk F e k c) = true
    · rw [if_pos hcond]
      simp only [Bool.and_eq_true, decide_eq_true_eq, Bool.not_eq_true'] at hcond
      have hB := zB_pos hc hcond.2
      have hf : zfa F e k = zB F e k := by
        unfold zfa
        rw [if_pos (by simp [hcond.1.1, hB])]
      rw [hf] at h2
      obtain ⟨t, ht⟩ := h2
      rw [ht, Nat.mul_assoc, Nat.mul_div_cancel_left _ hB]
      exact Nat.dvd_mul_right _ _
    · rw [if_neg hcond]
      exact Nat.dvd_zero _
theorem ztb_B (hd : ∀ c, c < zn F → zpr F e ∣ P c) (hs : zSup F e P) {k : Nat} (hk : k < zn F) (hl : zl F e k = false) : zB F e k ∣ ztb F e P k k := by
  by_cases hB : 0 < zB F e k
  · have h := ztb_dvd hd k (zn F - k) (by omega) k (Nat.le_refl k) hk
    obtain ⟨m, hm⟩ : ∃ m, zn F - k = m + 1 := ⟨zn F - k - 1, by omega⟩
    rw [hm] at h
    have hf : zfa F e k = zB F e k := by
      unfold zfa
      rw [if_pos (by simp [hl, hB])]
    have e1 : zsp (zfa F e) (m + 1) k = zB F e k * zsp (zfa F e) m (k + 1) := by
      show zfa F e k * _ = _
      rw [hf]
    rw [e1] at h
    exact Nat.dvd_trans (Nat.dvd_mul_right _ _) h
  · have hx : zX F e k = false := by
      rw [zX_eq F e hk, hl]
      simp; omega
    rw [ztb_sup hs k k hk hx]
    exact Nat.dvd_zero _
/-- nothing is lost -/
theorem zM_all (hd : ∀ c, c < zn F → zpr F e ∣ P c) (hs : zSup F e P) : ∀ {k : Nat}, k ≤ zn F → zM F e P k = zsum P (zn F)
  | 0, _ => zM_0
  | k + 1, h => (zM_eq (by omega) (fun hl => ztb_B hd hs (by omega) hl)).trans (zM_all hd hs (by omega))
theorem zta_sum (hd : ∀ c, c < zn F → zpr F e ∣ P c) (hs : zSup F e P) (T : Nat → Nat) : zsum (zta F e P T) (zn F) = zsum T (zn F) + zsum P (zn F) := by
  have h := zM_all hd hs (Nat.le_refl (zn F))
  unfold zM at h
  rw [zsf_end, Nat.zero_add] at h
  rw [← h, ← zsum_add]
  rfl
/-- it goes with the amount -/
theorem ztb_lin (a : Nat) (hd : ∀ c, c < zn F → zpr F e ∣ P c) (hs : zSup F e P) : ∀ k : Nat, k ≤ zn F → ∀ c, ztb F e (fun c => a * P c) k c = a * ztb F e P k c
  | 0, _, c => rfl
  | k + 1, hk, c => by
    show ztb F e (fun c => a * P c) k c + _ = a * (ztb F e P k c + _)
    rw [ztb_lin a hd hs k (by omega) c, ztb_lin a hd hs k (by omega) k, Nat.mul_add]
    by_cases hcond : (!zl F e k && decide (c < zn F) && zk F e k c) = true
    · rw [if_pos hcond, if_pos hcond]
      simp only [Bool.and_eq_true, decide_eq_true_eq, Bool.not_eq_true'] at hcond
      rw [Nat.mul_div_assoc a (ztb_B hd hs (by omega) hcond.1.1)]
    · rw [if_neg hcond, if_neg hcond, Nat.mul_zero]
end Fl
