/-! Stems: who is reached, and that what comes down is above nothing just there -/
section St
variable {F : Fam} {e : Nat}
def zrc (F : Fam) (e top : Nat) : Nat → Nat → Bool
  | 0, _ => false
  | k + 1, p => (p == top) || zoB (za F p) (fun j => zrc F e top k j && !zl F e j) || zoB (zb F p) (fun j => zrc F e top k j && !zl F e j)
def zR (F : Fam) (e top p : Nat) : Bool := zrc F e top (p + 1) p
theorem zoB_congr {o : Option Nat} {f g : Nat → Bool} (h : ∀ j, o = some j → f j = g j) : zoB o f = zoB o g := by
  cases o with
  | none => rfl
  | some j => exact h j rfl
theorem zoB_some {o : Option Nat} {f : Nat → Bool} (h : zoB o f = true) : ∃ j, o = some j ∧ f j = true := by
  cases o with
  | none => cases h
  | some j => exact ⟨j, rfl, h⟩
theorem zoB_of {o : Option Nat} {f : Nat → Bool} {j : Nat} (h : o = some j) (hf : f j = true) : zoB o f = true := by
  rw [h]; exact hf
theorem zrc_stable (hW : zW F) (top : Nat) : ∀ (k p : Nat), p < zn F → p < k → zrc F e top (k + 1) p = zrc F e top k p
  | 0, p, _, h => absurd h (Nat.not_lt_zero p)
  | k + 1, p, hp, h => by
    show ((p == top) || zoB (za F p) (fun j => zrc F e top (k + 1) j && !zl F e j) || zoB (zb F p) (fun j => zrc F e top (k + 1) j && !zl F e j)) = ((p == top) || zoB (za F p) (fun j => zrc F e top k j && !zl F e j) || zoB (zb F p) (fun j => zrc F e top k j && !zl F e j))
    rw [zoB_congr (o := za F p) (g := fun j => zrc F e top k j && !zl F e j) (fun j hj => by
      have := zpar hW hp (Or.inl hj)
      rw [zrc_stable hW top k j (by omega) (by omega)]), zoB_congr (o := zb F p) (g := fun j => zrc F e top k j && !zl F e j) (fun j hj => by
      have := zpar hW hp (Or.inr hj)
      rw [zrc_stable hW top k j (by omega) (by omega)])]
theorem zrc_R (hW : zW F) (top : Nat) {p : Nat} (hp : p < zn F) : ∀ d : Nat, zrc F e top (p + 1 + d) p = zR F e top p
  | 0 => rfl
  | d + 1 => by
    show zrc F e top (p + 1 + d + 1) p = _
    rw [zrc_stable hW top (p + 1 + d) p hp (by omega)]
    exact zrc_R hW top hp d
theorem zR_eq (hW : zW F) (top : Nat) {p : Nat} (hp : p < zn F) : zR F e top p = ((p == top) || zoB (za F p) (fun j => zR F e top j && !zl F e j) || zoB (zb F p) (fun j => zR F e top j && !zl F e j)) := by
  show ((p == top) || zoB (za F p) (fun j => zrc F e top p j && !zl F e j) || zoB (zb F p) (fun j => zrc F e top p j && !zl F e j)) = _
  rw [zoB_congr (o := za F p) (g := fun j => zR F e top j && !zl F e j) (fun j hj => by
    have hj2 := zpar hW hp (Or.inl hj)
    have := zrc_R (e := e) hW top (p := j) (by omega) (p - (j + 1))
    rw [show j + 1 + (p - (j + 1)) = p by omega] at this
    rw [this]), zoB_congr (o := zb F p) (g := fun j => zR F e top j && !zl F e j) (fun j hj => by
    have hj2 := zpar hW hp (Or.inr hj)
    have := zrc_R (e := e) hW top (p := j) (by omega) (p - (j + 1))
    rw [show j + 1 + (p - (j + 1)) = p by omega] at this
    rw [this])]
/-- reached: it is the top, or a child of one that is reached and gone -/
theorem zR_cases (hW : zW F) {top p : Nat} (hp : p < zn F) (h : zR F e top p = true) : p = top ∨ ∃ j, j < p ∧ zch F p j = true ∧ zR F e top j = true ∧ zl F e j = false := by
  rw [zR_eq hW top hp] at h
  simp only [Bool.or_eq_true, beq_iff_eq] at h
  rcases h with (h | h) | h
  · exact Or.inl h
  · obtain ⟨j, h1, h2⟩ := zoB_some h
    simp only [Bool.and_eq_true, Bool.not_eq_true'] at h2
    exact Or.inr ⟨j, zpar hW hp (Or.inl h1), by unfold zch; simp [h1], h2.1, h2.2⟩
  · obtain ⟨j, h1, h2⟩ := zoB_some h
    simp only [Bool.and_eq_true, Bool.not_eq_true'] at h2
    exact Or.inr ⟨j, zpar hW hp (Or.inr h1), by unfold zch; simp [h1], h2.1, h2.2⟩
theorem zR_step (hW : zW F) {top p j : Nat} (hp : p < zn F) (hc : zch F p j = true) (hr : zR F e top j = true) (hl : zl F e j = false) : zR F e top p = true := by
  rw [zR_eq hW top hp]
  unfold zch at hc
  simp only [Bool.or_eq_true, beq_iff_eq] at hc ⊢
  rcases hc with hc | hc
  · exact Or.inl (Or.inr (zoB_of hc (by simp [hr, hl])))
  · exact Or.inr (zoB_of hc (by simp [hr, hl]))
theorem zR_top (hW : zW F) {top : Nat} (hp : top < zn F) : zR F e top top = true := by
  rw [zR_eq hW top hp]; simp
/-- heirs below make heirs above -/
theorem zR_X (hW : zW F) (top : Nat) : ∀ (n p : Nat), p < n → p < zn F → zR F e top p = true → zX F e p = true → zX F e top = true
  | 0, p, h, _, _, _ => absurd h (Nat.not_lt_zero p)
  | n + 1, p, h, hp, hr, hx => by
    rcases zR_cases hW hp hr with rfl | ⟨j, h1, h2, h3, h4⟩
    · exact hx
    · have hk : zk F e j p = true := by unfold zk; simp [h1, h2, hx]
      have hB := zB_pos hp hk
      have hxj : zX F e j = true := by rw [zX_eq F e (by omega)]; simp [hB]
      exact zR_X hW top n j (by omega) (by omega) h3 hxj
/-- who is reached by a child's way lies behind the top -/
theorem zR_le (hW : zW F) (top : Nat) : ∀ (n p : Nat), p < n → p < zn F → zR F e top p = true → top ≤ p
  | 0, p, h, _, _ => absurd h (Nat.not_lt_zero p)
  | n + 1, p, h, hp, hr => by
    rcases zR_cases hW hp hr with rfl | ⟨j, h1, h2, h3, h4⟩
    · exact Nat.le_refl _
    · exact Nat.le_trans (zR_le hW top n j (by omega) (by omega) h3) (by omega)
theorem ztb_grow (P : Nat → Nat) (k c : Nat) : ∀ d : Nat, ztb F e P k c ≤ ztb F e P (k + d) c
  | 0 => Nat.le_refl _
  | d + 1 => Nat.le_trans (ztb_grow P k c d) (Nat.le_add_right _ _)
theorem zsp_cut (m k : Nat) : ∀ d : Nat, d ≤ m → zsp (zfa F e) (m - d) (k + d) ≤ zsp (zfa F e) m k
  | 0, _ => Nat.le_refl _
  | d + 1, h => by
    refine Nat.le_trans ?_ (zsp_cut m k d (by omega))
    obtain ⟨r, hr⟩ : ∃ r, m - d = r + 1 := ⟨m - d - 1, by omega⟩
    rw [hr, show m - (d + 1) = r by omega, ← Nat.add_assoc]
    show zsp (zfa F e) r (k + d + 1) ≤ zfa F e (k + d) * zsp (zfa F e) r (k + d + 1)
    exact Nat.le_mul_of_pos_left _ (zfa_pos _)
def zPt (F : Fam) (e top : Nat) : Nat → Nat := fun c => if c = top then zpr F e else 0
theorem zst_low (hW : zW F) (top : Nat) : ∀ (n c : Nat), c < n → c < zn F → zR F e top c = true → zX F e c = true → zsp (zfa F e) (zn F - c) c ≤ ztb F e (zPt F e top) c c
  | 0, c, h, _, _, _ => absurd h (Nat.not_lt_zero c)
  | n + 1, c, h, hc, hr, hx => by
    rcases zR_cases hW hc hr with rfl | ⟨j, h1, h2, h3, h4⟩
    · refine Nat.le_trans ?_ (by have := ztb_grow (F := F) (e := e) (zPt F e c) 0 c c; rw [Nat.zero_add] at this; exact this)
      show _ ≤ zPt F e c c
      unfold zPt
      rw [if_pos rfl]
      unfold zpr
      rw [show zn F = c + (zn F - c) by omega, zpd_sp, show c + (zn F - c) - c = zn F - c by omega]
      refine Nat.le_mul_of_pos_left _ ?_
      have : ∀ k, 0 < zpd (zfa F e) k := by
        intro k
        induction k with
        | zero => exact Nat.one_pos
        | succ k ih => exact Nat.mul_pos ih (zfa_pos k)
      exact this c
    · have hk : zk F e j c = true := by unfold zk; simp [h1, h2, hx]
      have hB := zB_pos hc hk
      have hxj : zX F e j = true := by rw [zX_eq F e (by omega)]; simp [hB]
      have ih := zst_low hW top n j (by omega) (by omega) h3 hxj
      have hf : zfa F e j = zB F e j := by
        unfold zfa
        rw [if_pos (by simp [h4, hB])]
      obtain ⟨m, hm⟩ : ∃ m, zn F - j = m + 1 := ⟨zn F - j - 1, by omega⟩
      rw [hm] at ih
      have e1 : zsp (zfa F e) (m + 1) j = zB F e j * zsp (zfa F e) m (j + 1) := by
        show zfa F e j * _ = _
        rw [hf]
      rw [e1] at ih
      have h5 : zsp (zfa F e) m (j + 1) ≤ ztb F e (zPt F e top) j j / zB F e j := by
        rw [Nat.le_div_iff_mul_le hB, Nat.mul_comm]
        exact ih
      have h6 : ztb F e (zPt F e top) j j / zB F e j ≤ ztb F e (zPt F e top) (j + 1) c := by
        show _ ≤ ztb F e (zPt F e top) j c + (if (!zl F e j && decide (c < zn F) && zk F e j c) = true then ztb F e (zPt F e top) j j / zB F e j else 0)
        rw [if_pos (by simp [h4, hc, hk])]
        exact Nat.le_add_left _ _
      have h7 := ztb_grow (F := F) (e := e) (zPt F e top) (j + 1) c (c - (j + 1))
      rw [show j + 1 + (c - (j + 1)) = c by omega] at h7
      have h8 := zsp_cut (F := F) (e := e) m (j + 1) (c - (j + 1)) (by omega)
      rw [show j + 1 + (c - (j + 1)) = c by omega, show m - (c - (j + 1)) = zn F - c by omega] at h8
      omega
theorem zst_up (hW : zW F) (top : Nat) : ∀ (k c : Nat), c < zn F → k ≤ zn F → ztb F e (zPt F e top) k c ≠ 0 → zR F e top c = true
  | 0, c, hc, _, h => by
    have h1 : zPt F e top c ≠ 0 := h
    unfold zPt at h1
    by_cases hct : c = top
    · subst hct; exact zR_top hW hc
    · simp [hct] at h1
  | k + 1, c, hc, hk, h => by
    by_cases h1 : ztb F e (zPt F e top) k c = 0
    · have h2 : (if (!zl F e k && decide (c < zn F) && zk F e k c) = true then ztb F e (zPt F e top) k k / zB F e k else 0) ≠ 0 := by
        intro h3
        apply h
        show ztb F e (zPt F e top) k c + _ = 0
        rw [h1, h3]
      by_cases hcond : (!zl F e k && decide (c < zn F) && zk F e k c) = true
      · rw [if_pos hcond] at h2
        simp only [Bool.and_eq_true, decide_eq_true_eq, Bool.not_eq_true'] at hcond
        have h3 : ztb F e (zPt F e top) k k ≠ 0 := by
          intro h4
          rw [h4, Nat.zero_div] at h2
          exact h2 rfl
        have h4 := zst_up hW top k k (by omega) (by omega) h3
        have h5 : zch F c k = true := by
          have := hcond.2
          unfold zk at this
          simp only [Bool.and_eq_true, decide_eq_true_eq] at this
          exact this.1.2
        exact zR_step hW hc h5 h4 hcond.1.1
      · rw [if_neg hcond] at h2
        exact absurd rfl h2
    · exact zst_up hW top k c hc (by omega) h1
/-- of one who is left: something comes down to him just where he is reached -/
theorem zst_iff (hW : zW F) {top c : Nat} (hc : c < zn F) (hl : zl F e c = true) : 0 < ztb F e (zPt F e top) c c ↔ zR F e top c = true := by
  constructor
  · intro h
    exact zst_up hW top c c hc (by omega) (by omega)
  · intro h
    have hx : zX F e c = true := by rw [zX_eq F e hc]; simp [hl]
    exact Nat.lt_of_lt_of_le (zsp_pos _ _) (zst_low hW top (c + 1) c (by omega) hc h hx)
/-- ancestors at a height -/
def zan (F : Fam) : Nat → Nat → Nat → Bool
  | 0, who, top => who == top
  | h + 1, who, top => zoB (za F who) (fun j => zan F h j top) || zoB (zb F who) (fun j => zan F h j top)
theorem zan_Y {top : Nat} (hx : zX F e top = true) : ∀ (h who : Nat), zan F h who top = true → zY F e h who = true
  | 0, who, h => by
    have h1 : who = top := by simpa [zan] using h
    rw [h1]; exact hx
  | h + 1, who, ha => by
    have ha2 : (zoB (za F who) (fun j => zan F h j top) || zoB (zb F who) (fun j => zan F h j top)) = true := ha
    show (zoB (za F who) (zY F e h) || zoB (zb F who) (zY F e h)) = true
    simp only [Bool.or_eq_true] at ha2 ⊢
    rcases ha2 with h1 | h1
    · obtain ⟨j, h2, h3⟩ := zoB_some h1
      exact Or.inl (zoB_of h2 (zan_Y hx h j h3))
    · obtain ⟨j, h2, h3⟩ := zoB_some h1
      exact Or.inr (zoB_of h2 (zan_Y hx h j h3))
theorem zcl_ge {h p j x : Nat} {v : Nat → Nat} (hp : p < zn F) (hj : za F p = some j ∨ zb F p = some j) (hy : zY F e h j = true) (hv : 2 * x ≤ v p) : x ≤ zcl F e h v j := by
  have h1 := zsum_one (f := fun p => zc1 F e h v p j) hp
  refine Nat.le_trans ?_ h1
  show x ≤ zc1 F e h v p j
  have h2 : x ≤ v p / 2 := by omega
  have h3 : x ≤ v p := by omega
  have key : ∀ (d : Prop) [Decidable d], x ≤ (if d then v p / 2 else v p) := by
    intro d _
    by_cases hd : d
    · rw [if_pos hd]; exact h2
    · rw [if_neg hd]; exact h3
  unfold zc1
  rcases hj with hj | hj
  · rw [if_pos ⟨hj, hy⟩]
    exact Nat.le_trans (key _) (Nat.le_add_right _ _)
  · rw [if_pos (show zb F p = some j ∧ zY F e h j = true from ⟨hj, hy⟩)]
    exact Nat.le_trans (key _) (Nat.le_add_left _ _)
theorem zup_ge (hW : zW F) {top : Nat} (hx : zX F e top = true) : ∀ (h p : Nat) (v : Nat → Nat), p < zn F → 2 ^ h ≤ v p → zan F h p top = true → 1 ≤ zup F e h v top
  | 0, p, v, hp, hv, ha => by
    have h1 : p = top := by simpa [zan] using ha
    subst h1
    simpa [zup] using hv
  | h + 1, p, v, hp, hv, ha => by
    have ha2 : (zoB (za F p) (fun j => zan F h j top) || zoB (zb F p) (fun j => zan F h j top)) = true := ha
    have hv2 : 2 * 2 ^ h ≤ v p := by rw [Nat.pow_succ] at hv; omega
    simp only [Bool.or_eq_true] at ha2
    rcases ha2 with h1 | h1
    · obtain ⟨j, h2, h3⟩ := zoB_some h1
      exact zup_ge hW hx h j (zcl F e h v) (Nat.lt_trans (zpar hW hp (Or.inl h2)) hp) (zcl_ge hp (Or.inl h2) (zan_Y hx h j h3) hv2) h3
    · obtain ⟨j, h2, h3⟩ := zoB_some h1
      exact zup_ge hW hx h j (zcl F e h v) (Nat.lt_trans (zpar hW hp (Or.inr h2)) hp) (zcl_ge hp (Or.inr h2) (zan_Y hx h j h3) hv2) h3
theorem zsum_ne {f : Nat → Nat} : ∀ {n : Nat}, zsum f n ≠ 0 → ∃ p, p < n ∧ f p ≠ 0
  | 0, h => absurd rfl h
  | n + 1, h => by
    by_cases h1 : f n = 0
    · have h2 : zsum f n ≠ 0 := by
        intro h3
        apply h
        show zsum f n + f n = 0
        rw [h3, h1]
      obtain ⟨p, h3, h4⟩ := zsum_ne h2
      exact ⟨p, by omega, h4⟩
    · exact ⟨n, by omega, h1⟩
theorem zcl_ne {h j : Nat} {v : Nat → Nat} (hc : zcl F e h v j ≠ 0) : ∃ p, p < zn F ∧ v p ≠ 0 ∧ (za F p = some j ∨ zb F p = some j) := by
  obtain ⟨p, hp, h1⟩ := zsum_ne hc
  have hc1 : zc1 F e h v p j ≠ 0 := h1
  refine ⟨p, hp, ?_, ?_⟩
  · intro hv
    apply hc1
    unfold zc1
    simp [hv]
  · by_cases ha : za F p = some j
    · exact Or.inl ha
    · by_cases hb : zb F p = some j
      · exact Or.inr hb
      · exfalso
        apply hc1
        unfold zc1
        simp [ha, hb]
theorem zup_ne {top : Nat} : ∀ (h : Nat) (v : Nat → Nat), top < zn F → zup F e h v top ≠ 0 → ∃ p, p < zn F ∧ v p ≠ 0 ∧ zan F h p top = true
  | 0, v, ht, hu => ⟨top, ht, hu, by simp [zan]⟩
  | h + 1, v, ht, hu => by
    obtain ⟨j, hj, h1, h2⟩ := zup_ne h (zcl F e h v) ht hu
    obtain ⟨p, hp, h3, h4⟩ := zcl_ne h1
    refine ⟨p, hp, h3, ?_⟩
    show (zoB (za F p) (fun j => zan F h j top) || zoB (zb F p) (fun j => zan F h j top)) = true
    simp only [Bool.or_eq_true]
    rcases h4 with h4 | h4
    · exact Or.inl (zoB_of h4 h2)
    · exact Or.inr (zoB_of h4 h2)
end St
