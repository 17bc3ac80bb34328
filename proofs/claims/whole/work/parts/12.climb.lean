/-! What goes up to the ancestors: nothing is lost, the halves are exact -/
section Cm
variable {F : Fam} {e : Nat}
theorem zpar {p j : Nat} (hW : zW F) (hp : p < zn F) (h : za F p = some j ∨ zb F p = some j) : j < p := by
  rcases h with h | h
  · exact hW.2.1 p j hp h
  · exact hW.2.2.1 p j hp h
/-- one parent's part, over all -/
theorem zpt (o : Option Nat) (Y : Nat → Bool) (x n : Nat) (hj : ∀ j, o = some j → j < n) : zsum (fun j => if o = some j ∧ Y j = true then x else 0) n = if zoB o Y = true then x else 0 := by
  cases o with
  | none =>
    rw [zsum_congr (g := fun _ => 0) (fun c _ => by simp), zsum_zero]
    simp [zoB]
  | some i =>
    have hi := hj i rfl
    by_cases hy : Y i = true
    · have h1 : ∀ j, (if (some i = some j ∧ Y j = true) then x else 0) = if j = i then x else 0 := by
        intro j
        by_cases hji : j = i
        · subst hji; simp [hy]
        · simp [hji, Ne.symm hji]
      rw [zsum_congr (g := fun j => if j = i then x else 0) (fun c _ => h1 c), zsum_pt]
      simp [hi, zoB, hy]
    · rw [zsum_congr (g := fun _ => 0) (fun j _ => by
        by_cases hji : i = j
        · subst hji; simp [hy]
        · simp [hji]), zsum_zero]
      simp [zoB, hy]
theorem zc1_sum (hW : zW F) {h p : Nat} (hp : p < zn F) (v : Nat → Nat) (h2 : 2 ∣ v p) (hY : v p ≠ 0 → zY F e (h + 1) p = true) : zsum (fun j => zc1 F e h v p j) (zn F) = v p := by
  unfold zc1
  rw [zsum_add, zpt (za F p) (zY F e h) _ (zn F) (fun j hj => Nat.lt_trans (zpar hW hp (Or.inl hj)) hp), zpt (zb F p) (zY F e h) _ (zn F) (fun j hj => Nat.lt_trans (zpar hW hp (Or.inr hj)) hp)]
  by_cases h0 : v p = 0
  · simp [h0]
  · have hy := hY h0
    have hy2 : (zoB (za F p) (zY F e h) || zoB (zb F p) (zY F e h)) = true := hy
    obtain ⟨t, ht⟩ := h2
    by_cases ha : zoB (za F p) (zY F e h) = true
    · by_cases hb : zoB (zb F p) (zY F e h) = true
      · simp only [ha, hb, if_true]; omega
      · simp only [ha, hb, if_true]; simp
    · have hb : zoB (zb F p) (zY F e h) = true := by
        cases h1 : zoB (za F p) (zY F e h) with
        | true => exact absurd h1 ha
        | false => rw [h1] at hy2; simpa using hy2
      simp only [ha, hb, if_true]; simp
theorem zcl_sum (hW : zW F) {h : Nat} (v : Nat → Nat) (h2 : ∀ p, p < zn F → 2 ∣ v p) (hY : ∀ p, p < zn F → v p ≠ 0 → zY F e (h + 1) p = true) : zsum (zcl F e h v) (zn F) = zsum v (zn F) := by
  show zsum (fun j => zsum (fun p => zc1 F e h v p j) (zn F)) (zn F) = _
  rw [zsum_swap]
  exact zsum_congr (fun p hp => zc1_sum hW hp v (h2 p hp) (hY p hp))
theorem zcl_sup {h : Nat} (v : Nat → Nat) {j : Nat} (hj : zcl F e h v j ≠ 0) : zY F e h j = true := by
  cases hy : zY F e h j with
  | true => rfl
  | false =>
    exfalso
    apply hj
    unfold zcl
    rw [zsum_congr (g := fun _ => 0) (fun p _ => by simp [zc1, hy]), zsum_zero]
theorem zsum_dvd {m : Nat} {f : Nat → Nat} : ∀ {n : Nat}, (∀ c, c < n → m ∣ f c) → m ∣ zsum f n
  | 0, _ => Nat.dvd_zero _
  | n + 1, h => Nat.dvd_add (zsum_dvd (n := n) (fun c hc => h c (Nat.lt_succ_of_lt hc))) (h n (Nat.lt_succ_self n))
theorem zhalf_dvd {m x : Nat} (h : 2 * m ∣ x) : m ∣ x / 2 ∧ m ∣ x := by
  obtain ⟨t, ht⟩ := h
  refine ⟨⟨t, ?_⟩, ⟨2 * t, ?_⟩⟩
  · rw [ht, Nat.mul_assoc, Nat.mul_div_cancel_left _ (by omega)]
  · rw [ht, Nat.mul_comm 2 m, Nat.mul_assoc]
theorem zcl_dvd {h m : Nat} {v : Nat → Nat} (hd : ∀ p, p < zn F → 2 * m ∣ v p) (j : Nat) : m ∣ zcl F e h v j := by
  refine zsum_dvd (fun p hp => ?_)
  obtain ⟨h1, h2⟩ := zhalf_dvd (hd p hp)
  have key : ∀ (c d : Prop) [Decidable c] [Decidable d], m ∣ (if c then (if d then v p / 2 else v p) else 0) := by
    intro c d _ _
    by_cases hc : c
    · by_cases hd : d
      · simp [hc, hd]; exact h1
      · simp [hc, hd]; exact h2
    · simp [hc]
  exact Nat.dvd_add (key _ _) (key _ _)
theorem zcl_lin (a : Nat) {h : Nat} {v : Nat → Nat} (h2 : ∀ p, p < zn F → 2 ∣ v p) (j : Nat) : zcl F e h (fun p => a * v p) j = a * zcl F e h v j := by
  unfold zcl
  rw [← zsum_mul]
  refine zsum_congr (fun p hp => ?_)
  unfold zc1
  have e2 : a * v p / 2 = a * (v p / 2) := Nat.mul_div_assoc a (h2 p hp)
  have key : ∀ (c d : Prop) [Decidable c] [Decidable d], (if c then (if d then a * v p / 2 else a * v p) else 0) = a * (if c then (if d then v p / 2 else v p) else 0) := by
    intro c d _ _
    by_cases hc : c
    · by_cases hd : d
      · simp [hc, hd, e2]
      · simp [hc, hd]
    · simp [hc]
  rw [Nat.mul_add, ← key, ← key]
theorem zcl_congr {h : Nat} {v w : Nat → Nat} (hv : ∀ p, p < zn F → v p = w p) : zcl F e h v = zcl F e h w := by
  funext j
  exact zsum_congr (fun p hp => by simp only [zc1, hv p hp])
theorem zup_congr : ∀ {h : Nat} {v w : Nat → Nat}, (∀ p, p < zn F → v p = w p) → ∀ p, p < zn F → zup F e h v p = zup F e h w p
  | 0, v, w, hv, p, hp => hv p hp
  | h + 1, v, w, hv, p, hp => by
    show zup F e h (zcl F e h v) p = zup F e h (zcl F e h w) p
    rw [zcl_congr hv]
/-- up all heights -/
theorem zup_facts (hW : zW F) (m : Nat) : ∀ (h : Nat) (v : Nat → Nat), (∀ p, p < zn F → 2 ^ h * m ∣ v p) → (∀ p, p < zn F → v p ≠ 0 → zY F e h p = true) →
    zsum (zup F e h v) (zn F) = zsum v (zn F) ∧ (∀ p, p < zn F → m ∣ zup F e h v p) ∧ (∀ p, p < zn F → zup F e h v p ≠ 0 → zY F e 0 p = true) ∧ ∀ a p, p < zn F → zup F e h (fun p => a * v p) p = a * zup F e h v p
  | 0, v, hd, hY => by
    refine ⟨rfl, fun p hp => ?_, hY, fun a p hp => rfl⟩
    have := hd p hp
    simp at this
    exact this
  | h + 1, v, hd, hY => by
    have hd2 : ∀ p, p < zn F → 2 * (2 ^ h * m) ∣ v p := by
      intro p hp
      have := hd p hp
      rw [Nat.pow_succ, Nat.mul_comm (2 ^ h) 2, Nat.mul_assoc] at this
      exact this
    have h2 : ∀ p, p < zn F → 2 ∣ v p := fun p hp => Nat.dvd_trans (Nat.dvd_mul_right 2 _) (hd2 p hp)
    obtain ⟨i1, i2, i3, i4⟩ := zup_facts hW m h (zcl F e h v) (fun j _ => zcl_dvd hd2 j) (fun j _ hj => zcl_sup v hj)
    refine ⟨i1.trans (zcl_sum hW v h2 hY), i2, i3, fun a p hp => ?_⟩
    show zup F e h (zcl F e h (fun p => a * v p)) p = a * zup F e h (zcl F e h v) p
    rw [← i4 a p hp, zup_congr (fun j _ => zcl_lin a h2 j) p hp]
/-- the taker's line has heirs -/
theorem zt_Y (h : zt F e ≤ 3) : zY F e (zt F e) e = true := by
  unfold zt at h ⊢
  by_cases h0 : zY F e 0 e = true
  · simp only [h0, if_true]
  · by_cases h1 : zY F e 1 e = true
    · simp only [h0, h1, if_true]; simpa using h1
    · by_cases h2 : zY F e 2 e = true
      · simp only [h0, h1, h2, if_true]; simpa using h2
      · by_cases hw : (zw F e).isNone = true
        · by_cases h3 : zY F e 3 e = true
          · simp only [h0, h1, h2, h3, hw, if_true]; simpa using h3
          · simp [h0, h1, h2, h3, hw] at h
        · simp [h0, h1, h2, hw] at h
theorem zq_le : zq F e ≤ 4 := by
  unfold zq
  split
  · omega
  · split
    · omega
    · split <;> omega
/-- where the parts by shares begin -/
theorem zP0_facts (hW : zW F) (he : e < zn F) (a : Nat) : (∀ p, p < zn F → zpr F e ∣ zP0 F e 1 p) ∧ zSup F e (zP0 F e 1) ∧ (∀ p, p < zn F → zP0 F e a p = a * zP0 F e 1 p) ∧ (zt F e ≤ 3 → zsum (zP0 F e 1) (zn F) = 8 * zpr F e * (4 - zq F e)) := by
  unfold zP0
  by_cases ht : zt F e ≤ 3
  · simp only [ht, if_true]
    have hp2 : ∃ r, 8 = 2 ^ zt F e * r := by
      have : zt F e = 0 ∨ zt F e = 1 ∨ zt F e = 2 ∨ zt F e = 3 := by omega
      rcases this with h | h | h | h <;> rw [h]
      · exact ⟨8, rfl⟩
      · exact ⟨4, rfl⟩
      · exact ⟨2, rfl⟩
      · exact ⟨1, rfl⟩
    obtain ⟨r, hr⟩ := hp2
    obtain ⟨v, hv⟩ : ∃ v : Nat → Nat, v = fun p => if p = e then 1 * (8 * zpr F e) * (4 - zq F e) else 0 := ⟨_, rfl⟩
    obtain ⟨i1, i2, i3, i4⟩ := zup_facts (F := F) (e := e) hW (zpr F e) (zt F e) v (fun p hp => by
      rw [hv]
      by_cases hpe : p = e
      · simp only [hpe, if_true]
        refine ⟨r * (4 - zq F e), ?_⟩
        rw [hr, Nat.one_mul, Nat.mul_assoc (2 ^ zt F e) r, Nat.mul_comm r (zpr F e), ← Nat.mul_assoc, Nat.mul_assoc]
      · simp [hpe]) (fun p hp h0 => by
      rw [hv] at h0
      by_cases hpe : p = e
      · rw [hpe]; exact zt_Y ht
      · simp [hpe] at h0)
    rw [← hv]
    refine ⟨i2, fun c hc hx => ?_, fun p hp => ?_, fun _ => ?_⟩
    · cases hz : zup F e (zt F e) v c with
      | zero => rfl
      | succ k =>
        have := i3 c hc (by omega)
        rw [show zY F e 0 c = zX F e c from rfl, hx] at this
        cases this
    · rw [← i4 a p hp]
      refine zup_congr (fun c _ => ?_) p hp
      rw [hv]
      by_cases hce : c = e
      · simp only [hce, if_true, Nat.one_mul]
        rw [Nat.mul_assoc a]
      · simp [hce]
    · rw [i1, hv, zsum_pt]
      simp [he]
  · simp only [ht, if_false]
    refine ⟨fun _ _ => Nat.dvd_zero _, fun _ _ _ => rfl, fun _ _ => by simp, fun h => absurd h (by simpa using ht)⟩
/-- shares go with the amount -/
theorem ztb_congr {P R : Nat → Nat} (h : ∀ c, c < zn F → P c = R c) : ∀ k : Nat, k ≤ zn F → ∀ c, c < zn F → ztb F e P k c = ztb F e R k c
  | 0, _, c, hc => h c hc
  | k + 1, hk, c, hc => by
    show ztb F e P k c + _ = ztb F e R k c + _
    rw [ztb_congr h k (by omega) c hc, ztb_congr h k (by omega) k (by omega)]
theorem zsh_lin (hW : zW F) (he : e < zn F) (a : Nat) {p : Nat} (hp : p < zn F) : zsh F e a p = a * zsh F e 1 p := by
  obtain ⟨h1, h2, h3, -⟩ := zP0_facts hW he a
  unfold zsh zta
  rw [ztb_congr h3 p (by omega) p hp, ztb_lin a h1 h2 p (by omega) p, Nat.mul_add]
  have e1 : zT0 F e a p = a * zT0 F e 1 p := by
    unfold zT0
    by_cases hw : zw F e = some p
    · simp only [hw, if_true, Nat.one_mul]
      rw [Nat.mul_assoc a]
    · simp [hw]
  rw [e1]
  by_cases hl : zl F e p = true
  · simp [hl]
  · simp [hl]
theorem zw_lt (hW : zW F) (he : e < zn F) {p : Nat} (h : zw F e = some p) : p < zn F ∧ zl F e p = true := by
  unfold zw at h
  cases hs : zs F e with
  | none => rw [hs] at h; simp at h
  | some j =>
    rw [hs] at h
    by_cases hl : zl F e j = true
    · simp [hl] at h
      subst h
      exact ⟨hW.2.2.2.2.1 e j he hs, hl⟩
    · simp [hl] at h
theorem zT0_sum (hW : zW F) (he : e < zn F) : zsum (zT0 F e 1) (zn F) = 8 * zpr F e * zq F e := by
  unfold zT0
  cases hw : zw F e with
  | none =>
    rw [zsum_congr (g := fun _ => 0) (fun c _ => by simp), zsum_zero]
    simp [zq, hw]
  | some j =>
    have hj := (zw_lt hW he hw).1
    rw [zsum_congr (g := fun c => if c = j then 1 * (8 * zpr F e) * zq F e else 0) (fun c _ => by
      by_cases hc : c = j
      · simp [hc]
      · simp [hc, Ne.symm hc]), zsum_pt]
    simp [hj]
/-- all shares together are the whole -/
theorem zsh_sum (hW : zW F) (he : e < zn F) (ht : zt F e ≤ 4) : zsum (zsh F e 1) (zn F) = 32 * zpr F e := by
  obtain ⟨h1, h2, -, h4⟩ := zP0_facts hW he 1
  show zsum (zta F e (zP0 F e 1) (zT0 F e 1)) (zn F) = _
  rw [zta_sum h1 h2, zT0_sum hW he]
  have hq := zq_le (F := F) (e := e)
  by_cases h3 : zt F e ≤ 3
  · rw [h4 h3, ← Nat.mul_add, show zq F e + (4 - zq F e) = 4 by omega]; omega
  · have h5 : zt F e = 4 := by omega
    have hP : zsum (zP0 F e 1) (zn F) = 0 := by
      unfold zP0
      rw [if_neg h3, zsum_zero]
    have hw : (zw F e).isNone = false := by
      unfold zt at h5
      cases hw : (zw F e).isNone with
      | false => rfl
      | true =>
        rw [hw] at h5
        split at h5
        · omega
        · split at h5
          · omega
          · split at h5
            · omega
            · simp only [if_true] at h5
              split at h5 <;> omega
    have hq4 : zq F e = 4 := by
      unfold zq
      simp [hw, h5]
    rw [hP, hq4]; omega
end Cm
