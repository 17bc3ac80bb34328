/-! SuccessionClerk$Survey: lines, the taker, look. Laid by wip/whole/specs/p23.py -/
/-- lines up to the height k whole, of the next one up to w -/
def ILn (g : Sg) (F : Fam) (e k w : Nat) (g1 : Sg) : Prop := w ≤ zn F ∧ g1.2 = g.2 ∧ (∀ q, q ≠ 32 → g1.1 q = g.1 q) ∧ (∀ h, h ≤ k → ∀ p, p < zn F → g1.1 32 (h * 20 + p) = bI (zY F e h p)) ∧ (∀ p, p < w → g1.1 32 ((k + 1) * 20 + p) = bI (zY F e (k + 1) p))
theorem lines_step {g g1 : Sg} {F : Fam} {e k w : Nat} (hn : zn F ≤ 20) (h : ILn g F e k w g1) (hw : w < zn F) {x : Int32} (hx : x = bI (zY F e (k + 1) w)) : ILn g F e k (w + 1) (sI g1 32 (upd (g1.1 32) ((k + 1) * 20 + w) x)) := by
  obtain ⟨h1, h2, h3, h4, h5⟩ := h
  refine ⟨by omega, h2, fun q hq => by simp [sI, hq]; exact h3 q hq, fun h hh p hp => ?_, fun p hp => ?_⟩
  · have : h * 20 + p ≠ (k + 1) * 20 + w := by omega
    rw [sI_s, upd, if_neg this]; exact h4 h hh p hp
  · by_cases ep : p = w
    · subst ep; rw [sI_s, upd, if_pos rfl]; exact hx
    · rw [sI_s, upd, if_neg (by omega)]; exact h5 p (by omega)
theorem zt_found {F : Fam} {e h : Nat} (hH : h ≤ if (zw F e).isNone = true then 3 else 2) (hb : ∀ j, j < h → zY F e j e = false) (hy : zY F e h e = true) : zt F e = h := by
  unfold zt
  have h4 : h = 0 ∨ h = 1 ∨ h = 2 ∨ h = 3 := by split at hH <;> omega
  rcases h4 with rfl | rfl | rfl | rfl
  · simp [hy]
  · simp [hb 0 (by omega), hy]
  · simp [hb 0 (by omega), hb 1 (by omega), hy]
  · have hw : (zw F e).isNone = true := by
      cases hz : (zw F e).isNone with
      | true => rfl
      | false => rw [hz] at hH; simp at hH
    simp only [hb 0 (by omega), hb 1 (by omega), hb 2 (by omega), hw, hy]; simp
theorem zt_none {F : Fam} {e : Nat} (hb : ∀ j, j ≤ (if (zw F e).isNone = true then 3 else 2) → zY F e j e = false) : zt F e = if (zw F e).isNone = true then 5 else 4 := by
  unfold zt
  cases hz : (zw F e).isNone with
  | true =>
    rw [hz] at hb
    simp only [if_true] at hb
    simp [hb 0 (by omega), hb 1 (by omega), hb 2 (by omega), hb 3 (by omega)]
  | false =>
    rw [hz] at hb
    simp at hb
    simp [hb 0 (by omega), hb 1 (by omega), hb 2 (by omega)]
/-- what a survey holds -/
def LK (g : Sg) (F : Fam) (e : Nat) : Prop := g.1 29 1 = nI e ∧ g.1 29 2 = eO (zw F e) ∧ g.1 29 3 = nI (zt F e) ∧ (∀ p, p < zn F → g.1 30 p = bI (zl F e p)) ∧ (∀ p, p < zn F → g.1 31 p = nI (zB F e p)) ∧ (∀ h, h ≤ 3 → ∀ p, p < zn F → g.1 32 (h * 20 + p) = bI (zY F e h p))
theorem LK.congr {g g' : Sg} {F : Fam} {e : Nat} (h : LK g F e) (hq : ∀ q, 29 ≤ q → q ≤ 32 → g'.1 q = g.1 q) : LK g' F e := by
  obtain ⟨h1, h2, h3, h4, h5, h6⟩ := h
  rw [← hq 29 (by omega) (by omega)] at h1 h2 h3
  exact ⟨h1, h2, h3, fun p hp => by rw [hq 30 (by omega) (by omega)]; exact h4 p hp, fun p hp => by rw [hq 31 (by omega) (by omega)]; exact h5 p hp, fun h hh p hp => by rw [hq 32 (by omega) (by omega)]; exact h6 h hh p hp⟩
theorem zt_le (F : Fam) (e : Nat) : zt F e ≤ 5 := by
  unfold zt
  split
  · omega
  · split
    · omega
    · split
      · omega
      · split
        · split <;> omega
        · omega
theorem zw_isNone {F : Fam} (hW : zW F) {e : Nat} (he : e < zn F) : ∀ k, zw F e = some k → k < 2 ^ 31 := fun k h => Nat.lt_trans (zw_lt hW he h).1 (Nat.lt_of_le_of_lt hW.1 (by decide))
set_option maxRecDepth 100000 in
set_option maxHeartbeats 4000000 in
theorem ct_V_findLines (l : Launch) (b : Nat) (id : Nat → ClassId) (D : va_G) {g : Sg} {F : Fam} (hW : zW F) (hc : Hc g F) {e : Nat} (h0 : ∀ p, p < zn F → g.1 32 p = bI (zX F e p)) : qCT l b id D m_V_findLines false [.ref (b + 29)] 85 kT g 85 kT (fun v g' => v = none ∧ g'.2 = g.2 ∧ (∀ q, q ≠ 32 → g'.1 q = g.1 q) ∧ (∀ h, h ≤ 3 → ∀ p, p < zn F → g'.1 32 (h * 20 + p) = bI (zY F e h p))) (fun _ _ => False) := by
  have hn := hW.1
  refine qCT_of rfl (by decide) (Nat.le_of_ble_eq_true rfl) ?_
  show Vq l b id D m_V_findLines false 85 kT _ 85 kT _ 85 kT 0 0 0 [(0, .ref (b + 29))] [] g
  have loop : ∀ (n9 : Nat) (k : Nat) (g1 : Sg), 3 - k = n9 → (k ≤ 3 ∧ g1.2 = g.2 ∧ (∀ q, q ≠ 32 → g1.1 q = g.1 q) ∧ (∀ h, h ≤ k → ∀ p, p < zn F → g1.1 32 (h * 20 + p) = bI (zY F e h p))) → Vq l b id D m_V_findLines false 85 kT (fun v g' => v = none ∧ g'.2 = g.2 ∧ (∀ q, q ≠ 32 → g'.1 q = g.1 q) ∧ (∀ h, h ≤ 3 → ∀ p, p < zn F → g'.1 32 (h * 20 + p) = bI (zY F e h p))) 85 kT (fun _ _ => False) 85 kT 0 0 2 [(1, .int (nI (k + 1))), (0, .ref (b + 29))] [] g1 := by
    intro n9
    induction n9 using Nat.strongRecOn with
    | ind n9 ih =>
    intro k g1 hm hI
    have hk9 := hI.1
    refine vq_iload_n d_V_findLines_2 rfl ?_
    refine vq_iconst (v := 3) d_V_findLines_3 (by decide) ?_
    refine vq_icmp_gt (tgt := 86) d_V_findLines_4 (by decide) (fun h4 => ?_) (fun h4 => ?_)
    · have hk3 : k = 3 := by
        have h4b := h4
        rw [show (3 : Int32) = nI 3 from rfl, nI_ltI (by decide) (by omega)] at h4b
        omega
      subst hk3
      refine vq_vret d_V_findLines_86 rfl (by decide) (by decide) rfl rfl ?_
      exact ⟨rfl, hI.2.1, hI.2.2.1, hI.2.2.2⟩
    · have hk3 : k < 3 := by
        have h4b := h4
        rw [show (3 : Int32) = nI 3 from rfl, nI_ltI (by decide) (by omega)] at h4b
        omega
      have inner : ∀ (n8 : Nat) (w : Nat) (g1 : Sg), zn F - w = n8 → ILn g F e k w g1 → Vq l b id D m_V_findLines false 85 kT (fun v g' => v = none ∧ g'.2 = g.2 ∧ (∀ q, q ≠ 32 → g'.1 q = g.1 q) ∧ (∀ h, h ≤ 3 → ∀ p, p < zn F → g'.1 32 (h * 20 + p) = bI (zY F e h p))) 85 kT (fun _ _ => False) 85 kT 0 0 9 [(2, .int (nI w)), (1, .int (nI (k + 1))), (0, .ref (b + 29))] [] g1 := by
        intro n8
        induction n8 using Nat.strongRecOn with
        | ind n8 ih8 =>
        intro w g1 hm8 hI8
        have hI0 := hI8
        obtain ⟨hle, hg2, hfr, hprev, hcur⟩ := hI0
        have hc1 : Hc g1 F := hc.congr (fun q a c => hfr q (by omega))
        refine vq_iload_n d_V_findLines_9 rfl ?_
        refine vq_aload_n d_V_findLines_10 rfl ?_
        refine vq_getR (k := 0) (C := R_V) (T := T_V) d_V_findLines_11 rfl in_V w_82 (by decide) rfl (by decide) rfl rfl ?_
        refine vq_getI (k := 0) (C := R_F) (T := T_F) d_V_findLines_14 rfl in_F w_36 (by decide) rfl (by decide) rfl ?_
        refine vq_int (y := nI (zn F)) hc1.1 ?_
        refine vq_icmp_ge (tgt := 80) d_V_findLines_17 (by decide) (fun h17 => ?_) (fun h17 => ?_)
        · have hw : w = zn F := by
            rw [nI_leI (by omega) (by omega)] at h17
            omega
          subst hw
          refine vq_iinc (k := 1) (lv' := [(1, _), (2, _), (0, _)]) d_V_findLines_80 rfl (ip1 (k + 1)) (by decide) rfl ?_
          refine vq_goto (tgt := 2) d_V_findLines_83 (by decide) ?_
          refine vq_pk [0, 2] (lv' := [(1, _), (0, _)]) rfl ?_
          exact ih (3 - (k + 1)) (by omega) (k + 1) _ rfl ⟨by omega, hg2, hfr, fun h hh p hp => by
            by_cases e1 : h = k + 1
            · subst e1; exact hcur p hp
            · exact hprev h (by omega) p hp⟩
        · have hw : w < zn F := by
            rw [nI_leI (by omega) (by omega)] at h17
            omega
          have hza := hc1.2.1 w hw
          have hzb := hc1.2.2.1 w hw
          have s74 : ∀ (g2 : Sg), ILn g F e k (w + 1) g2 → Vq l b id D m_V_findLines false 85 kT (fun v g' => v = none ∧ g'.2 = g.2 ∧ (∀ q, q ≠ 32 → g'.1 q = g.1 q) ∧ (∀ h, h ≤ 3 → ∀ p, p < zn F → g'.1 32 (h * 20 + p) = bI (zY F e h p))) 85 kT (fun _ _ => False) 85 kT 0 0 74 [(2, .int (nI w)), (1, .int (nI (k + 1))), (0, .ref (b + 29))] [] g2 := by
            intro g2 hI2
            refine vq_iinc (k := 0) (lv' := [(2, _), (1, _), (0, _)]) d_V_findLines_74 rfl (ip1 w) (by decide) rfl ?_
            refine vq_goto (tgt := 9) d_V_findLines_77 (by decide) ?_
            exact ih8 (zn F - (w + 1)) (by omega) (w + 1) _ rfl hI2
          refine vq_aload_n d_V_findLines_20 rfl ?_
          refine vq_getR (k := 6) (C := R_V) (T := T_V) d_V_findLines_21 rfl in_V w_96 (by decide) rfl (by decide) rfl rfl ?_
          refine vq_iload_n d_V_findLines_24 rfl ?_
          refine vq_bipush (v := 20) d_V_findLines_25 (by decide) ?_
          refine vq_imul d_V_findLines_27 ?_
          refine vq_iload_n d_V_findLines_28 rfl ?_
          refine vq_iadd d_V_findLines_29 ?_
          refine vq_aload_n d_V_findLines_30 rfl ?_
          refine vq_aload_n d_V_findLines_31 rfl ?_
          refine vq_getR (k := 0) (C := R_V) (T := T_V) d_V_findLines_32 rfl in_V w_82 (by decide) rfl (by decide) rfl rfl ?_
          refine vq_getR (k := 1) (C := R_F) (T := T_F) d_V_findLines_35 rfl in_F w_39 (by decide) rfl (by decide) rfl rfl ?_
          refine vq_iload_n d_V_findLines_38 rfl ?_
          refine vq_iald d_V_findLines_39 (by decide) rfl rfl (show _ < 20 by omega) ?_
          refine vq_int (y := eO (za F w)) hza ?_
          refine vq_iload_n d_V_findLines_40 rfl ?_
          refine vq_iconst (v := 1) d_V_findLines_41 (by decide) ?_
          refine vq_isub d_V_findLines_42 ?_
          rw [nI_pred]
          refine vq_callV (n := 2) (C := R_V) (T := T_V) _ _ d_V_findLines_43 (ct_V_hasHeirs l b id D (o := za F w) (h := k) (Y := zY F e k) (by omega) (fun j hj => ⟨by have := hW.2.1 w j hw hj; omega, hprev k (Nat.le_refl k) j (by have := hW.2.1 w j hw hj; omega)⟩)) w_278 w_279 w_280 w_281 w_3 rfl ⟨by decide, by decide, by decide +kernel⟩ ⟨by decide, by decide⟩ (by decide) rfl rfl rfl rfl (Nat.le_of_ble_eq_true rfl) rfl rfl rfl ⟨by decide, by decide⟩ (fun _ _ h => h.elim) (fun v43 g43 h43 => ?_)
          rw [h43.1, h43.2]
          refine vq_if_ne (tgt := 68) d_V_findLines_46 (by decide) (fun h46 => ?_) (fun h46 => ?_)
          · have hy : zY F e (k + 1) w = true := by show (zoB (za F w) (zY F e k) || zoB (zb F w) (zY F e k)) = true; rw [bI_n0.mp h46]; rfl
            refine vq_iconst (v := 1) d_V_findLines_68 (by decide) ?_
            refine vq_goto (tgt := 73) d_V_findLines_69 (by decide) ?_
            refine vq_zast d_V_findLines_73 rfl (by decide) rfl (ix20 (k + 1) w) (show _ < 80 by omega) (by first | exact Or.inl rfl | exact Or.inr rfl) ?_
            exact s74 _ (lines_step hn hI8 hw (by rw [hy]; rfl))
          · have hy0 := bI_0.mp h46
            refine vq_aload_n d_V_findLines_49 rfl ?_
            refine vq_aload_n d_V_findLines_50 rfl ?_
            refine vq_getR (k := 0) (C := R_V) (T := T_V) d_V_findLines_51 rfl in_V w_82 (by decide) rfl (by decide) rfl rfl ?_
            refine vq_getR (k := 2) (C := R_F) (T := T_F) d_V_findLines_54 rfl in_F w_43 (by decide) rfl (by decide) rfl rfl ?_
            refine vq_iload_n d_V_findLines_57 rfl ?_
            refine vq_iald d_V_findLines_58 (by decide) rfl rfl (show _ < 20 by omega) ?_
            refine vq_int (y := eO (zb F w)) hzb ?_
            refine vq_iload_n d_V_findLines_59 rfl ?_
            refine vq_iconst (v := 1) d_V_findLines_60 (by decide) ?_
            refine vq_isub d_V_findLines_61 ?_
            rw [nI_pred]
            refine vq_callV (n := 2) (C := R_V) (T := T_V) _ _ d_V_findLines_62 (ct_V_hasHeirs l b id D (o := zb F w) (h := k) (Y := zY F e k) (by omega) (fun j hj => ⟨by have := hW.2.2.1 w j hw hj; omega, hprev k (Nat.le_refl k) j (by have := hW.2.2.1 w j hw hj; omega)⟩)) w_278 w_279 w_280 w_281 w_3 rfl ⟨by decide, by decide, by decide +kernel⟩ ⟨by decide, by decide⟩ (by decide) rfl rfl rfl rfl (Nat.le_of_ble_eq_true rfl) rfl rfl rfl ⟨by decide, by decide⟩ (fun _ _ h => h.elim) (fun v62 g62 h62 => ?_)
            rw [h62.1, h62.2]
            refine vq_if_eq (tgt := 72) d_V_findLines_65 (by decide) (fun h65 => ?_) (fun h65 => ?_)
            · have hy : zY F e (k + 1) w = false := by show (zoB (za F w) (zY F e k) || zoB (zb F w) (zY F e k)) = false; rw [hy0, bI_0.mp h65]; rfl
              refine vq_iconst (v := 0) d_V_findLines_72 (by decide) ?_
              refine vq_zast d_V_findLines_73 rfl (by decide) rfl (ix20 (k + 1) w) (show _ < 80 by omega) (by first | exact Or.inl rfl | exact Or.inr rfl) ?_
              exact s74 _ (lines_step hn hI8 hw (by rw [hy]; rfl))
            · have hy : zY F e (k + 1) w = true := by show (zoB (za F w) (zY F e k) || zoB (zb F w) (zY F e k)) = true; rw [hy0, bI_n0.mp h65]; rfl
              refine vq_iconst (v := 1) d_V_findLines_68 (by decide) ?_
              refine vq_goto (tgt := 73) d_V_findLines_69 (by decide) ?_
              refine vq_zast d_V_findLines_73 rfl (by decide) rfl (ix20 (k + 1) w) (show _ < 80 by omega) (by first | exact Or.inl rfl | exact Or.inr rfl) ?_
              exact s74 _ (lines_step hn hI8 hw (by rw [hy]; rfl))
      refine vq_iconst (v := 0) d_V_findLines_7 (by decide) ?_
      refine vq_istore_n (lv' := [(2, _), (1, _), (0, _)]) d_V_findLines_8 (by decide) rfl ?_
      exact inner (zn F) 0 _ rfl ⟨by omega, hI.2.1, hI.2.2.1, hI.2.2.2, fun p hp => absurd hp (Nat.not_lt_zero p)⟩
  refine vq_iconst (v := 1) d_V_findLines_0 (by decide) ?_
  refine vq_istore_n (lv' := [(1, _), (0, _)]) d_V_findLines_1 (by decide) rfl ?_
  exact loop 3 0 _ rfl ⟨by omega, rfl, fun q hq => rfl, fun h hh p hp => by rw [show h = 0 by omega]; rw [Nat.zero_mul, Nat.zero_add]; exact h0 p hp⟩
