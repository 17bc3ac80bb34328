/-! SuccessionClerk$Survey: lines, the taker, look. Laid by wip/whole/specs/p23.py -/
/-- lines up to the height k whole, of the next one up to w -/
def ILn (g : Sg) (F : Fam) (e k w : Nat) (g1 : Sg) : Prop := w ≤ zn F ∧ g1.2 = g.2 ∧ (∀ q, q ≠ 32 → g1.1 q = g.1 q) ∧ (∀ h, h ≤ k → ∀ p, p < zn F → g1.1 32 (h * 20 + p) = bI (zY F e h p)) ∧ (∀ p, p < w → g1.1 32 ((k + 1) * 20 + p) = bI (zY F e (k + 1) p))
theorem lines_step {g g1 : Sg} {F : Fam} {e k w : Nat} (hn : zn F ≤ 20) (h : ILn g F e k w g1) (hw : w < zn F) {x : Int32} (hx : x = bI (zY F e (k + 1) w)) : ILn g F e k (w + 1) (sI g1 32 (upd (g1.1 32) ((k + 1) * 20 + w) x)) := by
  obtain ⟨h1, h2, h3, h4, h5⟩ := h
  refine ⟨by omega, h2, fun q hq => by simp [sI, hq]; exact h3 q hq, fun h hh p hp => ?_, fun p hp => ?_⟩
  · have : h * 20 + p ≠ (k + 1) * 20 + w := by omega
    rw [sI_s, upd, if_neg this]; exact h4 h hh p hp
  · by_cases ep : p = w
    · subst ep; rw [sI_s, upd, if_pos rfl]; exact hx
    · rw [sI_s, upd, if_neg (by omega)]; exact h5 p (by omega)
theorem zt_found {F : Fam} {e h : Nat} (hH : h ≤ if (zw F e).isNone = true then 3 else 2) (hb : ∀ j, j < h → zY F e j e = false) (hy : zY F e h e = true) : zt F e = h := by
  unfold zt
  have h4 : h = 0 ∨ h = 1 ∨ h = 2 ∨ h = 3 := by split at hH <;> omega
  rcases h4 with rfl | rfl | rfl | rfl
  · simp [hy]
  · simp [hb 0 (by omega), hy]
  · simp [hb 0 (by omega), hb 1 (by omega), hy]
  · have hw : (zw F e).isNone = true := by
      cases hz : (zw F e).isNone with
      | true => rfl
      | false => rw [hz] at hH; simp at hH
    simp only [hb 0 (by omega), hb 1 (by omega), hb 2 (by omega), hw, hy]; simp
theorem zt_none {F : Fam} {e : Nat} (hb : ∀ j, j ≤ (if (zw F e).isNone = true then 3 else 2) → zY F e j e = false) : zt F e = if (zw F e).isNone = true then 5 else 4 := by
  unfold zt
  cases hz : (zw F e).isNone with
  | true =>
    rw [hz] at hb
    simp only [if_true] at hb
    simp [hb 0 (by omega), hb 1 (by omega), hb 2 (by omega), hb 3 (by omega)]
  | false =>
    rw [hz] at hb
    simp at hb
    simp [hb 0 (by omega), hb 1 (by omega), hb 2 (by omega)]
/-- what a survey holds -/
def LK (g : Sg) (F : Fam) (e : Nat) : Prop := g.1 29 1 = nI e ∧ g.1 29 2 = eO (zw F e) ∧ g.1 29 3 = nI (zt F e) ∧ (∀ p, p < zn F → g.1 30 p = bI (zl F e p)) ∧ (∀ p, p < zn F → g.1 31 p = nI (zB F e p)) ∧ (∀ h, h ≤ 3 → ∀ p, p < zn F → g.1 32 (h * 20 + p) = bI (zY F e h p))
theorem LK.congr {g g' : Sg} {F : Fam} {e : Nat} (h : LK g F e) (hq : ∀ q, 29 ≤ q → q ≤ 32 → g'.1 q = g.1 q) : LK g' F e := by
  obtain ⟨h1, h2, h3, h4, h5, h6⟩ := h
  rw [← hq 29 (by omega) (by omega)] at h1 h2 h3
  exact ⟨h1, h2, h3, fun p hp => by rw [hq 30 (by omega) (by omega)]; exact h4 p hp, fun p hp => by rw [hq 31 (by omega) (by omega)]; exact h5 p hp, fun h hh p hp => by rw [hq 32 (by omega) (by omega)]; exact h6 h hh p hp⟩
theorem zt_le (F : Fam) (e : Nat) : zt F e ≤ 5 := by
  unfold zt
  split
  · omega
  · split
    · omega
    · split
      · omega
      · split
        · split <;> omega
        · omega
theorem zw_isNone {F : Fam} (hW : zW F) {e : Nat} (he : e < zn F) : ∀ k, zw F e = some k → k < 2 ^ 31 := fun k h => Nat.lt_trans (zw_lt hW he h).1 (Nat.lt_of_le_of_lt hW.1 (by decide))
set_option maxRecDepth 100000 in
set_option maxHeartbeats 4000000 in
theorem ct_V_findLines (l : Launch) (b : Nat) (id : Nat → ClassId) (D : va_G) {g : Sg} {F : Fam} (hW : zW F) (hc : Hc g F) {e : Nat} (h0 : ∀ p, p < zn F → g.1 32 p = bI (zX F e p)) : qCT l b id D m_V_findLines false [.ref (b + 29)] 85 kT g 85 kT (fun v g' => v = none ∧ g'.2 = g.2 ∧ (∀ q, q ≠ 32 → g'.1 q = g.1 q) ∧ (∀ h, h ≤ 3 → ∀ p, p < zn F → g'.1 32 (h * 20 + p) = bI (zY F e h p))) (fun _ _ => False) := by
  have hn := hW.1
  refine qCT_of rfl (by decide) (Nat.le_of_ble_eq_true rfl) ?_
  show Vq l b id D m_V_findLines false 85 kT _ 85 kT _ 85 kT 0 0 0 [(0, .ref (b + 29))] [] g
  have loop : ∀ (n9 : Nat) (k : Nat) (g1 : Sg), 3 - k = n9 → (k ≤ 3 ∧ g1.2 = g.2 ∧ (∀ q, q ≠ 32 → g1.1 q = g.1 q) ∧ (∀ h, h ≤ k → ∀ p, p < zn F → g1.1 32 (h * 20 + p) = bI (zY F e h p))) → Vq l b id D m_V_findLines false 85 kT (fun v g' => v = none ∧ g'.2 = g.2 ∧ (∀ q, q ≠ 32 → g'.1 q = g.1 q) ∧ (∀ h, h ≤ 3 → ∀ p, p < zn F → g'.1 32 (h * 20 + p) = bI (zY F e h p))) 85 kT (fun _ _ => False) 85 kT 0 0 2 [(1, .int (nI (k + 1))), (0, .ref (b + 29))] [] g1 := by
    intro n9
    induction n9 using Nat.strongRecOn with
    | ind n9 ih =>
    intro k g1 hm hI
    have hk9 := hI.1
    refine vq_iload_n d_V_findLines_2 rfl ?_
    refine vq_iconst (v := 3) d_V_findLines_3 (by decide) ?_
    refine vq_icmp_gt (tgt := 86) d_V_findLines_4 (by decide) (fun h4 => ?_) (fun h4 => ?_)
    · have hk3 : k = 3 := by
        have h4b := h4
        rw [show (3 : Int32) = nI 3 from rfl, nI_ltI (by decide) (by omega)] at h4b
        omega
      subst hk3
      refine vq_vret d_V_findLines_86 rfl (by decide) (by decide) rfl rfl ?_
      exact ⟨rfl, hI.2.1, hI.2.2.1, hI.2.2.2⟩
    · have hk3 : k < 3 := by
        have h4b := h4
        rw [show (3 : Int32) = nI 3 from rfl, nI_ltI (by decide) (by omega)] at h4b
        omega
      have inner : ∀ (n8 : Nat) (w : Nat) (g1 : Sg), zn F - w = n8 → ILn g F e k w g1 → Vq l b id D m_V_findLines false 85 kT (fun v g' => v = none ∧ g'.2 = g.2 ∧ (∀ q, q ≠ 32 → g'.1 q = g.1 q) ∧ (∀ h, h ≤ 3 → ∀ p, p < zn F → g'.1 32 (h * 20 + p) = bI (zY F e h p))) 85 kT (fun _ _ => False) 85 kT 0 0 9 [(2, .int (nI w)), (1, .int (nI (k + 1))), (0, .ref (b + 29))] [] g1 := by
        intro n8
        induction n8 using Nat.strongRecOn with
        | ind n8 ih8 =>
        intro w g1 hm8 hI8
        have hI0 := hI8
        obtain ⟨hle, hg2, hfr, hprev, hcur⟩ := hI0
        have hc1 : Hc g1 F := hc.congr (fun q a c => hfr q (by omega))
        refine vq_iload_n d_V_findLines_9 rfl ?_
        refine vq_aload_n d_V_findLines_10 rfl ?_
        refine vq_getR (k := 0) (C := R_V) (T := T_V) d_V_findLines_11 rfl in_V w_82 (by decide) rfl (by decide) rfl rfl ?_
        refine vq_getI (k := 0) (C := R_F) (T := T_F) d_V_findLines_14 rfl in_F w_36 (by decide) rfl (by decide) rfl ?_
        refine vq_int (y := nI (zn F)) hc1.1 ?_
        refine vq_icmp_ge (tgt := 80) d_V_findLines_17 (by decide) (fun h17 => ?_) (fun h17 => ?_)
        · have hw : w = zn F := by
            rw [nI_leI (by omega) (by omega)] at h17
            omega
          subst hw
          refine vq_iinc (k := 1) (lv' := [(1, _), (2, _), (0, _)]) d_V_findLines_80 rfl (ip1 (k + 1)) (by decide) rfl ?_
          refine vq_goto (tgt := 2) d_V_findLines_83 (by decide) ?_
          refine vq_pk [0, 2] (lv' := [(1, _), (0, _)]) rfl ?_
          exact ih (3 - (k + 1)) (by omega) (k + 1) _ rfl ⟨by omega, hg2, hfr, fun h hh p hp => by
            by_cases e1 : h = k + 1
            · subst e1; exact hcur p hp
            · exact hprev h (by omega) p hp⟩
        · have hw : w < zn F := by
            rw [nI_leI (by omega) (by omega)] at h17
            omega
          have hza := hc1.2.1 w hw
          have hzb := hc1.2.2.1 w hw
          have s74 : ∀ (g2 : Sg), ILn g F e k (w + 1) g2 → Vq l b id D m_V_findLines false 85 kT (fun v g' => v = none ∧ g'.2 = g.2 ∧ (∀ q, q ≠ 32 → g'.1 q = g.1 q) ∧ (∀ h, h ≤ 3 → ∀ p, p < zn F → g'.1 32 (h * 20 + p) = bI (zY F e h p))) 85 kT (fun _ _ => False) 85 kT 0 0 74 [(2, .int (nI w)), (1, .int (nI (k + 1))), (0, .ref (b + 29))] [] g2 := by
            intro g2 hI2
            refine vq_iinc (k := 0) (lv' := [(2, _), (1, _), (0, _)]) d_V_findLines_74 rfl (ip1 w) (by decide) rfl ?_
            refine vq_goto (tgt := 9) d_V_findLines_77 (by decide) ?_
            exact ih8 (zn F - (w + 1)) (by omega) (w + 1) _ rfl hI2
          refine vq_aload_n d_V_findLines_20 rfl ?_
          refine vq_getR (k := 6) (C := R_V) (T := T_V) d_V_findLines_21 rfl in_V w_96 (by decide) rfl (by decide) rfl rfl ?_
          refine vq_iload_n d_V_findLines_24 rfl ?_
          refine vq_bipush (v := 20) d_V_findLines_25 (by decide) ?_
          refine vq_imul d_V_findLines_27 ?_
          refine vq_iload_n d_V_findLines_28 rfl ?_
          refine vq_iadd d_V_findLines_29 ?_
          refine vq_aload_n d_V_findLines_30 rfl ?_
          refine vq_aload_n d_V_findLines_31 rfl ?_
          refine vq_getR (k := 0) (C := R_V) (T := T_V) d_V_findLines_32 rfl in_V w_82 (by decide) rfl (by decide) rfl rfl ?_
          refine vq_getR (k := 1) (C := R_F) (T := T_F) d_V_findLines_35 rfl in_F w_39 (by decide) rfl (by decide) rfl rfl ?_
          refine vq_iload_n d_V_findLines_38 rfl ?_
          refine vq_iald d_V_findLines_39 (by decide) rfl rfl (show _ < 20 by omega) ?_
          refine vq_int (y := eO (za F w)) hza ?_
          refine vq_iload_n d_V_findLines_40 rfl ?_
          refine vq_iconst (v := 1) d_V_findLines_41 (by decide) ?_
          refine vq_isub d_V_findLines_42 ?_
          rw [nI_pred]
          refine vq_callV (n := 2) (C := R_V) (T := T_V) _ _ d_V_findLines_43 (ct_V_hasHeirs l b id D (o := za F w) (h := k) (Y := zY F e k) (by omega) (fun j hj => ⟨by have := hW.2.1 w j hw hj; omega, hprev k (Nat.le_refl k) j (by have := hW.2.1 w j hw hj; omega)⟩)) w_278 w_279 w_280 w_281 w_3 rfl ⟨by decide, by decide, by decide +kernel⟩ ⟨by decide, by decide⟩ (by decide) rfl rfl rfl rfl (Nat.le_of_ble_eq_true rfl) rfl rfl rfl ⟨by decide, by decide⟩ (fun _ _ h => h.elim) (fun v43 g43 h43 => ?_)
          rw [h43.1, h43.2]
          refine vq_if_ne (tgt := 68) d_V_findLines_46 (by decide) (fun h46 => ?_) (fun h46 => ?_)
          · have hy : zY F e (k + 1) w = true := by show (zoB (za F w) (zY F e k) || zoB (zb F w) (zY F e k)) = true; rw [bI_n0.mp h46]; rfl
            refine vq_iconst (v := 1) d_V_findLines_68 (by decide) ?_
            refine vq_goto (tgt := 73) d_V_findLines_69 (by decide) ?_
            refine vq_zast d_V_findLines_73 rfl (by decide) rfl (ix20 (k + 1) w) (show _ < 80 by omega) (by first | exact Or.inl rfl | exact Or.inr rfl) ?_
            exact s74 _ (lines_step hn hI8 hw (by rw [hy]; rfl))
          · have hy0 := bI_0.mp h46
            refine vq_aload_n d_V_findLines_49 rfl ?_
            refine vq_aload_n d_V_findLines_50 rfl ?_
            refine vq_getR (k := 0) (C := R_V) (T := T_V) d_V_findLines_51 rfl in_V w_82 (by decide) rfl (by decide) rfl rfl ?_
            refine vq_getR (k := 2) (C := R_F) (T := T_F) d_V_findLines_54 rfl in_F w_43 (by decide) rfl (by decide) rfl rfl ?_
            refine vq_iload_n d_V_findLines_57 rfl ?_
            refine vq_iald d_V_findLines_58 (by decide) rfl rfl (show _ < 20 by omega) ?_
            refine vq_int (y := eO (zb F w)) hzb ?_
            refine vq_iload_n d_V_findLines_59 rfl ?_
            refine vq_iconst (v := 1) d_V_findLines_60 (by decide) ?_
            refine vq_isub d_V_findLines_61 ?_
            rw [nI_pred]
            refine vq_callV (n := 2) (C := R_V) (T := T_V) _ _ d_V_findLines_62 (ct_V_hasHeirs l b id D (o := zb F w) (h := k) (Y := zY F e k) (by omega) (fun j hj => ⟨by have := hW.2.2.1 w j hw hj; omega, hprev k (Nat.le_refl k) j (by have := hW.2.2.1 w j hw hj; omega)⟩)) w_278 w_279 w_280 w_281 w_3 rfl ⟨by decide, by decide, by decide +kernel⟩ ⟨by decide, by decide⟩ (by decide) rfl rfl rfl rfl (Nat.le_of_ble_eq_true rfl) rfl rfl rfl ⟨by decide, by decide⟩ (fun _ _ h => h.elim) (fun v62 g62 h62 => ?_)
            rw [h62.1, h62.2]
            refine vq_if_eq (tgt := 72) d_V_findLines_65 (by decide) (fun h65 => ?_) (fun h65 => ?_)
            · have hy : zY F e (k + 1) w = false := by show (zoB (za F w) (zY F e k) || zoB (zb F w) (zY F e k)) = false; rw [hy0, bI_0.mp h65]; rfl
              refine vq_iconst (v := 0) d_V_findLines_72 (by decide) ?_
              refine vq_zast d_V_findLines_73 rfl (by decide) rfl (ix20 (k + 1) w) (show _ < 80 by omega) (by first | exact Or.inl rfl | exact Or.inr rfl) ?_
              exact s74 _ (lines_step hn hI8 hw (by rw [hy]; rfl))
            · have hy : zY F e (k + 1) w = true := by show (zoB (za F w) (zY F e k) || zoB (zb F w) (zY F e k)) = true; rw [hy0, bI_n0.mp h65]; rfl
              refine vq_iconst (v := 1) d_V_findLines_68 (by decide) ?_
              refine vq_goto (tgt := 73) d_V_findLines_69 (by decide) ?_
              refine vq_zast d_V_findLines_73 rfl (by decide) rfl (ix20 (k + 1) w) (show _ < 80 by omega) (by first | exact Or.inl rfl | exact Or.inr rfl) ?_
              exact s74 _ (lines_step hn hI8 hw (by rw [hy]; rfl))
      refine vq_iconst (v := 0) d_V_findLines_7 (by decide) ?_
      refine vq_istore_n (lv' := [(2, _), (1, _), (0, _)]) d_V_findLines_8 (by decide) rfl ?_
      exact inner (zn F) 0 _ rfl ⟨by omega, hI.2.1, hI.2.2.1, hI.2.2.2, fun p hp => absurd hp (Nat.not_lt_zero p)⟩
  refine vq_iconst (v := 1) d_V_findLines_0 (by decide) ?_
  refine vq_istore_n (lv' := [(1, _), (0, _)]) d_V_findLines_1 (by decide) rfl ?_
  exact loop 3 0 _ rfl ⟨by omega, rfl, fun q hq => rfl, fun h hh p hp => by rw [show h = 0 by omega]; rw [Nat.zero_mul, Nat.zero_add]; exact h0 p hp⟩
set_option maxRecDepth 100000 in
set_option maxHeartbeats 4000000 in
theorem ct_V_findTaker (l : Launch) (b : Nat) (id : Nat → ClassId) (D : va_G) {g : Sg} {F : Fam} (hW : zW F) {e : Nat} (he : e < zn F) (hde : g.1 29 1 = nI e) (hwd : g.1 29 2 = eO (zw F e)) (hY : ∀ h, h ≤ 3 → ∀ p, p < zn F → g.1 32 (h * 20 + p) = bI (zY F e h p)) : qCT l b id D m_V_findTaker false [.ref (b + 29)] 85 kT g 85 kT (fun v g' => v = some (.int (nI (zt F e))) ∧ g' = g) (fun _ _ => False) := by
  have hn := hW.1
  refine qCT_of rfl (by decide) (Nat.le_of_ble_eq_true rfl) ?_
  show Vq l b id D m_V_findTaker false 85 kT _ 85 kT _ 85 kT 0 0 0 [(0, .ref (b + 29))] [] g
  have loop : ∀ (n9 : Nat) (h H : Nat), 4 - h = n9 → (H = (if (zw F e).isNone = true then 3 else 2) ∧ h ≤ H + 1 ∧ ∀ j, j < h → zY F e j e = false) → Vq l b id D m_V_findTaker false 85 kT (fun v g' => v = some (.int (nI (zt F e))) ∧ g' = g) 85 kT (fun _ _ => False) 85 kT 0 0 16 [(2, .int (nI h)), (1, .int (nI H)), (0, .ref (b + 29))] [] g := by
    intro n9
    induction n9 using Nat.strongRecOn with
    | ind n9 ih =>
    intro h H hm hI
    have hH3 : H ≤ 3 := by have := hI.1; split at this <;> omega
    have hhH := hI.2.1
    have hHe := hI.1
    refine vq_iload_n d_V_findTaker_16 rfl ?_
    refine vq_iload_n d_V_findTaker_17 rfl ?_
    refine vq_icmp_gt (tgt := 41) d_V_findTaker_18 (by decide) (fun h18 => ?_) (fun h18 => ?_)
    · have hh : h = H + 1 := by
        rw [nI_ltI (by omega) (by omega)] at h18
        omega
      refine vq_aload_n d_V_findTaker_41 rfl ?_
      refine vq_getI (k := 2) (C := R_V) (T := T_V) d_V_findTaker_42 rfl in_V w_86 (by decide) rfl (by decide) rfl ?_
      refine vq_int (y := eO (zw F e)) hwd ?_
      refine vq_iconst (v := -1) d_V_findTaker_45 (by decide) ?_
      refine vq_icmp_ne (tgt := 53) d_V_findTaker_46 (by decide) (fun h46 => ?_) (fun h46 => ?_)
      · rw [eO_m1 (zw_isNone hW he)] at h46
        refine vq_iconst (v := 4) d_V_findTaker_53 (by decide) ?_
        refine vq_iret d_V_findTaker_54 rfl (by decide) (by decide) rfl rfl ?_
        refine ⟨?_, rfl⟩
        rw [zt_none (fun j hj => hI.2.2 j (by omega))]
        cases hz : zw F e with
        | none => first | rfl | exact absurd hz h46
        | some x => first | rfl | (rw [hz] at h46; cases h46)
      · rw [eO_m1 (zw_isNone hW he)] at h46
        refine vq_iconst (v := 5) d_V_findTaker_49 (by decide) ?_
        refine vq_goto (tgt := 54) d_V_findTaker_50 (by decide) ?_
        refine vq_iret d_V_findTaker_54 rfl (by decide) (by decide) rfl rfl ?_
        refine ⟨?_, rfl⟩
        rw [zt_none (fun j hj => hI.2.2 j (by omega))]
        cases hz : zw F e with
        | none => first | rfl | exact absurd hz h46
        | some x => first | rfl | (rw [hz] at h46; cases h46)
    · have hh : h ≤ H := by
        rw [nI_ltI (by omega) (by omega)] at h18
        omega
      refine vq_aload_n d_V_findTaker_21 rfl ?_
      refine vq_aload_n d_V_findTaker_22 rfl ?_
      refine vq_getI (k := 1) (C := R_V) (T := T_V) d_V_findTaker_23 rfl in_V w_83 (by decide) rfl (by decide) rfl ?_
      refine vq_int (y := nI e) hde ?_
      refine vq_iload_n d_V_findTaker_26 rfl ?_
      refine vq_callV (n := 2) (C := R_V) (T := T_V) _ _ d_V_findTaker_27 (ct_V_hasHeirs l b id D (o := some e) (h := h) (Y := zY F e h) (by omega) (fun j hj => by cases hj; exact ⟨by omega, hY h (by omega) e he⟩)) w_278 w_279 w_280 w_281 w_3 rfl ⟨by decide, by decide, by decide +kernel⟩ ⟨by decide, by decide⟩ (by decide) rfl rfl rfl rfl (Nat.le_of_ble_eq_true rfl) rfl rfl rfl ⟨by decide, by decide⟩ (fun _ _ h => h.elim) (fun v27 g27 h27 => ?_)
      rw [h27.1, h27.2]
      refine vq_if_eq (tgt := 35) d_V_findTaker_30 (by decide) (fun h30 => ?_) (fun h30 => ?_)
      · have hy0 := bI_0.mp h30
        refine vq_iinc (k := 0) (lv' := [(2, _), (1, _), (0, _)]) d_V_findTaker_35 rfl (ip1 h) (by decide) rfl ?_
        refine vq_goto (tgt := 16) d_V_findTaker_38 (by decide) ?_
        exact ih (4 - (h + 1)) (by omega) (h + 1) H rfl ⟨hI.1, by omega, fun j hj => by
          by_cases e1 : j = h
          · subst e1; exact hy0
          · exact hI.2.2 j (by omega)⟩
      · have hy := bI_n0.mp h30
        refine vq_iload_n d_V_findTaker_33 rfl ?_
        refine vq_iret d_V_findTaker_34 rfl (by decide) (by decide) rfl rfl ?_
        exact ⟨by rw [zt_found (h := h) (by omega) hI.2.2 hy], rfl⟩
  refine vq_aload_n d_V_findTaker_0 rfl ?_
  refine vq_getI (k := 2) (C := R_V) (T := T_V) d_V_findTaker_1 rfl in_V w_86 (by decide) rfl (by decide) rfl ?_
  refine vq_int (y := eO (zw F e)) hwd ?_
  refine vq_iconst (v := -1) d_V_findTaker_4 (by decide) ?_
  refine vq_icmp_ne (tgt := 12) d_V_findTaker_5 (by decide) (fun h5 => ?_) (fun h5 => ?_)
  · rw [eO_m1 (zw_isNone hW he)] at h5
    have hH : (if (zw F e).isNone = true then 3 else 2) = 2 := if_neg (fun hz => h5 (Option.isNone_iff_eq_none.mp hz))
    refine vq_iconst (v := 2) d_V_findTaker_12 (by decide) ?_
    refine vq_istore_n (lv' := [(1, _), (0, _)]) d_V_findTaker_13 (by decide) rfl ?_
    refine vq_iconst (v := 0) d_V_findTaker_14 (by decide) ?_
    refine vq_istore_n (lv' := [(2, _), (1, _), (0, _)]) d_V_findTaker_15 (by decide) rfl ?_
    exact loop 4 0 _ rfl ⟨hH.symm, by omega, fun j hj => absurd hj (Nat.not_lt_zero j)⟩
  · have h5b : zw F e = none := by rw [eO_m1 (zw_isNone hW he)] at h5; exact h5
    have hH : (if (zw F e).isNone = true then 3 else 2) = 3 := by rw [h5b]; rfl
    refine vq_iconst (v := 3) d_V_findTaker_8 (by decide) ?_
    refine vq_goto (tgt := 13) d_V_findTaker_9 (by decide) ?_
    refine vq_istore_n (lv' := [(1, _), (0, _)]) d_V_findTaker_13 (by decide) rfl ?_
    refine vq_iconst (v := 0) d_V_findTaker_14 (by decide) ?_
    refine vq_istore_n (lv' := [(2, _), (1, _), (0, _)]) d_V_findTaker_15 (by decide) rfl ?_
    exact loop 4 0 _ rfl ⟨hH.symm, by omega, fun j hj => absurd hj (Nat.not_lt_zero j)⟩
set_option maxRecDepth 100000 in
set_option maxHeartbeats 4000000 in
theorem ct_V_spouseQuarters (l : Launch) (b : Nat) (id : Nat → ClassId) (D : va_G) {g : Sg} {F : Fam} (hW : zW F) {e : Nat} (he : e < zn F) (hk : LK g F e) : qCT l b id D m_V_spouseQuarters false [.ref (b + 29)] 85 kT g 85 kT (fun v g' => v = some (.int (nI (zq F e))) ∧ g' = g) (fun _ _ => False) := by
  have ht5 := zt_le F e
  refine qCT_of rfl (by decide) (Nat.le_of_ble_eq_true rfl) ?_
  show Vq l b id D m_V_spouseQuarters false 85 kT _ 85 kT _ 85 kT 0 0 0 [(0, .ref (b + 29))] [] g
  refine vq_aload_n d_V_spouseQuarters_0 rfl ?_
  refine vq_getI (k := 2) (C := R_V) (T := T_V) d_V_spouseQuarters_1 rfl in_V w_86 (by decide) rfl (by decide) rfl ?_
  refine vq_int (y := eO (zw F e)) hk.2.1 ?_
  refine vq_iconst (v := -1) d_V_spouseQuarters_4 (by decide) ?_
  refine vq_icmp_ne (tgt := 10) d_V_spouseQuarters_5 (by decide) (fun h5 => ?_) (fun h5 => ?_)
  · rw [eO_m1 (zw_isNone hW he)] at h5
    refine vq_aload_n d_V_spouseQuarters_10 rfl ?_
    refine vq_getI (k := 3) (C := R_V) (T := T_V) d_V_spouseQuarters_11 rfl in_V w_89 (by decide) rfl (by decide) rfl ?_
    refine vq_int (y := nI (zt F e)) hk.2.2.1 ?_
    refine vq_if_ne (tgt := 19) d_V_spouseQuarters_14 (by decide) (fun h14 => ?_) (fun h14 => ?_)
    · rw [show (0 : Int32) = nI 0 from rfl, nI_eq (by omega) (by decide)] at h14
      refine vq_aload_n d_V_spouseQuarters_19 rfl ?_
      refine vq_getI (k := 3) (C := R_V) (T := T_V) d_V_spouseQuarters_20 rfl in_V w_89 (by decide) rfl (by decide) rfl ?_
      refine vq_int (y := nI (zt F e)) hk.2.2.1 ?_
      refine vq_iconst (v := 3) d_V_spouseQuarters_23 (by decide) ?_
      refine vq_icmp_gt (tgt := 31) d_V_spouseQuarters_24 (by decide) (fun h24 => ?_) (fun h24 => ?_)
      · rw [show (3 : Int32) = nI 3 from rfl, nI_ltI (by decide) (by omega)] at h24
        refine vq_iconst (v := 4) d_V_spouseQuarters_31 (by decide) ?_
        refine vq_iret d_V_spouseQuarters_32 rfl (by decide) (by decide) rfl rfl ?_
        refine ⟨?_, rfl⟩
        unfold zq
        cases hz : zw F e with
        | none => first | rfl | exact absurd hz h5
        | some x => first | (rw [hz] at h5; cases h5; done) | (rw [show (some x).isNone = false from rfl]; simp only [h14]; rfl) | (rw [show (some x).isNone = false from rfl, if_neg (by decide), if_neg h14, if_pos (by omega)]; rfl) | (rw [show (some x).isNone = false from rfl, if_neg (by decide), if_neg h14, if_neg (by omega)]; rfl)
      · rw [show (3 : Int32) = nI 3 from rfl, nI_ltI (by decide) (by omega)] at h24
        refine vq_iconst (v := 2) d_V_spouseQuarters_27 (by decide) ?_
        refine vq_goto (tgt := 32) d_V_spouseQuarters_28 (by decide) ?_
        refine vq_iret d_V_spouseQuarters_32 rfl (by decide) (by decide) rfl rfl ?_
        refine ⟨?_, rfl⟩
        unfold zq
        cases hz : zw F e with
        | none => first | rfl | exact absurd hz h5
        | some x => first | (rw [hz] at h5; cases h5; done) | (rw [show (some x).isNone = false from rfl]; simp only [h14]; rfl) | (rw [show (some x).isNone = false from rfl, if_neg (by decide), if_neg h14, if_pos (by omega)]; rfl) | (rw [show (some x).isNone = false from rfl, if_neg (by decide), if_neg h14, if_neg (by omega)]; rfl)
    · rw [show (0 : Int32) = nI 0 from rfl, nI_eq (by omega) (by decide)] at h14
      refine vq_iconst (v := 1) d_V_spouseQuarters_17 (by decide) ?_
      refine vq_iret d_V_spouseQuarters_18 rfl (by decide) (by decide) rfl rfl ?_
      refine ⟨?_, rfl⟩
      unfold zq
      cases hz : zw F e with
      | none => first | rfl | exact absurd hz h5
      | some x => first | (rw [hz] at h5; cases h5; done) | (rw [show (some x).isNone = false from rfl]; simp only [h14]; rfl) | (rw [show (some x).isNone = false from rfl, if_neg (by decide), if_neg h14, if_pos (by omega)]; rfl) | (rw [show (some x).isNone = false from rfl, if_neg (by decide), if_neg h14, if_neg (by omega)]; rfl)
  · rw [eO_m1 (zw_isNone hW he)] at h5
    refine vq_iconst (v := 0) d_V_spouseQuarters_8 (by decide) ?_
    refine vq_iret d_V_spouseQuarters_9 rfl (by decide) (by decide) rfl rfl ?_
    refine ⟨?_, rfl⟩
    unfold zq
    cases hz : zw F e with
    | none => first | rfl | exact absurd hz h5
    | some x => first | (rw [hz] at h5; cases h5; done) | (rw [show (some x).isNone = false from rfl]; simp only [h14]; rfl) | (rw [show (some x).isNone = false from rfl, if_neg (by decide), if_neg h14, if_pos (by omega)]; rfl) | (rw [show (some x).isNone = false from rfl, if_neg (by decide), if_neg h14, if_neg (by omega)]; rfl)
set_option maxRecDepth 100000 in
set_option maxHeartbeats 4000000 in
theorem ct_V_look (l : Launch) (b : Nat) (id : Nat → ClassId) (D : va_G) {g : Sg} {F : Fam} (hW : zW F) (hc : Hc g F) {e u : Nat} (he : e < zn F) (hu : zd F e = some u) : qCT l b id D m_V_look false [.ref (b + 29), .int (nI e)] 85 kT g 85 kT (fun v g' => v = none ∧ g'.2 = g.2 ∧ (∀ q, q < 29 ∨ 32 < q → g'.1 q = g.1 q) ∧ (∀ k, k < 1 ∨ 3 < k → g'.1 29 k = g.1 29 k) ∧ LK g' F e) (fun _ _ => False) := by
  have hn := hW.1
  have hc1 : Hc (sI g 29 (upd (g.1 29) 1 (nI e))) F := hc.congr (fun q a c => sI_n (by omega))
  refine qCT_of rfl (by decide) (Nat.le_of_ble_eq_true rfl) ?_
  show Vq l b id D m_V_look false 85 kT _ 85 kT _ 85 kT 0 0 0 [(0, .ref (b + 29)), (1, .int (nI e))] [] g
  refine vq_aload_n d_V_look_0 rfl ?_
  refine vq_iload_n d_V_look_1 rfl ?_
  refine vq_putI (k := 1) (C := R_V) (T := T_V) (ty := .int) t_V d_V_look_2 rfl in_V w_83 ty_V nm_V (by decide) rfl (by decide) rfl (by decide +kernel) rfl rfl rfl ?_
  refine vq_aload_n d_V_look_5 rfl ?_
  refine vq_callV (n := 0) (C := R_V) (T := T_V) _ _ d_V_look_6 (ct_V_findStems l b id D hW hc1 he hu (show _ = nI e by simp [sI, upd])) w_254 w_256 sel_V_findStems w_257 w_3 rfl ⟨by decide, by decide, by decide +kernel⟩ ⟨by decide, by decide⟩ (by decide) rfl rfl rfl rfl (Nat.le_of_ble_eq_true rfl) rfl rfl rfl ⟨by decide, by decide⟩ (fun _ _ h => h.elim) (fun v6 g6 h6 => ?_)
  obtain ⟨rfl, s2, s3, s4, s5, s6⟩ := h6
  have hc2 : Hc g6 F := hc1.congr (fun q a c => s3 q (by omega) (by omega) (by omega))
  refine vq_aload_n d_V_look_9 rfl ?_
  refine vq_callV (n := 0) (C := R_V) (T := T_V) _ _ d_V_look_10 (ct_V_findLines l b id D hW hc2 s6) w_274 w_276 sel_V_findLines w_277 w_3 rfl ⟨by decide, by decide, by decide +kernel⟩ ⟨by decide, by decide⟩ (by decide) rfl rfl rfl rfl (Nat.le_of_ble_eq_true rfl) rfl rfl rfl ⟨by decide, by decide⟩ (fun _ _ h => h.elim) (fun v10 g10 h10 => ?_)
  obtain ⟨rfl, t2, t3, t4⟩ := h10
  have hc3 : Hc g10 F := hc2.congr (fun q a c => t3 q (by omega))
  have hL30 : ∀ p, p < zn F → g10.1 30 p = bI (zl F e p) := fun p hp => by rw [t3 30 (by decide)]; exact s4 p hp
  refine vq_aload_n d_V_look_13 rfl ?_
  refine vq_getR (k := 0) (C := R_V) (T := T_V) d_V_look_14 rfl in_V w_82 (by decide) rfl (by decide) rfl rfl ?_
  refine vq_getR (k := 3) (C := R_F) (T := T_F) d_V_look_17 rfl in_F w_46 (by decide) rfl (by decide) rfl rfl ?_
  refine vq_iload_n d_V_look_20 rfl ?_
  refine vq_iald d_V_look_21 (by decide) rfl rfl (show _ < 20 by omega) ?_
  have s43 : ∀ (x : Value), Vq l b id D m_V_look false 85 kT (fun v g' => v = none ∧ g'.2 = g.2 ∧ (∀ q, q < 29 ∨ 32 < q → g'.1 q = g.1 q) ∧ (∀ k, k < 1 ∨ 3 < k → g'.1 29 k = g.1 29 k) ∧ LK g' F e) 85 kT (fun _ _ => False) 85 kT 0 0 43 [(2, x), (0, .ref (b + 29)), (1, .int (nI e))] [.int (eO (zw F e)), .ref (b + 29)] g10 := by
    intro x
    refine vq_putI (k := 2) (C := R_V) (T := T_V) (ty := .int) t_V d_V_look_43 rfl in_V w_86 ty_V nm_V (by decide) rfl (by decide) rfl (by decide +kernel) rfl rfl rfl ?_
    refine vq_aload_n d_V_look_46 rfl ?_
    refine vq_aload_n d_V_look_47 rfl ?_
    refine vq_callV (n := 0) (C := R_V) (T := T_V) _ _ d_V_look_48 (ct_V_findTaker l b id D hW he (show _ = nI e by simp [sI, upd]; rw [t3 29 (by decide), s3 29 (by decide) (by decide) (by decide)]; simp [sI, upd]) (show _ = eO (zw F e) by simp [sI, upd]) (fun h hh p hp => by rw [sI_n (by decide)]; exact t4 h hh p hp)) w_282 w_284 sel_V_findTaker w_285 w_3 rfl ⟨by decide, by decide, by decide +kernel⟩ ⟨by decide, by decide⟩ (by decide) rfl rfl rfl rfl (Nat.le_of_ble_eq_true rfl) rfl rfl rfl ⟨by decide, by decide⟩ (fun _ _ h => h.elim) (fun v48 g48 h48 => ?_)
    rw [h48.1, h48.2]
    refine vq_putI (k := 3) (C := R_V) (T := T_V) (ty := .int) t_V d_V_look_51 rfl in_V w_89 ty_V nm_V (by decide) rfl (by decide) rfl (by decide +kernel) rfl rfl rfl ?_
    refine vq_vret d_V_look_54 rfl (by decide) (by decide) rfl rfl ?_
    refine ⟨rfl, ?_, fun q hq => ?_, fun k hk => ?_, ?_, ?_, ?_, fun p hp => ?_, fun p hp => ?_, fun h hh p hp => ?_⟩
    · exact t2.trans s2
    · rw [sI_n (by omega), sI_n (by omega), t3 q (by omega), s3 q (by omega) (by omega) (by omega), sI_n (by omega)]
    · simp only [sI, upd, if_true]
      rw [if_neg (by omega), if_neg (by omega), t3 29 (by decide), s3 29 (by decide) (by decide) (by decide)]
      simp only [sI, upd, if_true]
      rw [if_neg (by omega)]
    · simp [sI, upd]; rw [t3 29 (by decide), s3 29 (by decide) (by decide) (by decide)]; simp [sI, upd]
    · simp [sI, upd]
    · simp [sI, upd]
    · rw [sI_n (by decide), sI_n (by decide)]; exact hL30 p hp
    · rw [sI_n (by decide), sI_n (by decide), t3 31 (by decide)]; exact s5 p hp
    · rw [sI_n (by decide), sI_n (by decide)]; exact t4 h hh p hp
  refine vq_int (y := eO (zs F e)) (hc3.2.2.2.1 e he) ?_
  refine vq_istore_n (lv' := [(2, _), (0, _), (1, _)]) d_V_look_22 (by decide) rfl ?_
  refine vq_aload_n d_V_look_23 rfl ?_
  refine vq_iload_n d_V_look_24 rfl ?_
  refine vq_iconst (v := -1) d_V_look_25 (by decide) ?_
  refine vq_icmp_eq (tgt := 42) d_V_look_26 (by decide) (fun h26 => ?_) (fun h26 => ?_)
  · rw [eO_m1 (zs_lt hW he)] at h26
    have hw : zw F e = none := by unfold zw; rw [h26]
    refine vq_iconst (v := -1) d_V_look_42 (by decide) ?_
    refine vq_int (show _ = eO (zw F e) by first | (rw [hw]; done) | (rw [hw]; rfl) | (rw [hw, hj]; done) | (rw [hw, hj]; rfl)) ?_
    exact s43 _
  · rw [eO_m1 (zs_lt hW he)] at h26
    obtain ⟨j, hj⟩ := Option.ne_none_iff_exists'.mp h26
    have hjn := hW.2.2.2.2.1 e j he hj
    refine vq_aload_n d_V_look_29 rfl ?_
    refine vq_getR (k := 4) (C := R_V) (T := T_V) d_V_look_30 rfl in_V w_92 (by decide) rfl (by decide) rfl rfl ?_
    refine vq_iload_n d_V_look_33 rfl ?_
    refine vq_zald d_V_look_34 (by decide) rfl (show _ = nI j by rw [hj]; rfl) (show _ < 20 by omega) ?_
    refine vq_if_eq (tgt := 42) d_V_look_35 (by decide) (fun h35 => ?_) (fun h35 => ?_)
    · rw [hL30 j hjn] at h35
      have hw : zw F e = none := by unfold zw; rw [hj]; simp [bI_0.mp h35]
      refine vq_iconst (v := -1) d_V_look_42 (by decide) ?_
      refine vq_int (show _ = eO (zw F e) by first | (rw [hw]; done) | (rw [hw]; rfl) | (rw [hw, hj]; done) | (rw [hw, hj]; rfl)) ?_
      exact s43 _
    · rw [hL30 j hjn] at h35
      have hw : zw F e = some j := by unfold zw; rw [hj]; simp [bI_n0.mp h35]
      refine vq_iload_n d_V_look_38 rfl ?_
      refine vq_goto (tgt := 43) d_V_look_39 (by decide) ?_
      refine vq_int (show _ = eO (zw F e) by first | (rw [hw]; done) | (rw [hw]; rfl) | (rw [hw, hj]; done) | (rw [hw, hj]; rfl)) ?_
      exact s43 _
