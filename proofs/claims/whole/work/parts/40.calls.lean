/-! the calls that answer. Laid by wip/whole/specs/p40.py -/
theorem zsh_lt {F : Fam} (hW : zW F) {e p : Nat} (he : e < zn F) (hp : p < zn F) : zsh F e 1 p ≤ 32 * zpr F e := by
  by_cases h : zt F e ≤ 4
  · rw [← zsh_sum hW he h]
    exact zsum_one hp
  · have h1 : zT0 F e 1 p = 0 := by
      unfold zT0
      by_cases hw : zw F e = some p
      · have h5 : zt F e = 5 := by have := zt_le F e; omega
        unfold zt at h5
        rw [hw] at h5
        simp at h5
        repeat' split at h5
        all_goals omega
      · rw [if_neg hw]
    have h2 : ∀ c, zP0 F e 1 c = 0 := fun c => by unfold zP0; rw [if_neg (by omega)]
    have h3 : ∀ k c, ztb F e (zP0 F e 1) k c = 0 := by
      intro k
      induction k with
      | zero => exact h2
      | succ k ih =>
        intro c
        show ztb F e (zP0 F e 1) k c + (if _ then ztb F e (zP0 F e 1) k k / zB F e k else 0) = 0
        rw [ih c, ih k]
        split <;> simp
    unfold zsh zta
    rw [h1, h3]
    simp
set_option maxRecDepth 100000 in
set_option maxHeartbeats 4000000 in
theorem ct_S_heirs (l : Launch) (b : Nat) (id : Nat → ClassId) (D : va_G) (htr : l.stackTraces = false) {g : Sg} {F : Fam} (hV : zV F) (hc : Hc g F) {k : Lg} (hl : Hl g k) (x : Int32) : qCT l b id D m_S_heirs false [.ref (b + 0), .int x] 85 kT g 85 kT (cP (k_dead F x) (some (.int (nI (zcn (zsh F (zi x) 1) (zn F))))) g F k) (cX (k_dead F x) g) := by
  have hW := hV.1
  have hn := hW.1
  refine qCT_of rfl (by decide) (Nat.le_of_ble_eq_true rfl) ?_
  show Vq l b id D m_S_heirs false 85 kT _ 85 kT _ 85 kT 0 0 0 [(0, .ref (b + 0)), (1, .int x)] [] g
  refine vq_aload_n d_S_heirs_0 rfl ?_
  refine vq_iload_n d_S_heirs_1 rfl ?_
  refine vq_callV (n := 1) (C := R_S) (T := T_S) _ _ d_S_heirs_2 (ct_S_requirePerson l b id D htr hn hc x) w_473 w_475 sel_S_requirePerson w_476 w_1 rfl ⟨by decide, by decide, by decide +kernel⟩ ⟨by decide, by decide⟩ (by decide) rfl rfl rfl rfl (Nat.le_of_ble_eq_true rfl) rfl rfl rfl ⟨by decide, by decide⟩ (fun E g9 h => ⟨Or.inl ⟨by unfold k_dead; rw [if_neg (fun hh => h.2.1 hh)], h.1⟩, h.2.2⟩) (fun v2 g2 h2 => ?_)
  obtain ⟨e12, hx, e22⟩ := h2
  rw [e12, e22]
  obtain ⟨p, hp, rfl⟩ := zok_p hx
  have hz : zi (nI p) = p := zi_nI (by omega)
  refine vq_aload_n d_S_heirs_5 rfl ?_
  refine vq_iload_n d_S_heirs_6 rfl ?_
  refine vq_callV (n := 1) (C := R_S) (T := T_S) _ _ d_S_heirs_7 (ct_S_requireDead l b id D htr hW hc hp) w_554 w_556 sel_S_requireDead w_557 w_1 rfl ⟨by decide, by decide, by decide +kernel⟩ ⟨by decide, by decide⟩ (by decide) rfl rfl rfl rfl (Nat.le_of_ble_eq_true rfl) rfl rfl rfl ⟨by decide, by decide⟩ (fun E g9 h => ⟨Or.inr ⟨by unfold k_dead; rw [if_pos hx, hz, if_neg (by rw [h.2.1]; decide)], h.1⟩, h.2.2⟩) (fun v7 g7 h7 => ?_)
  obtain ⟨e17, hd, e27⟩ := h7
  rw [e17, e27]
  obtain ⟨u, hu⟩ := Option.isSome_iff_exists.mp hd
  have hsb : 1 * (8 * zpr F p) * 4 < 2 ^ 63 := by
    have h1 := zpr_lt (F := F) (e := p) hW.1
    omega
  refine vq_aload_n d_S_heirs_10 rfl ?_
  refine vq_getR (k := 1) (C := R_S) (T := T_S) d_S_heirs_11 rfl in_S w_211 (by decide) rfl (by decide) rfl rfl ?_
  refine vq_iload_n d_S_heirs_14 rfl ?_
  refine vq_callV (n := 1) (C := R_V) (T := T_V) _ _ d_S_heirs_15 (ct_V_look l b id D hW hc hp hu) w_559 w_251 w_252 w_253 w_3 rfl ⟨by decide, by decide, by decide +kernel⟩ ⟨by decide, by decide⟩ (by decide) rfl rfl rfl rfl (Nat.le_of_ble_eq_true rfl) rfl rfl rfl ⟨by decide, by decide⟩ (fun _ _ h => h.elim) (fun v15 g15 h15 => ?_)
  obtain ⟨e115, b1, b2, b3, b4⟩ := h15
  rw [e115]
  have hc2 : Hc g15 F := hc.congr (fun q x y => b2 q (by omega))
  refine vq_aload_n d_S_heirs_18 rfl ?_
  refine vq_getR (k := 2) (C := R_S) (T := T_S) d_S_heirs_19 rfl in_S w_212 (by decide) rfl (by decide) rfl rfl ?_
  refine vq_lconst (v := 1) d_S_heirs_22 rfl ?_
  refine vq_callV (n := 1) (C := R_D) (T := T_D) _ _ d_S_heirs_23 (ct_D_divideByShares l b id D hW hc2 hp b4 (a := 1) hsb) w_560 w_342 w_343 w_344 w_4 rfl ⟨by decide, by decide, by decide +kernel⟩ ⟨by decide, by decide⟩ (by decide) rfl rfl rfl rfl (Nat.le_of_ble_eq_true rfl) rfl rfl rfl ⟨by decide, by decide⟩ (fun _ _ h => h.elim) (fun v23 g23 h23 => ?_)
  obtain ⟨e123, d1, d2, d3, d4⟩ := h23
  rw [e123]
  have hc3 : Hc g23 F := hc2.congr (fun q x y => by rw [d1])
  have hS : ∀ i, i < zn F → g23.2 35 i = lN (zsh F p 1 i) ∧ zsh F p 1 i < 2 ^ 63 := fun i hi => ⟨d4 i hi, by have := zsh_lt hW hp hi; omega⟩
  have hl3 : Hl g23 k := hl.congr (fun q x y => by rw [d2 q (by omega), b1])
  have hU : Up g g23 := fun q hq => ⟨by rw [d1, b2 q (by omega)], by rw [d2 q (by omega), b1]⟩
  refine vq_aload_n d_S_heirs_26 rfl ?_
  refine vq_getR (k := 2) (C := R_S) (T := T_S) d_S_heirs_27 rfl in_S w_212 (by decide) rfl (by decide) rfl rfl ?_
  refine vq_callV (n := 0) (C := R_D) (T := T_D) _ _ d_S_heirs_30 (ct_D_countTakers l b id D hW hc3 hS) w_561 w_562 w_563 w_564 w_4 rfl ⟨by decide, by decide, by decide +kernel⟩ ⟨by decide, by decide⟩ (by decide) rfl rfl rfl rfl (Nat.le_of_ble_eq_true rfl) rfl rfl rfl ⟨by decide, by decide⟩ (fun _ _ h => h.elim) (fun v30 g30 h30 => ?_)
  rw [h30.1, h30.2]
  refine vq_iret d_S_heirs_33 rfl (by decide) (by decide) rfl rfl ?_
  exact ⟨by unfold k_dead; rw [if_pos hx, hz, if_pos hd], by rw [hz], hc3, hl3, hU⟩
set_option maxRecDepth 100000 in
set_option maxHeartbeats 4000000 in
theorem ct_S_heir (l : Launch) (b : Nat) (id : Nat → ClassId) (D : va_G) (htr : l.stackTraces = false) {g : Sg} {F : Fam} (hV : zV F) (hc : Hc g F) {k : Lg} (hl : Hl g k) (x y : Int32) : qCT l b id D m_S_heir false [.ref (b + 0), .int x, .int y] 85 kT g 85 kT (cP (k_dead F x) (some (.int (eO (ztk (zsh F (zi x) 1) (zn F) y)))) g F k) (cX (k_dead F x) g) := by
  have hW := hV.1
  have hn := hW.1
  refine qCT_of rfl (by decide) (Nat.le_of_ble_eq_true rfl) ?_
  show Vq l b id D m_S_heir false 85 kT _ 85 kT _ 85 kT 0 0 0 [(0, .ref (b + 0)), (1, .int x), (2, .int y)] [] g
  refine vq_aload_n d_S_heir_0 rfl ?_
  refine vq_iload_n d_S_heir_1 rfl ?_
  refine vq_callV (n := 1) (C := R_S) (T := T_S) _ _ d_S_heir_2 (ct_S_requirePerson l b id D htr hn hc x) w_473 w_475 sel_S_requirePerson w_476 w_1 rfl ⟨by decide, by decide, by decide +kernel⟩ ⟨by decide, by decide⟩ (by decide) rfl rfl rfl rfl (Nat.le_of_ble_eq_true rfl) rfl rfl rfl ⟨by decide, by decide⟩ (fun E g9 h => ⟨Or.inl ⟨by unfold k_dead; rw [if_neg (fun hh => h.2.1 hh)], h.1⟩, h.2.2⟩) (fun v2 g2 h2 => ?_)
  obtain ⟨e12, hx, e22⟩ := h2
  rw [e12, e22]
  obtain ⟨p, hp, rfl⟩ := zok_p hx
  have hz : zi (nI p) = p := zi_nI (by omega)
  refine vq_aload_n d_S_heir_5 rfl ?_
  refine vq_iload_n d_S_heir_6 rfl ?_
  refine vq_callV (n := 1) (C := R_S) (T := T_S) _ _ d_S_heir_7 (ct_S_requireDead l b id D htr hW hc hp) w_554 w_556 sel_S_requireDead w_557 w_1 rfl ⟨by decide, by decide, by decide +kernel⟩ ⟨by decide, by decide⟩ (by decide) rfl rfl rfl rfl (Nat.le_of_ble_eq_true rfl) rfl rfl rfl ⟨by decide, by decide⟩ (fun E g9 h => ⟨Or.inr ⟨by unfold k_dead; rw [if_pos hx, hz, if_neg (by rw [h.2.1]; decide)], h.1⟩, h.2.2⟩) (fun v7 g7 h7 => ?_)
  obtain ⟨e17, hd, e27⟩ := h7
  rw [e17, e27]
  obtain ⟨u, hu⟩ := Option.isSome_iff_exists.mp hd
  have hsb : 1 * (8 * zpr F p) * 4 < 2 ^ 63 := by
    have h1 := zpr_lt (F := F) (e := p) hW.1
    omega
  refine vq_aload_n d_S_heir_10 rfl ?_
  refine vq_getR (k := 1) (C := R_S) (T := T_S) d_S_heir_11 rfl in_S w_211 (by decide) rfl (by decide) rfl rfl ?_
  refine vq_iload_n d_S_heir_14 rfl ?_
  refine vq_callV (n := 1) (C := R_V) (T := T_V) _ _ d_S_heir_15 (ct_V_look l b id D hW hc hp hu) w_559 w_251 w_252 w_253 w_3 rfl ⟨by decide, by decide, by decide +kernel⟩ ⟨by decide, by decide⟩ (by decide) rfl rfl rfl rfl (Nat.le_of_ble_eq_true rfl) rfl rfl rfl ⟨by decide, by decide⟩ (fun _ _ h => h.elim) (fun v15 g15 h15 => ?_)
  obtain ⟨e115, b1, b2, b3, b4⟩ := h15
  rw [e115]
  have hc2 : Hc g15 F := hc.congr (fun q x y => b2 q (by omega))
  refine vq_aload_n d_S_heir_18 rfl ?_
  refine vq_getR (k := 2) (C := R_S) (T := T_S) d_S_heir_19 rfl in_S w_212 (by decide) rfl (by decide) rfl rfl ?_
  refine vq_lconst (v := 1) d_S_heir_22 rfl ?_
  refine vq_callV (n := 1) (C := R_D) (T := T_D) _ _ d_S_heir_23 (ct_D_divideByShares l b id D hW hc2 hp b4 (a := 1) hsb) w_560 w_342 w_343 w_344 w_4 rfl ⟨by decide, by decide, by decide +kernel⟩ ⟨by decide, by decide⟩ (by decide) rfl rfl rfl rfl (Nat.le_of_ble_eq_true rfl) rfl rfl rfl ⟨by decide, by decide⟩ (fun _ _ h => h.elim) (fun v23 g23 h23 => ?_)
  obtain ⟨e123, d1, d2, d3, d4⟩ := h23
  rw [e123]
  have hc3 : Hc g23 F := hc2.congr (fun q x y => by rw [d1])
  have hS : ∀ i, i < zn F → g23.2 35 i = lN (zsh F p 1 i) ∧ zsh F p 1 i < 2 ^ 63 := fun i hi => ⟨d4 i hi, by have := zsh_lt hW hp hi; omega⟩
  have hl3 : Hl g23 k := hl.congr (fun q x y => by rw [d2 q (by omega), b1])
  have hU : Up g g23 := fun q hq => ⟨by rw [d1, b2 q (by omega)], by rw [d2 q (by omega), b1]⟩
  refine vq_aload_n d_S_heir_26 rfl ?_
  refine vq_getR (k := 2) (C := R_S) (T := T_S) d_S_heir_27 rfl in_S w_212 (by decide) rfl (by decide) rfl rfl ?_
  refine vq_iload_n d_S_heir_30 rfl ?_
  refine vq_callV (n := 1) (C := R_D) (T := T_D) _ _ d_S_heir_31 (ct_D_takerAt l b id D hW hc3 hS y) w_572 w_573 w_574 w_575 w_4 rfl ⟨by decide, by decide, by decide +kernel⟩ ⟨by decide, by decide⟩ (by decide) rfl rfl rfl rfl (Nat.le_of_ble_eq_true rfl) rfl rfl rfl ⟨by decide, by decide⟩ (fun _ _ h => h.elim) (fun v31 g31 h31 => ?_)
  rw [h31.1, h31.2]
  refine vq_iret d_S_heir_34 rfl (by decide) (by decide) rfl rfl ?_
  exact ⟨by unfold k_dead; rw [if_pos hx, hz, if_pos hd], by rw [hz], hc3, hl3, hU⟩
set_option maxRecDepth 100000 in
set_option maxHeartbeats 4000000 in
theorem ct_S_share (l : Launch) (b : Nat) (id : Nat → ClassId) (D : va_G) (htr : l.stackTraces = false) {g : Sg} {F : Fam} (hV : zV F) (hc : Hc g F) {k : Lg} (hl : Hl g k) (x y : Int32) : qCT l b id D m_S_share false [.ref (b + 0), .int x, .int y] 85 kT g 85 kT (cP (k_dead2 F x y) (some (.long (zfr (zsh F (zi x) 1 (zi y)) (4 * (8 * zpr F (zi x)))))) g F k) (cX (k_dead2 F x y) g) := by
  have hW := hV.1
  have hn := hW.1
  refine qCT_of rfl (by decide) (Nat.le_of_ble_eq_true rfl) ?_
  show Vq l b id D m_S_share false 85 kT _ 85 kT _ 85 kT 0 0 0 [(0, .ref (b + 0)), (1, .int x), (2, .int y)] [] g
  refine vq_aload_n d_S_share_0 rfl ?_
  refine vq_iload_n d_S_share_1 rfl ?_
  refine vq_callV (n := 1) (C := R_S) (T := T_S) _ _ d_S_share_2 (ct_S_requirePerson l b id D htr hn hc x) w_473 w_475 sel_S_requirePerson w_476 w_1 rfl ⟨by decide, by decide, by decide +kernel⟩ ⟨by decide, by decide⟩ (by decide) rfl rfl rfl rfl (Nat.le_of_ble_eq_true rfl) rfl rfl rfl ⟨by decide, by decide⟩ (fun E g9 h => ⟨Or.inl ⟨by unfold k_dead2; rw [if_neg (fun hh => h.2.1 hh.1)], h.1⟩, h.2.2⟩) (fun v2 g2 h2 => ?_)
  obtain ⟨e12, hx, e22⟩ := h2
  rw [e12, e22]
  obtain ⟨p, hp, rfl⟩ := zok_p hx
  have hz : zi (nI p) = p := zi_nI (by omega)
  refine vq_aload_n d_S_share_5 rfl ?_
  refine vq_iload_n d_S_share_6 rfl ?_
  refine vq_callV (n := 1) (C := R_S) (T := T_S) _ _ d_S_share_7 (ct_S_requirePerson l b id D htr hn hc y) w_473 w_475 sel_S_requirePerson w_476 w_1 rfl ⟨by decide, by decide, by decide +kernel⟩ ⟨by decide, by decide⟩ (by decide) rfl rfl rfl rfl (Nat.le_of_ble_eq_true rfl) rfl rfl rfl ⟨by decide, by decide⟩ (fun E g9 h => ⟨Or.inl ⟨by unfold k_dead2; rw [if_neg (fun hh => h.2.1 hh.2)], h.1⟩, h.2.2⟩) (fun v7 g7 h7 => ?_)
  obtain ⟨e17, hy, e27⟩ := h7
  rw [e17, e27]
  obtain ⟨r, hr, rfl⟩ := zok_p hy
  have hz2 : zi (nI r) = r := zi_nI (by omega)
  refine vq_aload_n d_S_share_10 rfl ?_
  refine vq_iload_n d_S_share_11 rfl ?_
  refine vq_callV (n := 1) (C := R_S) (T := T_S) _ _ d_S_share_12 (ct_S_requireDead l b id D htr hW hc hp) w_554 w_556 sel_S_requireDead w_557 w_1 rfl ⟨by decide, by decide, by decide +kernel⟩ ⟨by decide, by decide⟩ (by decide) rfl rfl rfl rfl (Nat.le_of_ble_eq_true rfl) rfl rfl rfl ⟨by decide, by decide⟩ (fun E g9 h => ⟨Or.inr ⟨by unfold k_dead2; rw [if_pos ⟨hx, hy⟩, hz, if_neg (by rw [h.2.1]; decide)], h.1⟩, h.2.2⟩) (fun v12 g12 h12 => ?_)
  obtain ⟨e112, hd, e212⟩ := h12
  rw [e112, e212]
  obtain ⟨u, hu⟩ := Option.isSome_iff_exists.mp hd
  have hsb : 1 * (8 * zpr F p) * 4 < 2 ^ 63 := by
    have h1 := zpr_lt (F := F) (e := p) hW.1
    omega
  refine vq_aload_n d_S_share_15 rfl ?_
  refine vq_getR (k := 1) (C := R_S) (T := T_S) d_S_share_16 rfl in_S w_211 (by decide) rfl (by decide) rfl rfl ?_
  refine vq_iload_n d_S_share_19 rfl ?_
  refine vq_callV (n := 1) (C := R_V) (T := T_V) _ _ d_S_share_20 (ct_V_look l b id D hW hc hp hu) w_559 w_251 w_252 w_253 w_3 rfl ⟨by decide, by decide, by decide +kernel⟩ ⟨by decide, by decide⟩ (by decide) rfl rfl rfl rfl (Nat.le_of_ble_eq_true rfl) rfl rfl rfl ⟨by decide, by decide⟩ (fun _ _ h => h.elim) (fun v20 g20 h20 => ?_)
  obtain ⟨e120, b1, b2, b3, b4⟩ := h20
  rw [e120]
  have hc2 : Hc g20 F := hc.congr (fun q x y => b2 q (by omega))
  refine vq_aload_n d_S_share_23 rfl ?_
  refine vq_getR (k := 2) (C := R_S) (T := T_S) d_S_share_24 rfl in_S w_212 (by decide) rfl (by decide) rfl rfl ?_
  refine vq_lconst (v := 1) d_S_share_27 rfl ?_
  refine vq_callV (n := 1) (C := R_D) (T := T_D) _ _ d_S_share_28 (ct_D_divideByShares l b id D hW hc2 hp b4 (a := 1) hsb) w_560 w_342 w_343 w_344 w_4 rfl ⟨by decide, by decide, by decide +kernel⟩ ⟨by decide, by decide⟩ (by decide) rfl rfl rfl rfl (Nat.le_of_ble_eq_true rfl) rfl rfl rfl ⟨by decide, by decide⟩ (fun _ _ h => h.elim) (fun v28 g28 h28 => ?_)
  obtain ⟨e128, d1, d2, d3, d4⟩ := h28
  rw [e128]
  have hc3 : Hc g28 F := hc2.congr (fun q x y => by rw [d1])
  have hS : ∀ i, i < zn F → g28.2 35 i = lN (zsh F p 1 i) ∧ zsh F p 1 i < 2 ^ 63 := fun i hi => ⟨d4 i hi, by have := zsh_lt hW hp hi; omega⟩
  have hl3 : Hl g28 k := hl.congr (fun q x y => by rw [d2 q (by omega), b1])
  have hU : Up g g28 := fun q hq => ⟨by rw [d1, b2 q (by omega)], by rw [d2 q (by omega), b1]⟩
  refine vq_aload_n d_S_share_31 rfl ?_
  refine vq_getR (k := 2) (C := R_S) (T := T_S) d_S_share_32 rfl in_S w_212 (by decide) rfl (by decide) rfl rfl ?_
  refine vq_iload_n d_S_share_35 rfl ?_
  refine vq_callV (n := 1) (C := R_D) (T := T_D) _ _ d_S_share_36 (ct_D_inLowestTerms l b id D (w := r) (by omega) (d4 r hr) d3 (by have := zsh_lt hW hp hr; have := zpr_lt (F := F) (e := p) hn; omega) (by have := zpr_lt (F := F) (e := p) hn; omega)) w_583 w_584 w_585 w_586 w_4 rfl ⟨by decide, by decide, by decide +kernel⟩ ⟨by decide, by decide⟩ (by decide) rfl rfl rfl rfl (Nat.le_of_ble_eq_true rfl) rfl rfl rfl ⟨by decide, by decide⟩ (fun _ _ h => h.elim) (fun v36 g36 h36 => ?_)
  rw [h36.1, h36.2]
  refine vq_lret d_S_share_39 rfl (by decide) (by decide) rfl rfl ?_
  exact ⟨by unfold k_dead2; rw [if_pos ⟨hx, hy⟩, hz, if_pos hd], by rw [hz, hz2], hc3, hl3, hU⟩
set_option maxRecDepth 100000 in
set_option maxHeartbeats 4000000 in
theorem ct_S_order (l : Launch) (b : Nat) (id : Nat → ClassId) (D : va_G) (htr : l.stackTraces = false) {g : Sg} {F : Fam} (hV : zV F) (hc : Hc g F) {k : Lg} (hl : Hl g k) (x : Int32) : qCT l b id D m_S_order false [.ref (b + 0), .int x] 85 kT g 85 kT (cP (k_dead F x) (some (.int (nI (zt F (zi x))))) g F k) (cX (k_dead F x) g) := by
  have hW := hV.1
  have hn := hW.1
  refine qCT_of rfl (by decide) (Nat.le_of_ble_eq_true rfl) ?_
  show Vq l b id D m_S_order false 85 kT _ 85 kT _ 85 kT 0 0 0 [(0, .ref (b + 0)), (1, .int x)] [] g
  refine vq_aload_n d_S_order_0 rfl ?_
  refine vq_iload_n d_S_order_1 rfl ?_
  refine vq_callV (n := 1) (C := R_S) (T := T_S) _ _ d_S_order_2 (ct_S_requirePerson l b id D htr hn hc x) w_473 w_475 sel_S_requirePerson w_476 w_1 rfl ⟨by decide, by decide, by decide +kernel⟩ ⟨by decide, by decide⟩ (by decide) rfl rfl rfl rfl (Nat.le_of_ble_eq_true rfl) rfl rfl rfl ⟨by decide, by decide⟩ (fun E g9 h => ⟨Or.inl ⟨by unfold k_dead; rw [if_neg (fun hh => h.2.1 hh)], h.1⟩, h.2.2⟩) (fun v2 g2 h2 => ?_)
  obtain ⟨e12, hx, e22⟩ := h2
  rw [e12, e22]
  obtain ⟨p, hp, rfl⟩ := zok_p hx
  have hz : zi (nI p) = p := zi_nI (by omega)
  refine vq_aload_n d_S_order_5 rfl ?_
  refine vq_iload_n d_S_order_6 rfl ?_
  refine vq_callV (n := 1) (C := R_S) (T := T_S) _ _ d_S_order_7 (ct_S_requireDead l b id D htr hW hc hp) w_554 w_556 sel_S_requireDead w_557 w_1 rfl ⟨by decide, by decide, by decide +kernel⟩ ⟨by decide, by decide⟩ (by decide) rfl rfl rfl rfl (Nat.le_of_ble_eq_true rfl) rfl rfl rfl ⟨by decide, by decide⟩ (fun E g9 h => ⟨Or.inr ⟨by unfold k_dead; rw [if_pos hx, hz, if_neg (by rw [h.2.1]; decide)], h.1⟩, h.2.2⟩) (fun v7 g7 h7 => ?_)
  obtain ⟨e17, hd, e27⟩ := h7
  rw [e17, e27]
  obtain ⟨u, hu⟩ := Option.isSome_iff_exists.mp hd
  refine vq_aload_n d_S_order_10 rfl ?_
  refine vq_getR (k := 1) (C := R_S) (T := T_S) d_S_order_11 rfl in_S w_211 (by decide) rfl (by decide) rfl rfl ?_
  refine vq_iload_n d_S_order_14 rfl ?_
  refine vq_callV (n := 1) (C := R_V) (T := T_V) _ _ d_S_order_15 (ct_V_look l b id D hW hc hp hu) w_559 w_251 w_252 w_253 w_3 rfl ⟨by decide, by decide, by decide +kernel⟩ ⟨by decide, by decide⟩ (by decide) rfl rfl rfl rfl (Nat.le_of_ble_eq_true rfl) rfl rfl rfl ⟨by decide, by decide⟩ (fun _ _ h => h.elim) (fun v15 g15 h15 => ?_)
  obtain ⟨e115, b1, b2, b3, b4⟩ := h15
  rw [e115]
  have hc2 : Hc g15 F := hc.congr (fun q x y => b2 q (by omega))
  refine vq_aload_n d_S_order_18 rfl ?_
  refine vq_getR (k := 1) (C := R_S) (T := T_S) d_S_order_19 rfl in_S w_211 (by decide) rfl (by decide) rfl rfl ?_
  refine vq_getI (k := 3) (C := R_V) (T := T_V) d_S_order_22 rfl in_V w_91 (by decide) rfl (by decide) rfl ?_
  refine vq_iret d_S_order_25 rfl (by decide) (by decide) rfl rfl ?_
  exact ⟨by unfold k_dead; rw [if_pos hx, hz, if_pos hd], by rw [hz, ← b4.2.2.1], hc2, hl.congr (fun q x y => by rw [b1]), fun q hq => ⟨b2 q (by omega), by rw [b1]⟩⟩
set_option maxRecDepth 100000 in
set_option maxHeartbeats 4000000 in
theorem ct_S_stem (l : Launch) (b : Nat) (id : Nat → ClassId) (D : va_G) (htr : l.stackTraces = false) {g : Sg} {F : Fam} (hV : zV F) (hc : Hc g F) {k : Lg} (hl : Hl g k) (x y : Int32) : qCT l b id D m_S_stem false [.ref (b + 0), .int x, .int y] 85 kT g 85 kT (cP (k_dead2 F x y) (some (.int (eO (zst F (zi x) (zi y))))) g F k) (cX (k_dead2 F x y) g) := by
  have hW := hV.1
  have hn := hW.1
  refine qCT_of rfl (by decide) (Nat.le_of_ble_eq_true rfl) ?_
  show Vq l b id D m_S_stem false 85 kT _ 85 kT _ 85 kT 0 0 0 [(0, .ref (b + 0)), (1, .int x), (2, .int y)] [] g
  refine vq_aload_n d_S_stem_0 rfl ?_
  refine vq_iload_n d_S_stem_1 rfl ?_
  refine vq_callV (n := 1) (C := R_S) (T := T_S) _ _ d_S_stem_2 (ct_S_requirePerson l b id D htr hn hc x) w_473 w_475 sel_S_requirePerson w_476 w_1 rfl ⟨by decide, by decide, by decide +kernel⟩ ⟨by decide, by decide⟩ (by decide) rfl rfl rfl rfl (Nat.le_of_ble_eq_true rfl) rfl rfl rfl ⟨by decide, by decide⟩ (fun E g9 h => ⟨Or.inl ⟨by unfold k_dead2; rw [if_neg (fun hh => h.2.1 hh.1)], h.1⟩, h.2.2⟩) (fun v2 g2 h2 => ?_)
  obtain ⟨e12, hx, e22⟩ := h2
  rw [e12, e22]
  obtain ⟨p, hp, rfl⟩ := zok_p hx
  have hz : zi (nI p) = p := zi_nI (by omega)
  refine vq_aload_n d_S_stem_5 rfl ?_
  refine vq_iload_n d_S_stem_6 rfl ?_
  refine vq_callV (n := 1) (C := R_S) (T := T_S) _ _ d_S_stem_7 (ct_S_requirePerson l b id D htr hn hc y) w_473 w_475 sel_S_requirePerson w_476 w_1 rfl ⟨by decide, by decide, by decide +kernel⟩ ⟨by decide, by decide⟩ (by decide) rfl rfl rfl rfl (Nat.le_of_ble_eq_true rfl) rfl rfl rfl ⟨by decide, by decide⟩ (fun E g9 h => ⟨Or.inl ⟨by unfold k_dead2; rw [if_neg (fun hh => h.2.1 hh.2)], h.1⟩, h.2.2⟩) (fun v7 g7 h7 => ?_)
  obtain ⟨e17, hy, e27⟩ := h7
  rw [e17, e27]
  obtain ⟨r, hr, rfl⟩ := zok_p hy
  have hz2 : zi (nI r) = r := zi_nI (by omega)
  refine vq_aload_n d_S_stem_10 rfl ?_
  refine vq_iload_n d_S_stem_11 rfl ?_
  refine vq_callV (n := 1) (C := R_S) (T := T_S) _ _ d_S_stem_12 (ct_S_requireDead l b id D htr hW hc hp) w_554 w_556 sel_S_requireDead w_557 w_1 rfl ⟨by decide, by decide, by decide +kernel⟩ ⟨by decide, by decide⟩ (by decide) rfl rfl rfl rfl (Nat.le_of_ble_eq_true rfl) rfl rfl rfl ⟨by decide, by decide⟩ (fun E g9 h => ⟨Or.inr ⟨by unfold k_dead2; rw [if_pos ⟨hx, hy⟩, hz, if_neg (by rw [h.2.1]; decide)], h.1⟩, h.2.2⟩) (fun v12 g12 h12 => ?_)
  obtain ⟨e112, hd, e212⟩ := h12
  rw [e112, e212]
  obtain ⟨u, hu⟩ := Option.isSome_iff_exists.mp hd
  refine vq_aload_n d_S_stem_15 rfl ?_
  refine vq_getR (k := 1) (C := R_S) (T := T_S) d_S_stem_16 rfl in_S w_211 (by decide) rfl (by decide) rfl rfl ?_
  refine vq_iload_n d_S_stem_19 rfl ?_
  refine vq_callV (n := 1) (C := R_V) (T := T_V) _ _ d_S_stem_20 (ct_V_look l b id D hW hc hp hu) w_559 w_251 w_252 w_253 w_3 rfl ⟨by decide, by decide, by decide +kernel⟩ ⟨by decide, by decide⟩ (by decide) rfl rfl rfl rfl (Nat.le_of_ble_eq_true rfl) rfl rfl rfl ⟨by decide, by decide⟩ (fun _ _ h => h.elim) (fun v20 g20 h20 => ?_)
  obtain ⟨e120, b1, b2, b3, b4⟩ := h20
  rw [e120]
  have hc2 : Hc g20 F := hc.congr (fun q x y => b2 q (by omega))
  refine vq_aload_n d_S_stem_23 rfl ?_
  refine vq_getR (k := 1) (C := R_S) (T := T_S) d_S_stem_24 rfl in_S w_211 (by decide) rfl (by decide) rfl rfl ?_
  refine vq_iload_n d_S_stem_27 rfl ?_
  refine vq_callV (n := 1) (C := R_V) (T := T_V) _ _ d_S_stem_28 (ct_V_leastStemOver l b id D hW hc2 hp b4 hr) w_604 w_605 w_606 w_607 w_3 rfl ⟨by decide, by decide, by decide +kernel⟩ ⟨by decide, by decide⟩ (by decide) rfl rfl rfl rfl (Nat.le_of_ble_eq_true rfl) rfl rfl rfl ⟨by decide, by decide⟩ (fun _ _ h => h.elim) (fun v28 g28 h28 => ?_)
  obtain ⟨e128, c1, c2⟩ := h28
  rw [e128]
  refine vq_iret d_S_stem_31 rfl (by decide) (by decide) rfl rfl ?_
  exact ⟨by unfold k_dead2; rw [if_pos ⟨hx, hy⟩, hz, if_pos hd], by rw [hz, hz2], hc2.congr (fun q x y => c2 q (by omega)), hl.congr (fun q x y => by rw [c1, b1]), fun q hq => ⟨by rw [c2 q (by omega)]; exact b2 q (by omega), by rw [c1, b1]⟩⟩
set_option maxRecDepth 100000 in
set_option maxHeartbeats 4000000 in
theorem ct_S_settle (l : Launch) (b : Nat) (id : Nat → ClassId) (D : va_G) {g : Sg} {F : Fam} (hV : zV F) (hc : Hc g F) : qCT l b id D m_S_settle false [.ref (b + 0)] 85 kT g 85 kT (cP 0 (some (.int (nI (zct F (zn F))))) g F (zra F (zn F)).2) (fun _ _ => False) := by
  refine qCT_of rfl (by decide) (Nat.le_of_ble_eq_true rfl) ?_
  show Vq l b id D m_S_settle false 85 kT _ 85 kT _ 85 kT 0 0 0 [(0, .ref (b + 0))] [] g
  refine vq_aload_n d_S_settle_0 rfl ?_
  refine vq_getR (k := 3) (C := R_S) (T := T_S) d_S_settle_1 rfl in_S w_213 (by decide) rfl (by decide) rfl rfl ?_
  refine vq_callV (n := 0) (C := R_L) (T := T_L) _ _ d_S_settle_4 (ct_L_settleAll l b id D hV.1 hc) w_227 w_228 w_229 w_230 w_6 rfl ⟨by decide, by decide, by decide +kernel⟩ ⟨by decide, by decide⟩ (by decide) rfl rfl rfl rfl (Nat.le_of_ble_eq_true rfl) rfl rfl rfl ⟨by decide, by decide⟩ (fun _ _ h => h.elim) (fun v4 g4 h4 => ?_)
  obtain ⟨e14, c1, c2, c3⟩ := h4
  rw [e14]
  refine vq_iret d_S_settle_7 rfl (by decide) (by decide) rfl rfl ?_
  exact ⟨rfl, rfl, hc.congr (fun q x y => c2 q (by omega)), c1, fun q hq => ⟨c2 q (by omega), c3 q (by omega)⟩⟩
set_option maxRecDepth 100000 in
set_option maxHeartbeats 4000000 in
theorem ct_S_paid (l : Launch) (b : Nat) (id : Nat → ClassId) (D : va_G) (htr : l.stackTraces = false) {g : Sg} {F : Fam} (hV : zV F) (hc : Hc g F) {k : Lg} (hl : Hl g k) (x y : Int32) : qCT l b id D m_S_paid false [.ref (b + 0), .int x, .int y] 85 kT g 85 kT (cP (k_paid F x y) (some (.long (lN (k.1 (zi x) (zpp y))))) g F k) (cX (k_paid F x y) g) := by
  have hW := hV.1
  have hn := hW.1
  refine qCT_of rfl (by decide) (Nat.le_of_ble_eq_true rfl) ?_
  show Vq l b id D m_S_paid false 85 kT _ 85 kT _ 85 kT 0 0 0 [(0, .ref (b + 0)), (1, .int x), (2, .int y)] [] g
  refine vq_aload_n d_S_paid_0 rfl ?_
  refine vq_iload_n d_S_paid_1 rfl ?_
  refine vq_callV (n := 1) (C := R_S) (T := T_S) _ _ d_S_paid_2 (ct_S_requirePerson l b id D htr hn hc x) w_473 w_475 sel_S_requirePerson w_476 w_1 rfl ⟨by decide, by decide, by decide +kernel⟩ ⟨by decide, by decide⟩ (by decide) rfl rfl rfl rfl (Nat.le_of_ble_eq_true rfl) rfl rfl rfl ⟨by decide, by decide⟩ (fun E g9 h => ⟨Or.inl ⟨by unfold k_paid; rw [if_neg (fun hh => h.2.1 hh.1)], h.1⟩, h.2.2⟩) (fun v2 g2 h2 => ?_)
  obtain ⟨e12, hx, e22⟩ := h2
  rw [e12, e22]
  obtain ⟨p, hp, rfl⟩ := zok_p hx
  have hz : zi (nI p) = p := zi_nI (by omega)
  refine vq_aload_n d_S_paid_5 rfl ?_
  refine vq_getR (k := 3) (C := R_S) (T := T_S) d_S_paid_6 rfl in_S w_213 (by decide) rfl (by decide) rfl rfl ?_
  refine vq_getR (k := 3) (C := R_L) (T := T_L) d_S_paid_9 rfl in_L w_186 (by decide) rfl (by decide) rfl rfl ?_
  refine vq_iload_n d_S_paid_12 rfl ?_
  refine vq_aald5 d_S_paid_13 (by decide) rfl rfl (show _ < 20 by omega) ?_
  refine vq_aload_n d_S_paid_14 rfl ?_
  refine vq_iload_n d_S_paid_15 rfl ?_
  refine vq_callV (n := 1) (C := R_S) (T := T_S) _ _ d_S_paid_16 (ct_S_placeOf l b id D htr hn hc y) w_631 w_633 sel_S_placeOf w_634 w_1 rfl ⟨by decide, by decide, by decide +kernel⟩ ⟨by decide, by decide⟩ (by decide) rfl rfl rfl rfl (Nat.le_of_ble_eq_true rfl) rfl rfl rfl ⟨by decide, by decide⟩ (fun E g9 h => ⟨Or.inl ⟨by unfold k_paid; rw [if_neg (fun hh => h.2.1 hh.2)], h.1⟩, h.2.2⟩) (fun v16 g16 h16 => ?_)
  obtain ⟨e116, hy, e216⟩ := h16
  rw [e116, e216]
  have h21 := zpp_e hn hy
  refine vq_lald d_S_paid_19 (show 43 + _ < 85 by omega) (qK_pm _ (by omega)) rfl (Nat.lt_of_lt_of_eq (show _ < 21 by omega) (qL_pm _ (by omega)).symm) ?_
  refine vq_lret d_S_paid_20 rfl (by decide) (by decide) rfl rfl ?_
  exact ⟨by unfold k_paid; rw [if_pos ⟨hx, hy⟩], by rw [hz]; show _ = some (Value.long (lN (k.1 p (zpp y)))); rw [← hl.1 p (zpp y) (by omega) h21]; rfl, hc, hl, fun q hq => ⟨rfl, rfl⟩⟩
set_option maxRecDepth 100000 in
set_option maxHeartbeats 4000000 in
theorem ct_S_total (l : Launch) (b : Nat) (id : Nat → ClassId) (D : va_G) (htr : l.stackTraces = false) {g : Sg} {F : Fam} (hV : zV F) (hc : Hc g F) {k : Lg} (hl : Hl g k) (x : Int32) : qCT l b id D m_S_total false [.ref (b + 0), .int x] 85 kT g 85 kT (cP (k_one F x) (some (.long (lN (k.2.2 (zi x))))) g F k) (cX (k_one F x) g) := by
  have hW := hV.1
  have hn := hW.1
  refine qCT_of rfl (by decide) (Nat.le_of_ble_eq_true rfl) ?_
  show Vq l b id D m_S_total false 85 kT _ 85 kT _ 85 kT 0 0 0 [(0, .ref (b + 0)), (1, .int x)] [] g
  refine vq_aload_n d_S_total_0 rfl ?_
  refine vq_iload_n d_S_total_1 rfl ?_
  refine vq_callV (n := 1) (C := R_S) (T := T_S) _ _ d_S_total_2 (ct_S_requirePerson l b id D htr hn hc x) w_473 w_475 sel_S_requirePerson w_476 w_1 rfl ⟨by decide, by decide, by decide +kernel⟩ ⟨by decide, by decide⟩ (by decide) rfl rfl rfl rfl (Nat.le_of_ble_eq_true rfl) rfl rfl rfl ⟨by decide, by decide⟩ (fun E g9 h => ⟨Or.inl ⟨by unfold k_one; rw [if_neg (fun hh => h.2.1 hh)], h.1⟩, h.2.2⟩) (fun v2 g2 h2 => ?_)
  obtain ⟨e12, hx, e22⟩ := h2
  rw [e12, e22]
  obtain ⟨p, hp, rfl⟩ := zok_p hx
  have hz : zi (nI p) = p := zi_nI (by omega)
  refine vq_aload_n d_S_total_5 rfl ?_
  refine vq_getR (k := 3) (C := R_S) (T := T_S) d_S_total_6 rfl in_S w_213 (by decide) rfl (by decide) rfl rfl ?_
  refine vq_getR (k := 4) (C := R_L) (T := T_L) d_S_total_9 rfl in_L w_188 (by decide) rfl (by decide) rfl rfl ?_
  refine vq_iload_n d_S_total_12 rfl ?_
  refine vq_lald d_S_total_13 (by decide) rfl rfl (show _ < 20 by omega) ?_
  refine vq_lret d_S_total_14 rfl (by decide) (by decide) rfl rfl ?_
  exact ⟨by unfold k_one; rw [if_pos hx], by rw [hz, ← hl.2.2 p (by omega)], hc, hl, fun q hq => ⟨rfl, rfl⟩⟩
set_option maxRecDepth 100000 in
set_option maxHeartbeats 4000000 in
theorem ct_S_got (l : Launch) (b : Nat) (id : Nat → ClassId) (D : va_G) (htr : l.stackTraces = false) {g : Sg} {F : Fam} (hV : zV F) (hc : Hc g F) {k : Lg} (hl : Hl g k) (x : Int32) : qCT l b id D m_S_got false [.ref (b + 0), .int x] 85 kT g 85 kT (cP (k_got F x) (some (.long (lN (k.2.1 (zpp x))))) g F k) (cX (k_got F x) g) := by
  have hW := hV.1
  have hn := hW.1
  refine qCT_of rfl (by decide) (Nat.le_of_ble_eq_true rfl) ?_
  show Vq l b id D m_S_got false 85 kT _ 85 kT _ 85 kT 0 0 0 [(0, .ref (b + 0)), (1, .int x)] [] g
  refine vq_aload_n d_S_got_0 rfl ?_
  refine vq_getR (k := 3) (C := R_S) (T := T_S) d_S_got_1 rfl in_S w_213 (by decide) rfl (by decide) rfl rfl ?_
  refine vq_getR (k := 5) (C := R_L) (T := T_L) d_S_got_4 rfl in_L w_190 (by decide) rfl (by decide) rfl rfl ?_
  refine vq_aload_n d_S_got_7 rfl ?_
  refine vq_iload_n d_S_got_8 rfl ?_
  refine vq_callV (n := 1) (C := R_S) (T := T_S) _ _ d_S_got_9 (ct_S_placeOf l b id D htr hn hc x) w_631 w_633 sel_S_placeOf w_634 w_1 rfl ⟨by decide, by decide, by decide +kernel⟩ ⟨by decide, by decide⟩ (by decide) rfl rfl rfl rfl (Nat.le_of_ble_eq_true rfl) rfl rfl rfl ⟨by decide, by decide⟩ (fun E g9 h => ⟨Or.inl ⟨by unfold k_got; rw [if_neg h.2.1], h.1⟩, h.2.2⟩) (fun v9 g9 h9 => ?_)
  obtain ⟨e116, hy, e216⟩ := h9
  rw [e116, e216]
  have h21 := zpp_e hn hy
  refine vq_lald d_S_got_12 (by decide) rfl rfl (show _ < 21 by omega) ?_
  refine vq_lret d_S_got_13 rfl (by decide) (by decide) rfl rfl ?_
  exact ⟨by unfold k_got; rw [if_pos hy], by rw [← hl.2.1 (zpp x) h21], hc, hl, fun q hq => ⟨rfl, rfl⟩⟩
