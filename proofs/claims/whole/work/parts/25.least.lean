/-! SuccessionClerk$Survey.leastStemOver. Laid by wip/whole/specs/p25.py -/
set_option maxRecDepth 100000 in
set_option maxHeartbeats 4000000 in
theorem ct_V_beginsOrder (l : Launch) (b : Nat) (id : Nat → ClassId) (D : va_G) {g : Sg} {F : Fam} (hW : zW F) (hc : Hc g F) {e top : Nat} (he : e < zn F) (hk : LK g F e) (h3 : zt F e ≤ 3) (htop : top < zn F) : qCT l b id D m_V_beginsOrder false [.ref (b + 29), .int (nI top)] 85 kT g 85 kT (fun v g' => v = some (.int (bI (zbg F e top))) ∧ g' = g) (fun _ _ => False) := by
  have hn := hW.1
  refine qCT_of rfl (by decide) (Nat.le_of_ble_eq_true rfl) ?_
  show Vq l b id D m_V_beginsOrder false 85 kT _ 85 kT _ 85 kT 0 0 0 [(0, .ref (b + 29)), (1, .int (nI top))] [] g
  refine vq_aload_n d_V_beginsOrder_0 rfl ?_
  refine vq_getI (k := 3) (C := R_V) (T := T_V) d_V_beginsOrder_1 rfl in_V w_89 (by decide) rfl (by decide) rfl ?_
  refine vq_int (y := nI (zt F e)) hk.2.2.1 ?_
  refine vq_if_ne (tgt := 22) d_V_beginsOrder_4 (by decide) (fun h4 => ?_) (fun h4 => ?_)
  · have h0 : ¬ zt F e = 0 := by
      rw [show (0 : Int32) = nI 0 from rfl, nI_eq (by omega) (by decide)] at h4
      exact h4
    have h3 : zt F e = 1 ∨ zt F e = 2 ∨ zt F e = 3 := by omega
    rcases h3 with ht | ht | ht
    · refine vq_aload_n d_V_beginsOrder_22 rfl ?_
      refine vq_getR (k := 0) (C := R_V) (T := T_V) d_V_beginsOrder_23 rfl in_V w_82 (by decide) rfl (by decide) rfl rfl ?_
      refine vq_iload_n d_V_beginsOrder_26 rfl ?_
      refine vq_aload_n d_V_beginsOrder_27 rfl ?_
      refine vq_getI (k := 1) (C := R_V) (T := T_V) d_V_beginsOrder_28 rfl in_V w_83 (by decide) rfl (by decide) rfl ?_
      refine vq_int (y := eO (some e)) hk.1 ?_
      refine vq_aload_n d_V_beginsOrder_31 rfl ?_
      refine vq_getI (k := 3) (C := R_V) (T := T_V) d_V_beginsOrder_32 rfl in_V w_89 (by decide) rfl (by decide) rfl ?_
      refine vq_int (y := nI 1) (by rw [hk.2.2.1, ht]) ?_
      refine vq_callS (n := 4) _ _ d_V_beginsOrder_35 (ct_V_isAncestor1 l b id D hW hc (o := some e) (fun j hj => by cases hj; exact he) htop) w_613 w_614 w_615 w_3 rfl ⟨by decide, by decide, by decide +kernel⟩ ⟨by decide, by decide⟩ rfl rfl (Nat.le_of_ble_eq_true rfl) rfl rfl rfl ⟨by decide, by decide⟩ (fun _ _ h => h.elim) (fun v35 g35 h35 => ?_)
      rw [h35.1, h35.2]
      refine vq_zret d_V_beginsOrder_38 rfl (bI_01 _) (by decide) (by decide) rfl rfl ?_
      exact ⟨by unfold zbg; first | (rw [if_pos h0]; done) | (rw [if_neg h0, ht]; rfl), rfl⟩
    · refine vq_aload_n d_V_beginsOrder_22 rfl ?_
      refine vq_getR (k := 0) (C := R_V) (T := T_V) d_V_beginsOrder_23 rfl in_V w_82 (by decide) rfl (by decide) rfl rfl ?_
      refine vq_iload_n d_V_beginsOrder_26 rfl ?_
      refine vq_aload_n d_V_beginsOrder_27 rfl ?_
      refine vq_getI (k := 1) (C := R_V) (T := T_V) d_V_beginsOrder_28 rfl in_V w_83 (by decide) rfl (by decide) rfl ?_
      refine vq_int (y := eO (some e)) hk.1 ?_
      refine vq_aload_n d_V_beginsOrder_31 rfl ?_
      refine vq_getI (k := 3) (C := R_V) (T := T_V) d_V_beginsOrder_32 rfl in_V w_89 (by decide) rfl (by decide) rfl ?_
      refine vq_int (y := nI 2) (by rw [hk.2.2.1, ht]) ?_
      refine vq_callS (n := 4) _ _ d_V_beginsOrder_35 (ct_V_isAncestor2 l b id D hW hc (o := some e) (fun j hj => by cases hj; exact he) htop) w_613 w_614 w_615 w_3 rfl ⟨by decide, by decide, by decide +kernel⟩ ⟨by decide, by decide⟩ rfl rfl (Nat.le_of_ble_eq_true rfl) rfl rfl rfl ⟨by decide, by decide⟩ (fun _ _ h => h.elim) (fun v35 g35 h35 => ?_)
      rw [h35.1, h35.2]
      refine vq_zret d_V_beginsOrder_38 rfl (bI_01 _) (by decide) (by decide) rfl rfl ?_
      exact ⟨by unfold zbg; first | (rw [if_pos h0]; done) | (rw [if_neg h0, ht]; rfl), rfl⟩
    · refine vq_aload_n d_V_beginsOrder_22 rfl ?_
      refine vq_getR (k := 0) (C := R_V) (T := T_V) d_V_beginsOrder_23 rfl in_V w_82 (by decide) rfl (by decide) rfl rfl ?_
      refine vq_iload_n d_V_beginsOrder_26 rfl ?_
      refine vq_aload_n d_V_beginsOrder_27 rfl ?_
      refine vq_getI (k := 1) (C := R_V) (T := T_V) d_V_beginsOrder_28 rfl in_V w_83 (by decide) rfl (by decide) rfl ?_
      refine vq_int (y := eO (some e)) hk.1 ?_
      refine vq_aload_n d_V_beginsOrder_31 rfl ?_
      refine vq_getI (k := 3) (C := R_V) (T := T_V) d_V_beginsOrder_32 rfl in_V w_89 (by decide) rfl (by decide) rfl ?_
      refine vq_int (y := nI 3) (by rw [hk.2.2.1, ht]) ?_
      refine vq_callS (n := 4) _ _ d_V_beginsOrder_35 (ct_V_isAncestor3 l b id D hW hc (o := some e) (fun j hj => by cases hj; exact he) htop) w_613 w_614 w_615 w_3 rfl ⟨by decide, by decide, by decide +kernel⟩ ⟨by decide, by decide⟩ rfl rfl (Nat.le_of_ble_eq_true rfl) rfl rfl rfl ⟨by decide, by decide⟩ (fun _ _ h => h.elim) (fun v35 g35 h35 => ?_)
      rw [h35.1, h35.2]
      refine vq_zret d_V_beginsOrder_38 rfl (bI_01 _) (by decide) (by decide) rfl rfl ?_
      exact ⟨by unfold zbg; first | (rw [if_pos h0]; done) | (rw [if_neg h0, ht]; rfl), rfl⟩
  · have h0 : zt F e = 0 := by
      rw [show (0 : Int32) = nI 0 from rfl, nI_eq (by omega) (by decide)] at h4
      exact h4
    refine vq_aload_n d_V_beginsOrder_7 rfl ?_
    refine vq_getR (k := 0) (C := R_V) (T := T_V) d_V_beginsOrder_8 rfl in_V w_82 (by decide) rfl (by decide) rfl rfl ?_
    refine vq_iload_n d_V_beginsOrder_11 rfl ?_
    refine vq_aload_n d_V_beginsOrder_12 rfl ?_
    refine vq_getI (k := 1) (C := R_V) (T := T_V) d_V_beginsOrder_13 rfl in_V w_83 (by decide) rfl (by decide) rfl ?_
    refine vq_int (y := nI e) hk.1 ?_
    refine vq_callV (n := 2) (C := R_F) (T := T_F) _ _ d_V_beginsOrder_16 (ct_F_isChild l b id D hW hc htop he) w_612 w_303 w_304 w_305 w_2 rfl ⟨by decide, by decide, by decide +kernel⟩ ⟨by decide, by decide⟩ (by decide) rfl rfl rfl rfl (Nat.le_of_ble_eq_true rfl) rfl rfl rfl ⟨by decide, by decide⟩ (fun _ _ h => h.elim) (fun v16 g16 h16 => ?_)
    rw [h16.1, h16.2]
    refine vq_goto (tgt := 38) d_V_beginsOrder_19 (by decide) ?_
    refine vq_zret d_V_beginsOrder_38 rfl (bI_01 _) (by decide) (by decide) rfl rfl ?_
    exact ⟨by unfold zbg; first | (rw [if_pos h0]; done) | (rw [if_neg h0, ht]; rfl), rfl⟩
set_option maxRecDepth 100000 in
set_option maxHeartbeats 4000000 in
theorem ct_V_leastStemOver (l : Launch) (b : Nat) (id : Nat → ClassId) (D : va_G) {g : Sg} {F : Fam} (hW : zW F) (hc : Hc g F) {e w : Nat} (he : e < zn F) (hk : LK g F e) (hw : w < zn F) : qCT l b id D m_V_leastStemOver false [.ref (b + 29), .int (nI w)] 85 kT g 85 kT (fun v g' => v = some (.int (eO (zst F e w))) ∧ g'.2 = g.2 ∧ ∀ q, q ≠ 33 → g'.1 q = g.1 q) (fun _ _ => False) := by
  have hn := hW.1
  have ht5 := zt_le F e
  refine qCT_of rfl (by decide) (Nat.le_of_ble_eq_true rfl) ?_
  show Vq l b id D m_V_leastStemOver false 85 kT _ 85 kT _ 85 kT 0 0 0 [(0, .ref (b + 29)), (1, .int (nI w))] [] g
  refine vq_aload_n d_V_leastStemOver_0 rfl ?_
  refine vq_getI (k := 3) (C := R_V) (T := T_V) d_V_leastStemOver_1 rfl in_V w_89 (by decide) rfl (by decide) rfl ?_
  refine vq_int (y := nI (zt F e)) hk.2.2.1 ?_
  refine vq_iconst (v := 3) d_V_leastStemOver_4 (by decide) ?_
  refine vq_icmp_gt (tgt := 17) d_V_leastStemOver_5 (by decide) (fun h5 => ?_) (fun h5 => ?_)
  · rw [show (3 : Int32) = nI 3 from rfl, nI_ltI (by decide) (by omega)] at h5
    refine vq_iconst (v := -1) d_V_leastStemOver_17 (by decide) ?_
    refine vq_iret d_V_leastStemOver_18 rfl (by decide) (by decide) rfl rfl ?_
    refine ⟨?_, rfl, fun q hq => rfl⟩
    have hz : zst F e w = none := by
      unfold zst
      rw [if_neg]
      intro h9
      first | omega | (rw [hl0] at h9; cases h9.2)
    rw [hz]; rfl
  · rw [show (3 : Int32) = nI 3 from rfl, nI_ltI (by decide) (by omega)] at h5
    refine vq_aload_n d_V_leastStemOver_8 rfl ?_
    refine vq_getR (k := 4) (C := R_V) (T := T_V) d_V_leastStemOver_9 rfl in_V w_92 (by decide) rfl (by decide) rfl rfl ?_
    refine vq_iload_n d_V_leastStemOver_12 rfl ?_
    refine vq_zald d_V_leastStemOver_13 (by decide) rfl rfl (show _ < 20 by omega) ?_
    refine vq_int (y := bI (zl F e w)) (hk.2.2.2.1 w hw) ?_
    refine vq_if_ne (tgt := 19) d_V_leastStemOver_14 (by decide) (fun h14 => ?_) (fun h14 => ?_)
    · have hl := bI_n0.mp h14
      have hst : zst F e w = zfst (fun t => zbg F e t && zR F e t w) (w + 1) := by unfold zst; rw [if_pos ⟨by omega, hl⟩]
      have loop : ∀ (n9 : Nat) (i : Nat) (g1 : Sg), w + 1 - i = n9 → (i ≤ w + 1 ∧ g1.2 = g.2 ∧ (∀ q, q ≠ 33 → g1.1 q = g.1 q) ∧ zfst (fun t => zbg F e t && zR F e t w) i = none) → Vq l b id D m_V_leastStemOver false 85 kT (fun v g' => v = some (.int (eO (zst F e w))) ∧ g'.2 = g.2 ∧ ∀ q, q ≠ 33 → g'.1 q = g.1 q) 85 kT (fun _ _ => False) 85 kT 0 0 21 [(2, .int (nI i)), (0, .ref (b + 29)), (1, .int (nI w))] [] g1 := by
        intro n9
        induction n9 using Nat.strongRecOn with
        | ind n9 ih =>
        intro i g1 hm hI
        have hi1 := hI.1
        have hfr := hI.2.2.1
        refine vq_iload_n d_V_leastStemOver_21 rfl ?_
        refine vq_iload_n d_V_leastStemOver_22 rfl ?_
        refine vq_icmp_gt (tgt := 51) d_V_leastStemOver_23 (by decide) (fun h23 => ?_) (fun h23 => ?_)
        · have hi : i = w + 1 := by
            rw [nI_ltI (by omega) (by omega)] at h23
            omega
          subst hi
          refine vq_iconst (v := -1) d_V_leastStemOver_51 (by decide) ?_
          refine vq_iret d_V_leastStemOver_52 rfl (by decide) (by decide) rfl rfl ?_
          refine ⟨?_, hI.2.1, hfr⟩
          rw [hst, hI.2.2.2]; rfl
        · have hi : i ≤ w := by
            rw [nI_ltI (by omega) (by omega)] at h23
            omega
          have hc1 : Hc g1 F := hc.congr (fun q a c => hfr q (by omega))
          have hk1 : LK g1 F e := hk.congr (fun q a c => hfr q (by omega))
          refine vq_aload_n d_V_leastStemOver_26 rfl ?_
          refine vq_iload_n d_V_leastStemOver_27 rfl ?_
          refine vq_callV (n := 1) (C := R_V) (T := T_V) _ _ d_V_leastStemOver_28 (ct_V_beginsOrder l b id D hW hc1 he hk1 (by omega) (show i < zn F by omega)) w_608 w_610 sel_V_beginsOrder w_611 w_3 rfl ⟨by decide, by decide, by decide +kernel⟩ ⟨by decide, by decide⟩ (by decide) rfl rfl rfl rfl (Nat.le_of_ble_eq_true rfl) rfl rfl rfl ⟨by decide, by decide⟩ (fun _ _ h => h.elim) (fun v28 g28 h28 => ?_)
          rw [h28.1, h28.2]
          refine vq_if_eq (tgt := 45) d_V_leastStemOver_31 (by decide) (fun h31 => ?_) (fun h31 => ?_)
          · have hb0 := bI_0.mp h31
            have hP : (zbg F e i && zR F e i w) = false := by rw [hb0]; rfl
            refine vq_iinc (k := 0) (lv' := [(2, _), (0, _), (1, _)]) d_V_leastStemOver_45 rfl (ip1 i) (by decide) rfl ?_
            refine vq_goto (tgt := 21) d_V_leastStemOver_48 (by decide) ?_
            first | exact ih (w + 1 - (i + 1)) (by omega) (i + 1) _ rfl ⟨by omega, hI.2.1, hfr, zfst_none hI.2.2.2 hP⟩ | exact ih (w + 1 - (i + 1)) (by omega) (i + 1) _ rfl ⟨by omega, a2.trans hI.2.1, fun q hq => (a3 q hq).trans (hfr q hq), zfst_none hI.2.2.2 hP⟩
          · have hb1 := bI_n0.mp h31
            refine vq_aload_n d_V_leastStemOver_34 rfl ?_
            refine vq_iload_n d_V_leastStemOver_35 rfl ?_
            refine vq_iload_n d_V_leastStemOver_36 rfl ?_
            refine vq_callV (n := 2) (C := R_V) (T := T_V) _ _ d_V_leastStemOver_37 (ct_V_stemReaches l b id D hW hc1 hk1.2.2.2.1 (show i < zn F by omega) hw) w_616 w_618 sel_V_stemReaches w_619 w_3 rfl ⟨by decide, by decide, by decide +kernel⟩ ⟨by decide, by decide⟩ (by decide) rfl rfl rfl rfl (Nat.le_of_ble_eq_true rfl) rfl rfl rfl ⟨by decide, by decide⟩ (fun _ _ h => h.elim) (fun v37 g37 h37 => ?_)
            obtain ⟨rfl, a2, a3⟩ := h37
            refine vq_if_eq (tgt := 45) d_V_leastStemOver_40 (by decide) (fun h40 => ?_) (fun h40 => ?_)
            · have hP : (zbg F e i && zR F e i w) = false := by rw [bI_0.mp h40]; simp
              refine vq_iinc (k := 0) (lv' := [(2, _), (0, _), (1, _)]) d_V_leastStemOver_45 rfl (ip1 i) (by decide) rfl ?_
              refine vq_goto (tgt := 21) d_V_leastStemOver_48 (by decide) ?_
              first | exact ih (w + 1 - (i + 1)) (by omega) (i + 1) _ rfl ⟨by omega, hI.2.1, hfr, zfst_none hI.2.2.2 hP⟩ | exact ih (w + 1 - (i + 1)) (by omega) (i + 1) _ rfl ⟨by omega, a2.trans hI.2.1, fun q hq => (a3 q hq).trans (hfr q hq), zfst_none hI.2.2.2 hP⟩
            · have hP : (zbg F e i && zR F e i w) = true := by rw [bI_n0.mp h40, hb1]; rfl
              refine vq_iload_n d_V_leastStemOver_43 rfl ?_
              refine vq_iret d_V_leastStemOver_44 rfl (by decide) (by decide) rfl rfl ?_
              refine ⟨?_, a2.trans hI.2.1, fun q hq => (a3 q hq).trans (hfr q hq)⟩
              have h9 := zfst_on (zfst_some hI.2.2.2 hP) (w - i)
              rw [show i + 1 + (w - i) = w + 1 by omega] at h9
              rw [hst, h9]; rfl
      refine vq_iconst (v := 0) d_V_leastStemOver_19 (by decide) ?_
      refine vq_istore_n (lv' := [(2, _), (0, _), (1, _)]) d_V_leastStemOver_20 (by decide) rfl ?_
      exact loop (w + 1) 0 _ rfl ⟨by omega, rfl, fun q hq => rfl, rfl⟩
    · have hl0 := bI_0.mp h14
      refine vq_iconst (v := -1) d_V_leastStemOver_17 (by decide) ?_
      refine vq_iret d_V_leastStemOver_18 rfl (by decide) (by decide) rfl rfl ?_
      refine ⟨?_, rfl, fun q hq => rfl⟩
      have hz : zst F e w = none := by
        unfold zst
        rw [if_neg]
        intro h9
        first | omega | (rw [hl0] at h9; cases h9.2)
      rw [hz]; rfl
