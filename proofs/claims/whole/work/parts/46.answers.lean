/-! the reference's answers: heirs, shares. Laid by wip/whole/specs/p46.py -/
theorem k_dead_0 {F : Fam} {x : Int32} (h : k_dead F x = 0) : zok F x ∧ ∃ u, zd F (zi x) = some u := by
  unfold k_dead at h
  by_cases h1 : zok F x
  · rw [if_pos h1] at h
    by_cases h2 : (zd F (zi x)).isSome = true
    · exact ⟨h1, Option.isSome_iff_exists.mp h2⟩
    · rw [if_neg h2] at h; cases h
  · rw [if_neg h1] at h; cases h
theorem k_dead_le (F : Fam) (x : Int32) : k_dead F x ≤ 2 := by
  unfold k_dead
  split
  · split <;> omega
  · omega
theorem FrE.m {g g1 : Sg} {F : Fam} {k : Lg} {C : Nat} {A : Option Value} (h : FrE (sI g 67 (upd (g.1 67) 0 (nI C))) g1) (hm : Hm g F) (hl : Hn g k) (hC : C = 0) {v : Option Value} (hv : v = A) {Z : Option Value} : mP C A Z g F k v g1 := by
  refine ⟨by rw [hv, if_pos hC], by rw [h.2.1 0 (by decide), sI_s, upd, if_pos rfl], h.hm (hm.thr _), h.hn hl, fun q hq => ?_⟩
  obtain ⟨a1, a2⟩ := h.dn q hq
  exact ⟨by rw [a1, sI_n (by omega)], a2⟩
set_option maxRecDepth 100000 in
set_option maxHeartbeats 4000000 in
theorem ct_M_order (l : Launch) (b : Nat) (id : Nat → ClassId) (D : va_G) {g : Sg} {F : Fam} (hV : zV F) (hm : Hm g F) {k : Lg} (hl : Hn g k) (x : Int32) : qCT l b id D m_M_order false [.ref (b + 67), .int x] 85 kT g 85 kT (mP (k_dead F x) (some (.int (nI (zt F (zi x))))) (some (.int 0)) g F k) (fun _ _ => False) := by
  have hW := hV.1
  have hn := hW.1
  have h31 : zn F < 2 ^ 31 := by omega
  refine qCT_of rfl (by decide) (Nat.le_of_ble_eq_true rfl) ?_
  show Vq l b id D m_M_order false 85 kT _ 85 kT _ 85 kT 0 0 0 [(0, .ref (b + 67)), (1, .int x)] [] g
  refine vq_aload_n d_M_order_0 rfl ?_
  refine vq_aload_n d_M_order_1 rfl ?_
  refine vq_iload_n d_M_order_2 rfl ?_
  refine vq_callV (n := 1) (C := R_M) (T := T_M) _ _ d_M_order_3 (ct_M_unsettled l b id D hW hm x) w_778 w_780 sel_M_unsettled w_781 w_7 rfl ⟨by decide, by decide, by decide +kernel⟩ ⟨by decide, by decide⟩ (by decide) rfl rfl rfl rfl (Nat.le_of_ble_eq_true rfl) rfl rfl rfl ⟨by decide, by decide⟩ (fun _ _ h => h.elim) (fun v3 g3 h3 => ?_)
  rw [h3.1, h3.2]
  refine vq_putI (k := 0) (C := R_M) (T := T_M) (ty := .int) t_M d_M_order_6 rfl in_M w_655 ty_M nm_M (by decide) rfl (by decide) rfl (by decide +kernel) rfl rfl rfl ?_
  refine vq_aload_n d_M_order_9 rfl ?_
  refine vq_getI (k := 0) (C := R_M) (T := T_M) d_M_order_10 rfl in_M w_655 (by decide) rfl (by decide) rfl ?_
  refine vq_int (y := nI (k_dead F x)) rfl ?_
  refine vq_if_le (tgt := 18) d_M_order_13 (by decide) (fun h13 => ?_) (fun h13 => ?_)
  · rw [nI_n0 (by have := k_dead_le F x; omega)] at h13
    have hk0 := h13
    obtain ⟨hx, u, hu⟩ := k_dead_0 hk0
    obtain ⟨p, hp, rfl⟩ := zok_p hx
    have hz : zi (nI p) = p := zi_nI (by omega)
    rw [hz] at hu
    refine vq_aload_n d_M_order_18 rfl ?_
    refine vq_iload_n d_M_order_19 rfl ?_
    refine vq_callV (n := 1) (C := R_M) (T := T_M) _ _ d_M_order_20 (ct_M_look l b id D hW (hm.thr (nI (k_dead F (nI p)))) hp hu) w_786 w_788 sel_M_look w_789 w_7 rfl ⟨by decide, by decide, by decide +kernel⟩ ⟨by decide, by decide⟩ (by decide) rfl rfl rfl rfl (Nat.le_of_ble_eq_true rfl) rfl rfl rfl ⟨by decide, by decide⟩ (fun _ _ h => h.elim) (fun v20 g20 h20 => ?_)
    obtain ⟨e120, a1, a4⟩ := h20
    rw [e120]
    refine vq_aload_n d_M_order_23 rfl ?_
    refine vq_getI (k := 17) (C := R_M) (T := T_M) d_M_order_24 rfl in_M w_672 (by decide) rfl (by decide) rfl ?_
    refine vq_iret d_M_order_27 rfl (by decide) (by decide) rfl rfl ?_
    exact a4.e.m hm hl hk0 (by rw [hz, ← a1.2.2.1])
  · rw [nI_n0 (by have := k_dead_le F x; omega)] at h13
    refine vq_iconst (v := 0) d_M_order_16 (by decide) ?_
    refine vq_iret d_M_order_17 rfl (by decide) (by decide) rfl rfl ?_
    exact ⟨by rw [if_neg h13], rfl, hm.thr _, hl, Dn.thr _⟩
set_option maxRecDepth 100000 in
set_option maxHeartbeats 4000000 in
theorem ct_M_heirs (l : Launch) (b : Nat) (id : Nat → ClassId) (D : va_G) {g : Sg} {F : Fam} (hV : zV F) (hm : Hm g F) {k : Lg} (hl : Hn g k) (x : Int32) : qCT l b id D m_M_heirs false [.ref (b + 67), .int x] 85 kT g 85 kT (mP (k_dead F x) (some (.int (nI (zcn (zsh F (zi x) 1) (zn F))))) (some (.int 0)) g F k) (fun _ _ => False) := by
  have hW := hV.1
  have hn := hW.1
  have h31 : zn F < 2 ^ 31 := by omega
  refine qCT_of rfl (by decide) (Nat.le_of_ble_eq_true rfl) ?_
  show Vq l b id D m_M_heirs false 85 kT _ 85 kT _ 85 kT 0 0 0 [(0, .ref (b + 67)), (1, .int x)] [] g
  refine vq_aload_n d_M_heirs_0 rfl ?_
  refine vq_aload_n d_M_heirs_1 rfl ?_
  refine vq_iload_n d_M_heirs_2 rfl ?_
  refine vq_callV (n := 1) (C := R_M) (T := T_M) _ _ d_M_heirs_3 (ct_M_unsettled l b id D hW hm x) w_778 w_780 sel_M_unsettled w_781 w_7 rfl ⟨by decide, by decide, by decide +kernel⟩ ⟨by decide, by decide⟩ (by decide) rfl rfl rfl rfl (Nat.le_of_ble_eq_true rfl) rfl rfl rfl ⟨by decide, by decide⟩ (fun _ _ h => h.elim) (fun v3 g3 h3 => ?_)
  rw [h3.1, h3.2]
  refine vq_putI (k := 0) (C := R_M) (T := T_M) (ty := .int) t_M d_M_heirs_6 rfl in_M w_655 ty_M nm_M (by decide) rfl (by decide) rfl (by decide +kernel) rfl rfl rfl ?_
  refine vq_aload_n d_M_heirs_9 rfl ?_
  refine vq_getI (k := 0) (C := R_M) (T := T_M) d_M_heirs_10 rfl in_M w_655 (by decide) rfl (by decide) rfl ?_
  refine vq_int (y := nI (k_dead F x)) rfl ?_
  refine vq_if_le (tgt := 18) d_M_heirs_13 (by decide) (fun h13 => ?_) (fun h13 => ?_)
  · rw [nI_n0 (by have := k_dead_le F x; omega)] at h13
    have hk0 := h13
    obtain ⟨hx, u, hu⟩ := k_dead_0 hk0
    obtain ⟨p, hp, rfl⟩ := zok_p hx
    have hz : zi (nI p) = p := zi_nI (by omega)
    rw [hz] at hu
    refine vq_aload_n d_M_heirs_18 rfl ?_
    refine vq_iload_n d_M_heirs_19 rfl ?_
    refine vq_callV (n := 1) (C := R_M) (T := T_M) _ _ d_M_heirs_20 (ct_M_divide l b id D hW (hm.thr (nI (k_dead F (nI p)))) hp hu) w_782 w_784 sel_M_divide w_785 w_7 rfl ⟨by decide, by decide, by decide +kernel⟩ ⟨by decide, by decide⟩ (by decide) rfl rfl rfl rfl (Nat.le_of_ble_eq_true rfl) rfl rfl rfl ⟨by decide, by decide⟩ (fun _ _ h => h.elim) (fun v20 g20 h20 => ?_)
    obtain ⟨e120, a1, a2, a3, a4⟩ := h20
    rw [e120]
    have hm20 := a4.hm (hm.thr _)
    have hpr := zpr_lt (F := F) (e := p) hn
    have hS : ∀ i, i < zn F → g20.2 79 i = lN (zsh F p 1 i) ∧ zsh F p 1 i < 2 ^ 63 := fun i hi => ⟨a3 i hi, by have := zsh_lt hW hp hi; omega⟩
    have loop : ∀ (n9 : Nat) (i : Nat), zn F - i = n9 → i ≤ zn F → Vq l b id D m_M_heirs false 85 kT (mP (k_dead F (nI p)) (some (.int (nI (zcn (zsh F (zi (nI p)) 1) (zn F))))) (some (.int 0)) g F k) 85 kT (fun _ _ => False) 85 kT 0 0 27 [(3, .int (nI i)), (2, .int (nI (zcn (zsh F p 1) i))), (0, .ref (b + 67)), (1, .int (nI p))] [] g20 := by
      intro n9
      induction n9 using Nat.strongRecOn with
      | ind n9 ih =>
      intro i hm9 hle
      refine vq_iload_n d_M_heirs_27 rfl ?_
      refine vq_aload_n d_M_heirs_28 rfl ?_
      refine vq_getI (k := 1) (C := R_M) (T := T_M) d_M_heirs_29 rfl in_M w_656 (by decide) rfl (by decide) rfl ?_
      refine vq_int (y := nI (zn F)) hm20.1 ?_
      refine vq_icmp_ge (tgt := 60) d_M_heirs_32 (by decide) (fun h32 => ?_) (fun h32 => ?_)
      · have hi : i = zn F := by
          rw [nI_leI (by omega) (by omega)] at h32
          omega
        subst hi
        refine vq_iload_n d_M_heirs_60 rfl ?_
        refine vq_iret d_M_heirs_61 rfl (by decide) (by decide) rfl rfl ?_
        exact a4.m hm hl hk0 (by rw [hz])
      · have hi : i < zn F := by
          rw [nI_leI (by omega) (by omega)] at h32
          omega
        refine vq_aload_n d_M_heirs_35 rfl ?_
        refine vq_getR (k := 14) (C := R_M) (T := T_M) d_M_heirs_36 rfl in_M w_669 (by decide) rfl (by decide) rfl rfl ?_
        refine vq_iload_n d_M_heirs_39 rfl ?_
        refine vq_lald d_M_heirs_40 (by decide) rfl rfl (show _ < 20 by omega) ?_
        refine vq_long (y := lN (zsh F p 1 i)) (hS i hi).1 ?_
        refine vq_lconst (v := 0) d_M_heirs_41 rfl ?_
        refine vq_lcmp d_M_heirs_42 ?_
        refine vq_if_le (tgt := 52) d_M_heirs_43 (by decide) (fun h43 => ?_) (fun h43 => ?_)
        · rw [lpos (hS i hi).2] at h43
          have hcn : zcn (zsh F p 1) (i + 1) = zcn (zsh F p 1) i := by show zcn (zsh F p 1) i + (if 0 < zsh F p 1 i then 1 else 0) = _; rw [if_neg (by omega), Nat.add_zero]
          refine vq_iload_n d_M_heirs_52 rfl ?_
          refine vq_istore_n (lv' := [(2, _), (3, _), (0, _), (1, _)]) d_M_heirs_53 (by decide) rfl ?_
          refine vq_iinc (k := 1) (lv' := [(3, _), (2, _), (0, _), (1, _)]) d_M_heirs_54 rfl (ip1 i) (by decide) rfl ?_
          refine vq_goto (tgt := 27) d_M_heirs_57 (by decide) ?_
          rw [← hcn]
          exact ih (zn F - (i + 1)) (by omega) (i + 1) rfl (by omega)
        · rw [lpos (hS i hi).2] at h43
          have hcn : zcn (zsh F p 1) (i + 1) = zcn (zsh F p 1) i + 1 := by show zcn (zsh F p 1) i + (if 0 < zsh F p 1 i then 1 else 0) = _; rw [if_pos (by omega)]
          refine vq_iload_n d_M_heirs_46 rfl ?_
          refine vq_iconst (v := 1) d_M_heirs_47 (by decide) ?_
          refine vq_iadd d_M_heirs_48 ?_
          rw [show nI (zcn (zsh F p 1) i) + 1 = nI (zcn (zsh F p 1) i + 1) from nI_1 _]
          refine vq_goto (tgt := 53) d_M_heirs_49 (by decide) ?_
          refine vq_istore_n (lv' := [(2, _), (3, _), (0, _), (1, _)]) d_M_heirs_53 (by decide) rfl ?_
          refine vq_iinc (k := 1) (lv' := [(3, _), (2, _), (0, _), (1, _)]) d_M_heirs_54 rfl (ip1 i) (by decide) rfl ?_
          refine vq_goto (tgt := 27) d_M_heirs_57 (by decide) ?_
          rw [← hcn]
          exact ih (zn F - (i + 1)) (by omega) (i + 1) rfl (by omega)
    refine vq_iconst (v := 0) d_M_heirs_23 (by decide) ?_
    refine vq_istore_n (lv' := [(2, _), (0, _), (1, _)]) d_M_heirs_24 (by decide) rfl ?_
    refine vq_iconst (v := 0) d_M_heirs_25 (by decide) ?_
    refine vq_istore_n (lv' := [(3, _), (2, _), (0, _), (1, _)]) d_M_heirs_26 (by decide) rfl ?_
    exact loop (zn F) 0 rfl (by omega)
  · rw [nI_n0 (by have := k_dead_le F x; omega)] at h13
    refine vq_iconst (v := 0) d_M_heirs_16 (by decide) ?_
    refine vq_iret d_M_heirs_17 rfl (by decide) (by decide) rfl rfl ?_
    exact ⟨by rw [if_neg h13], rfl, hm.thr _, hl, Dn.thr _⟩
set_option maxRecDepth 100000 in
set_option maxHeartbeats 4000000 in
theorem ct_M_heir (l : Launch) (b : Nat) (id : Nat → ClassId) (D : va_G) {g : Sg} {F : Fam} (hV : zV F) (hm : Hm g F) {k : Lg} (hl : Hn g k) (x y : Int32) : qCT l b id D m_M_heir false [.ref (b + 67), .int x, .int y] 85 kT g 85 kT (mP (k_dead F x) (some (.int (eO (ztk (zsh F (zi x) 1) (zn F) y)))) (some (.int 0)) g F k) (fun _ _ => False) := by
  have hW := hV.1
  have hn := hW.1
  have h31 : zn F < 2 ^ 31 := by omega
  refine qCT_of rfl (by decide) (Nat.le_of_ble_eq_true rfl) ?_
  show Vq l b id D m_M_heir false 85 kT _ 85 kT _ 85 kT 0 0 0 [(0, .ref (b + 67)), (1, .int x), (2, .int y)] [] g
  refine vq_aload_n d_M_heir_0 rfl ?_
  refine vq_aload_n d_M_heir_1 rfl ?_
  refine vq_iload_n d_M_heir_2 rfl ?_
  refine vq_callV (n := 1) (C := R_M) (T := T_M) _ _ d_M_heir_3 (ct_M_unsettled l b id D hW hm x) w_778 w_780 sel_M_unsettled w_781 w_7 rfl ⟨by decide, by decide, by decide +kernel⟩ ⟨by decide, by decide⟩ (by decide) rfl rfl rfl rfl (Nat.le_of_ble_eq_true rfl) rfl rfl rfl ⟨by decide, by decide⟩ (fun _ _ h => h.elim) (fun v3 g3 h3 => ?_)
  rw [h3.1, h3.2]
  refine vq_putI (k := 0) (C := R_M) (T := T_M) (ty := .int) t_M d_M_heir_6 rfl in_M w_655 ty_M nm_M (by decide) rfl (by decide) rfl (by decide +kernel) rfl rfl rfl ?_
  refine vq_aload_n d_M_heir_9 rfl ?_
  refine vq_getI (k := 0) (C := R_M) (T := T_M) d_M_heir_10 rfl in_M w_655 (by decide) rfl (by decide) rfl ?_
  refine vq_int (y := nI (k_dead F x)) rfl ?_
  refine vq_if_le (tgt := 18) d_M_heir_13 (by decide) (fun h13 => ?_) (fun h13 => ?_)
  · rw [nI_n0 (by have := k_dead_le F x; omega)] at h13
    have hk0 := h13
    obtain ⟨hx, u, hu⟩ := k_dead_0 hk0
    obtain ⟨p, hp, rfl⟩ := zok_p hx
    have hz : zi (nI p) = p := zi_nI (by omega)
    rw [hz] at hu
    refine vq_aload_n d_M_heir_18 rfl ?_
    refine vq_iload_n d_M_heir_19 rfl ?_
    refine vq_callV (n := 1) (C := R_M) (T := T_M) _ _ d_M_heir_20 (ct_M_divide l b id D hW (hm.thr (nI (k_dead F (nI p)))) hp hu) w_782 w_784 sel_M_divide w_785 w_7 rfl ⟨by decide, by decide, by decide +kernel⟩ ⟨by decide, by decide⟩ (by decide) rfl rfl rfl rfl (Nat.le_of_ble_eq_true rfl) rfl rfl rfl ⟨by decide, by decide⟩ (fun _ _ h => h.elim) (fun v20 g20 h20 => ?_)
    obtain ⟨e120, a1, a2, a3, a4⟩ := h20
    rw [e120]
    have hm20 := a4.hm (hm.thr _)
    have hpr := zpr_lt (F := F) (e := p) hn
    have hS : ∀ i, i < zn F → g20.2 79 i = lN (zsh F p 1 i) ∧ zsh F p 1 i < 2 ^ 63 := fun i hi => ⟨a3 i hi, by have := zsh_lt hW hp hi; omega⟩
    obtain ⟨S, hSd⟩ : ∃ S, S = zsh F p 1 := ⟨_, rfl⟩
    rw [← hSd] at hS
    have loop : ∀ (n9 : Nat) (i : Nat), zn F - i = n9 → (i ≤ zn F ∧ ztk S i y = none) → Vq l b id D m_M_heir false 85 kT (mP (k_dead F (nI p)) (some (.int (eO (ztk (zsh F (zi (nI p)) 1) (zn F) y)))) (some (.int 0)) g F k) 85 kT (fun _ _ => False) 85 kT 0 0 28 [(4, .int (nI i)), (3, .int (y - nI (zcn S i))), (0, .ref (b + 67)), (1, .int (nI p)), (2, .int y)] [] g20 := by
      intro n9
      induction n9 using Nat.strongRecOn with
      | ind n9 ih =>
      intro i hm9 hI
      have hle := hI.1
      refine vq_iload d_M_heir_28 rfl ?_
      refine vq_aload_n d_M_heir_30 rfl ?_
      refine vq_getI (k := 1) (C := R_M) (T := T_M) d_M_heir_31 rfl in_M w_656 (by decide) rfl (by decide) rfl ?_
      refine vq_int (y := nI (zn F)) hm20.1 ?_
      refine vq_icmp_ge (tgt := 65) d_M_heir_34 (by decide) (fun h34 => ?_) (fun h34 => ?_)
      · have hi : i = zn F := by
          rw [nI_leI (by omega) (by omega)] at h34
          omega
        subst hi
        refine vq_iconst (v := -1) d_M_heir_65 (by decide) ?_
        refine vq_iret d_M_heir_66 rfl (by decide) (by decide) rfl rfl ?_
        refine a4.m hm hl hk0 ?_
        rw [hz, ← hSd, hI.2]; rfl
      · have hi : i < zn F := by
          rw [nI_leI (by omega) (by omega)] at h34
          omega
        refine vq_aload_n d_M_heir_37 rfl ?_
        refine vq_getR (k := 14) (C := R_M) (T := T_M) d_M_heir_38 rfl in_M w_669 (by decide) rfl (by decide) rfl rfl ?_
        refine vq_iload d_M_heir_41 rfl ?_
        refine vq_lald d_M_heir_43 (by decide) rfl rfl (show _ < 20 by omega) ?_
        refine vq_long (y := lN (S i)) (hS i hi).1 ?_
        refine vq_lconst (v := 0) d_M_heir_44 rfl ?_
        refine vq_lcmp d_M_heir_45 ?_
        refine vq_if_le (tgt := 59) d_M_heir_46 (by decide) (fun h46 => ?_) (fun h46 => ?_)
        · rw [lpos (hS i hi).2] at h46
          have hcn : zcn S (i + 1) = zcn S i := by show zcn S i + (if 0 < S i then 1 else 0) = _; rw [if_neg (by omega), Nat.add_zero]
          have hno2 : ztk S (i + 1) y = none := zfst_none hI.2 (by simp [h46])
          refine vq_iinc (k := 0) (lv' := [(4, _), (3, _), (0, _), (1, _), (2, _)]) d_M_heir_59 rfl (ip1 i) (by decide) rfl ?_
          refine vq_goto (tgt := 28) d_M_heir_62 (by decide) ?_
          rw [← hcn]
          exact ih (zn F - (i + 1)) (by omega) (i + 1) rfl ⟨by omega, hno2⟩
        · rw [lpos (hS i hi).2] at h46
          have hcn : zcn S (i + 1) = zcn S i + 1 := by show zcn S i + (if 0 < S i then 1 else 0) = _; rw [if_pos (by omega)]
          refine vq_iload_n d_M_heir_49 rfl ?_
          refine vq_if_ne (tgt := 56) d_M_heir_50 (by decide) (fun h50 => ?_) (fun h50 => ?_)
          · have hno2 : ztk S (i + 1) y = none := zfst_none hI.2 (by have h51 : ¬ nI (zcn S i) = y := fun h => h50 (by rw [h, Int32.sub_self]); simp [h51])
            refine vq_iinc (k := 1) (lv' := [(3, _), (4, _), (0, _), (1, _), (2, _)]) d_M_heir_56 rfl (show _ = y - nI (zcn S i + 1) by rw [im1, ← nI_1]; simp only [Int32.sub_eq_add_neg, Int32.neg_add, Int32.add_assoc]) (by decide) rfl ?_
            refine vq_iinc (k := 1) (lv' := [(4, _), (3, _), (0, _), (1, _), (2, _)]) d_M_heir_59 rfl (ip1 i) (by decide) rfl ?_
            refine vq_goto (tgt := 28) d_M_heir_62 (by decide) ?_
            rw [← hcn]
            exact ih (zn F - (i + 1)) (by omega) (i + 1) rfl ⟨by omega, hno2⟩
          · have h51 : nI (zcn S i) = y := (i32_sub0 h50).symm
            refine vq_iload d_M_heir_53 rfl ?_
            refine vq_iret d_M_heir_55 rfl (by decide) (by decide) rfl rfl ?_
            have h9 := zfst_on (zfst_some hI.2 (by simp [h51]; omega)) (zn F - (i + 1))
            rw [show i + 1 + (zn F - (i + 1)) = zn F by omega] at h9
            refine a4.m hm hl hk0 ?_
            rw [hz, ← hSd]
            unfold ztk
            rw [h9]; rfl
    refine vq_iload_n d_M_heir_23 rfl ?_
    refine vq_istore_n (lv' := [(3, _), (0, _), (1, _), (2, _)]) d_M_heir_24 (by decide) rfl ?_
    refine vq_iconst (v := 0) d_M_heir_25 (by decide) ?_
    refine vq_istore (lv' := [(4, _), (3, _), (0, _), (1, _), (2, _)]) d_M_heir_26 (by decide) rfl ?_
    have h9 := loop (zn F) 0 rfl ⟨by omega, rfl⟩
    rw [show y - nI (zcn S 0) = y from Int32.sub_zero y] at h9
    exact h9
  · rw [nI_n0 (by have := k_dead_le F x; omega)] at h13
    refine vq_iconst (v := 0) d_M_heir_16 (by decide) ?_
    refine vq_iret d_M_heir_17 rfl (by decide) (by decide) rfl rfl ?_
    exact ⟨by rw [if_neg h13], rfl, hm.thr _, hl, Dn.thr _⟩
set_option maxRecDepth 100000 in
set_option maxHeartbeats 4000000 in
theorem ct_M_divisor (l : Launch) (b : Nat) (id : Nat → ClassId) (D : va_G) {g : Sg} {p q : Nat} (hp : p < 2 ^ 62) (hq : q < 2 ^ 62) : qCT l b id D m_M_divisor false [.long (lN p), .long (lN q)] 85 kT g 85 kT (fun v' g' => v' = some (.long (lN (Nat.gcd p q))) ∧ g' = g) (fun _ _ => False) := by
  refine qCT_of rfl (by decide) (Nat.le_of_ble_eq_true rfl) ?_
  show Vq l b id D m_M_divisor false 85 kT _ 85 kT _ 85 kT 0 0 0 [(0, .long (lN p)), (2, .long (lN q))] [] g
  have loop : ∀ (n9 : Nat) (x y : Nat), y = n9 → (Nat.gcd x y = Nat.gcd p q ∧ x < 2 ^ 62 ∧ y < 2 ^ 62) → Vq l b id D m_M_divisor false 85 kT (fun v' g' => v' = some (.long (lN (Nat.gcd p q))) ∧ g' = g) 85 kT (fun _ _ => False) 85 kT 0 0 6 [(6, .long (lN y)), (4, .long (lN x)), (0, .long (lN p)), (2, .long (lN q))] [] g := by
    intro n9
    induction n9 using Nat.strongRecOn with
    | ind n9 ih =>
    intro x y hm9 hI
    have hx62 := hI.2.1
    have hy62 := hI.2.2
    refine vq_lload d_M_divisor_6 rfl ?_
    refine vq_lconst (v := 0) d_M_divisor_8 rfl ?_
    refine vq_lcmp d_M_divisor_9 ?_
    refine vq_if_eq (tgt := 31) d_M_divisor_10 (by decide) (fun h10 => ?_) (fun h10 => ?_)
    · rw [lcz (by omega)] at h10
      refine vq_lload d_M_divisor_31 rfl ?_
      refine vq_lret d_M_divisor_33 rfl (by decide) (by decide) rfl rfl ?_
      refine ⟨?_, rfl⟩
      have h9 := hI.1
      rw [h10, Nat.gcd_zero_right] at h9
      rw [h9]
    · rw [lcz (by omega)] at h10
      refine vq_lload d_M_divisor_13 rfl ?_
      refine vq_lload d_M_divisor_15 rfl ?_
      refine vq_lrem d_M_divisor_17 (lN_ne0 (by omega) (by omega)) ?_
      rw [pk_lRem (by omega) (by omega) (by omega)]
      refine vq_lstore (lv' := [(8, _), (6, _), (4, _), (0, _), (2, _)]) d_M_divisor_18 (by decide) rfl ?_
      refine vq_lload d_M_divisor_20 rfl ?_
      refine vq_lstore (lv' := [(4, _), (8, _), (6, _), (0, _), (2, _)]) d_M_divisor_22 (by decide) rfl ?_
      refine vq_lload d_M_divisor_24 rfl ?_
      refine vq_lstore (lv' := [(6, _), (4, _), (8, _), (0, _), (2, _)]) d_M_divisor_26 (by decide) rfl ?_
      refine vq_goto (tgt := 6) d_M_divisor_28 (by decide) ?_
      refine vq_pk [0, 1, 3, 4] (lv' := [(6, _), (4, _), (0, _), (2, _)]) rfl ?_
      have hr := Nat.mod_lt x (show 0 < y by omega)
      exact ih (x % y) (by omega) y (x % y) rfl ⟨by rw [← hI.1, Nat.gcd_comm x y, Nat.gcd_rec y x, Nat.gcd_comm], by omega, by omega⟩
  refine vq_lload_n d_M_divisor_0 rfl ?_
  refine vq_lstore (lv' := [(4, _), (0, _), (2, _)]) d_M_divisor_1 (by decide) rfl ?_
  refine vq_lload_n d_M_divisor_3 rfl ?_
  refine vq_lstore (lv' := [(6, _), (4, _), (0, _), (2, _)]) d_M_divisor_4 (by decide) rfl ?_
  exact loop q p q rfl ⟨rfl, hp, hq⟩
set_option maxRecDepth 100000 in
set_option maxHeartbeats 4000000 in
theorem ct_M_share (l : Launch) (b : Nat) (id : Nat → ClassId) (D : va_G) {g : Sg} {F : Fam} (hV : zV F) (hm : Hm g F) {k : Lg} (hl : Hn g k) (x y : Int32) : qCT l b id D m_M_share false [.ref (b + 67), .int x, .int y] 85 kT g 85 kT (mP (k_dead2 F x y) (some (.long (zfr (zsh F (zi x) 1 (zi y)) (4 * (8 * zpr F (zi x)))))) (some (.long 0)) g F k) (fun _ _ => False) := by
  have hW := hV.1
  have hn := hW.1
  have h31 : zn F < 2 ^ 31 := by omega
  refine qCT_of rfl (by decide) (Nat.le_of_ble_eq_true rfl) ?_
  show Vq l b id D m_M_share false 85 kT _ 85 kT _ 85 kT 0 0 0 [(0, .ref (b + 67)), (1, .int x), (2, .int y)] [] g
  refine vq_aload_n d_M_share_0 rfl ?_
  refine vq_aload_n d_M_share_1 rfl ?_
  refine vq_iload_n d_M_share_2 rfl ?_
  refine vq_callV (n := 1) (C := R_M) (T := T_M) _ _ d_M_share_3 (ct_M_no l b id D hn hm x) w_733 w_735 sel_M_no w_736 w_7 rfl ⟨by decide, by decide, by decide +kernel⟩ ⟨by decide, by decide⟩ (by decide) rfl rfl rfl rfl (Nat.le_of_ble_eq_true rfl) rfl rfl rfl ⟨by decide, by decide⟩ (fun _ _ h => h.elim) (fun v3 g3 h3 => ?_)
  rw [h3.1, h3.2]
  refine vq_if_ne (tgt := 17) d_M_share_6 (by decide) (fun h6 => ?_) (fun h6 => ?_)
  · rw [bI_n0, no_t, ← zok_u] at h6
    have hk : k_dead2 F x y = 1 := by unfold k_dead2; rw [if_neg (fun hh => h6 hh.1)]
    refine vq_iconst (v := 1) d_M_share_17 (by decide) ?_
    refine vq_goto (tgt := 35) d_M_share_18 (by decide) ?_
    refine vq_putI (k := 0) (C := R_M) (T := T_M) (ty := .int) t_M d_M_share_35 rfl in_M w_655 ty_M nm_M (by decide) rfl (by decide) rfl (by decide +kernel) rfl rfl rfl ?_
    refine vq_aload_n d_M_share_38 rfl ?_
    refine vq_getI (k := 0) (C := R_M) (T := T_M) d_M_share_39 rfl in_M w_655 (by decide) rfl (by decide) rfl ?_
    refine vq_int (y := 1) rfl ?_
    refine vq_if_le (tgt := 47) d_M_share_42 (by decide) (fun h42 => absurd h42 (by decide)) (fun h42 => ?_)
    refine vq_lconst (v := 0) d_M_share_45 rfl ?_
    refine vq_lret d_M_share_46 rfl (by decide) (by decide) rfl rfl ?_
    rw [hk]
    exact ⟨rfl, rfl, hm.thr _, hl, Dn.thr _⟩
  · rw [bI_0, no_f, ← zok_u] at h6
    refine vq_aload_n d_M_share_9 rfl ?_
    refine vq_iload_n d_M_share_10 rfl ?_
    refine vq_callV (n := 1) (C := R_M) (T := T_M) _ _ d_M_share_11 (ct_M_no l b id D hn hm y) w_733 w_735 sel_M_no w_736 w_7 rfl ⟨by decide, by decide, by decide +kernel⟩ ⟨by decide, by decide⟩ (by decide) rfl rfl rfl rfl (Nat.le_of_ble_eq_true rfl) rfl rfl rfl ⟨by decide, by decide⟩ (fun _ _ h => h.elim) (fun v11 g11 h11 => ?_)
    rw [h11.1, h11.2]
    refine vq_if_eq (tgt := 21) d_M_share_14 (by decide) (fun h14 => ?_) (fun h14 => ?_)
    · rw [bI_0, no_f, ← zok_u] at h14
      obtain ⟨p, hp, rfl⟩ := zok_p h6
      have hzp : zi (nI p) = p := zi_nI (by omega)
      obtain ⟨r, hr, rfl⟩ := zok_p h14
      have hzr : zi (nI r) = r := zi_nI (by omega)
      refine vq_aload_n d_M_share_21 rfl ?_
      refine vq_getR (k := 5) (C := R_M) (T := T_M) d_M_share_22 rfl in_M w_660 (by decide) rfl (by decide) rfl rfl ?_
      refine vq_iload_n d_M_share_25 rfl ?_
      refine vq_iald d_M_share_26 (by decide) rfl rfl (show _ < 20 by omega) ?_
      refine vq_int (y := eO (zd F p)) (hm.2.2.2.2.1 p hp) ?_
      refine vq_if_ge (tgt := 34) d_M_share_27 (by decide) (fun h27 => ?_) (fun h27 => ?_)
      · rw [eO_nn (zd_lt hW hp)] at h27
        obtain ⟨u, hu⟩ := Option.ne_none_iff_exists'.mp h27
        have hk : k_dead2 F (nI p) (nI r) = 0 := by unfold k_dead2; rw [if_pos ⟨h6, h14⟩, hzp, hu]; rfl
        refine vq_iconst (v := 0) d_M_share_34 (by decide) ?_
        refine vq_putI (k := 0) (C := R_M) (T := T_M) (ty := .int) t_M d_M_share_35 rfl in_M w_655 ty_M nm_M (by decide) rfl (by decide) rfl (by decide +kernel) rfl rfl rfl ?_
        refine vq_aload_n d_M_share_38 rfl ?_
        refine vq_getI (k := 0) (C := R_M) (T := T_M) d_M_share_39 rfl in_M w_655 (by decide) rfl (by decide) rfl ?_
        refine vq_int (y := 0) rfl ?_
        refine vq_if_le (tgt := 47) d_M_share_42 (by decide) (fun h42 => ?_) (fun h42 => absurd h42 (by decide))
        refine vq_aload_n d_M_share_47 rfl ?_
        refine vq_iload_n d_M_share_48 rfl ?_
        refine vq_callV (n := 1) (C := R_M) (T := T_M) _ _ d_M_share_49 (ct_M_divide l b id D hW (hm.thr 0) hp hu) w_782 w_784 sel_M_divide w_785 w_7 rfl ⟨by decide, by decide, by decide +kernel⟩ ⟨by decide, by decide⟩ (by decide) rfl rfl rfl rfl (Nat.le_of_ble_eq_true rfl) rfl rfl rfl ⟨by decide, by decide⟩ (fun _ _ h => h.elim) (fun v49 g49 h49 => ?_)
        obtain ⟨e149, a1, a2, a3, a4⟩ := h49
        rw [e149]
        obtain ⟨s, hs⟩ : ∃ s, s = zsh F p 1 r := ⟨_, rfl⟩
        obtain ⟨d, hd⟩ : ∃ d, d = 4 * (8 * zpr F p) := ⟨_, rfl⟩
        have hpr := zpr_lt (F := F) (e := p) hn
        have hs40 : s < 2 ^ 40 := by have := zsh_lt hW hp hr; omega
        have hd40 : d < 2 ^ 40 := by omega
        refine vq_aload_n d_M_share_52 rfl ?_
        refine vq_getR (k := 14) (C := R_M) (T := T_M) d_M_share_53 rfl in_M w_669 (by decide) rfl (by decide) rfl rfl ?_
        refine vq_iload_n d_M_share_56 rfl ?_
        refine vq_lald d_M_share_57 (by decide) rfl rfl (show _ < 20 by omega) ?_
        refine vq_long (y := lN s) (by rw [hs]; exact a3 r hr) ?_
        refine vq_lconst (v := 0) d_M_share_58 rfl ?_
        refine vq_lcmp d_M_share_59 ?_
        refine vq_if_ne (tgt := 65) d_M_share_60 (by decide) (fun h60 => ?_) (fun h60 => ?_)
        · rw [lcz (by omega)] at h60
          refine vq_aload_n d_M_share_65 rfl ?_
          refine vq_getR (k := 14) (C := R_M) (T := T_M) d_M_share_66 rfl in_M w_669 (by decide) rfl (by decide) rfl rfl ?_
          refine vq_iload_n d_M_share_69 rfl ?_
          refine vq_lald d_M_share_70 (by decide) rfl rfl (show _ < 20 by omega) ?_
          refine vq_long (y := lN s) (by rw [hs]; exact a3 r hr) ?_
          refine vq_aload_n d_M_share_71 rfl ?_
          refine vq_getJ (k := 16) (C := R_M) (T := T_M) d_M_share_72 rfl in_M w_671 (by decide) rfl (by decide) rfl ?_
          refine vq_long (y := lN d) (by rw [hd]; exact a2) ?_
          refine vq_callS (n := 2) _ _ d_M_share_75 (ct_M_divisor l b id D (p := s) (q := d) (by omega) (by omega)) w_821 w_822 w_823 w_7 rfl ⟨by decide, by decide, by decide +kernel⟩ ⟨by decide, by decide⟩ rfl rfl (Nat.le_of_ble_eq_true rfl) rfl rfl rfl ⟨by decide, by decide⟩ (fun _ _ h => h.elim) (fun v75 g75 h75 => ?_)
          rw [h75.1, h75.2]
          have hg0 : 0 < Nat.gcd s d := Nat.gcd_pos_of_pos_left d (by omega)
          have hg63 : Nat.gcd s d < 2 ^ 63 := Nat.lt_of_le_of_lt (Nat.gcd_le_left d (by omega)) (by omega)
          refine vq_lstore_n (lv' := [(3, _), (0, _), (1, _), (2, _)]) d_M_share_78 (by decide) rfl ?_
          refine vq_aload_n d_M_share_79 rfl ?_
          refine vq_getR (k := 14) (C := R_M) (T := T_M) d_M_share_80 rfl in_M w_669 (by decide) rfl (by decide) rfl rfl ?_
          refine vq_iload_n d_M_share_83 rfl ?_
          refine vq_lald d_M_share_84 (by decide) rfl rfl (show _ < 20 by omega) ?_
          refine vq_long (y := lN s) (by rw [hs]; exact a3 r hr) ?_
          refine vq_lload_n d_M_share_85 rfl ?_
          refine vq_ldiv d_M_share_86 (lN_ne0 hg0 hg63) ?_
          rw [pk_lDiv (by omega) hg0 hg63]
          refine vq_bipush (v := 32) d_M_share_87 (by decide) ?_
          refine vq_lshl d_M_share_89 rfl ?_
          refine vq_aload_n d_M_share_90 rfl ?_
          refine vq_getJ (k := 16) (C := R_M) (T := T_M) d_M_share_91 rfl in_M w_671 (by decide) rfl (by decide) rfl ?_
          refine vq_long (y := lN d) (by rw [hd]; exact a2) ?_
          refine vq_lload_n d_M_share_94 rfl ?_
          refine vq_ldiv d_M_share_95 (lN_ne0 hg0 hg63) ?_
          rw [pk_lDiv (by omega) hg0 hg63]
          refine vq_lor d_M_share_96 ?_
          refine vq_lret d_M_share_97 rfl (by decide) (by decide) rfl rfl ?_
          refine FrE.m (C := k_dead2 F (nI p) (nI r)) (by rw [hk]; exact a4) hm hl hk ?_
          rw [hzp, hzr, ← hs, ← hd]
          unfold zfr
          rw [if_neg h60]
        · rw [lcz (by omega)] at h60
          refine vq_lconst (v := 0) d_M_share_63 rfl ?_
          refine vq_lret d_M_share_64 rfl (by decide) (by decide) rfl rfl ?_
          refine FrE.m (C := k_dead2 F (nI p) (nI r)) (by rw [hk]; exact a4) hm hl hk ?_
          rw [hzp, hzr, ← hs, ← hd]
          unfold zfr
          rw [if_pos h60]
      · rw [eO_nn (zd_lt hW hp)] at h27
        have hk : k_dead2 F (nI p) (nI r) = 2 := by unfold k_dead2; rw [if_pos ⟨h6, h14⟩, hzp, Decidable.not_not.mp h27]; rfl
        refine vq_iconst (v := 2) d_M_share_30 (by decide) ?_
        refine vq_goto (tgt := 35) d_M_share_31 (by decide) ?_
        refine vq_putI (k := 0) (C := R_M) (T := T_M) (ty := .int) t_M d_M_share_35 rfl in_M w_655 ty_M nm_M (by decide) rfl (by decide) rfl (by decide +kernel) rfl rfl rfl ?_
        refine vq_aload_n d_M_share_38 rfl ?_
        refine vq_getI (k := 0) (C := R_M) (T := T_M) d_M_share_39 rfl in_M w_655 (by decide) rfl (by decide) rfl ?_
        refine vq_int (y := 2) rfl ?_
        refine vq_if_le (tgt := 47) d_M_share_42 (by decide) (fun h42 => absurd h42 (by decide)) (fun h42 => ?_)
        refine vq_lconst (v := 0) d_M_share_45 rfl ?_
        refine vq_lret d_M_share_46 rfl (by decide) (by decide) rfl rfl ?_
        rw [hk]
        exact ⟨rfl, rfl, hm.thr _, hl, Dn.thr _⟩
    · rw [bI_n0, no_t, ← zok_u] at h14
      have hk : k_dead2 F x y = 1 := by unfold k_dead2; rw [if_neg (fun hh => h14 hh.2)]
      refine vq_iconst (v := 1) d_M_share_17 (by decide) ?_
      refine vq_goto (tgt := 35) d_M_share_18 (by decide) ?_
      refine vq_putI (k := 0) (C := R_M) (T := T_M) (ty := .int) t_M d_M_share_35 rfl in_M w_655 ty_M nm_M (by decide) rfl (by decide) rfl (by decide +kernel) rfl rfl rfl ?_
      refine vq_aload_n d_M_share_38 rfl ?_
      refine vq_getI (k := 0) (C := R_M) (T := T_M) d_M_share_39 rfl in_M w_655 (by decide) rfl (by decide) rfl ?_
      refine vq_int (y := 1) rfl ?_
      refine vq_if_le (tgt := 47) d_M_share_42 (by decide) (fun h42 => absurd h42 (by decide)) (fun h42 => ?_)
      refine vq_lconst (v := 0) d_M_share_45 rfl ?_
      refine vq_lret d_M_share_46 rfl (by decide) (by decide) rfl rfl ?_
      rw [hk]
      exact ⟨rfl, rfl, hm.thr _, hl, Dn.thr _⟩
