/-! the reference's answers of an estate. Laid by wip/whole/specs/p45.py -/
def FrE (g g1 : Sg) : Prop := (∀ q, q ≠ 67 → q ≠ 75 → q ≠ 76 → q ≠ 77 → g1.1 q = g.1 q) ∧ (∀ k, k < 9 → g1.1 67 k = g.1 67 k) ∧ (∀ q, q ≠ 67 → q ≠ 78 → q ≠ 79 → g1.2 q = g.2 q)
theorem FrE.hm {g g1 : Sg} {F : Fam} (h : FrE g g1) (hm : Hm g F) : Hm g1 F := hm.congr (h.2.1 1 (by decide)) (fun q h1 h2 => h.1 q (by omega) (by omega) (by omega) (by omega))
theorem FrE.hn {g g1 : Sg} {k : Lg} (h : FrE g g1) (hl : Hn g k) : Hn g1 k := hl.congr (fun q h1 h2 => h.2.2 q (by omega) (by omega) (by omega))
theorem FrE.dn {g g1 : Sg} (h : FrE g g1) : Dn g g1 := fun q hq => ⟨h.1 q (by omega) (by omega) (by omega) (by omega), h.2.2 q (by omega) (by omega) (by omega)⟩
theorem FrL.e {g g1 : Sg} (h : FrL g g1) : FrE g g1 := ⟨h.1, h.2.1, fun q a _ _ => h.2.2 q a⟩
theorem FrE.go {g g1 g2 : Sg} (h : FrE g g1) (h1 : g2.1 = g1.1) (h2 : ∀ q, q ≠ 67 → q ≠ 78 → q ≠ 79 → g2.2 q = g1.2 q) : FrE g g2 :=
  ⟨fun q a c d e => by rw [h1]; exact h.1 q a c d e, fun k hk => by rw [h1]; exact h.2.1 k hk, fun q a c d => (h2 q a c d).trans (h.2.2 q a c d)⟩
theorem LM.row {g : Sg} {F : Fam} {e : Nat} (h : LM g F e) : (∀ p, p < zn F → g.1 75 p = bI (zl F e p)) ∧ (∀ p, p < zn F → g.1 76 p = nI (zB F e p)) ∧ (∀ p, p < zn F → g.1 77 p = bI (zX F e p)) :=
  ⟨h.2.2.2.2.1, h.2.2.2.2.2.1, fun p hp => by have := h.2.2.2.2.2.2 0 (by decide) p hp; rw [Nat.mul_zero, Nat.zero_add] at this; exact this⟩
theorem LM.go {g g' : Sg} {F : Fam} {e : Nat} (h : LM g F e) (h1 : g'.1 = g.1) (h2 : g'.2 67 15 = g.2 67 15) : LM g' F e := h.congr (fun k => by rw [h1]) h2 (fun q _ _ => by rw [h1])
theorem zq_w {F : Fam} {e : Nat} (h : (zw F e).isSome = false) : zq F e = 0 ∧ zw F e = none := by
  have h1 : zw F e = none := by cases hq : zw F e with | none => rfl | some j => rw [hq] at h; cases h
  refine ⟨?_, h1⟩
  unfold zq
  rw [h1]; rfl
theorem zq_s {F : Fam} {e j : Nat} (h : zw F e = some j) : zq F e = (if zt F e = 0 then 1 else if zt F e ≤ 3 then 2 else 4) ∧ zt F e ≠ 3 ∧ zt F e ≤ 4 := by
  refine ⟨?_, ?_, ?_⟩
  · unfold zq; rw [h]; rfl
  · intro h3
    unfold zt at h3
    rw [h] at h3
    simp at h3
    repeat' split at h3
    all_goals omega
  · unfold zt
    rw [h]
    simp
    repeat' split
    all_goals omega
theorem zw_s {F : Fam} {e j : Nat} (h : zw F e = some j) : zs F e = some j := by
  unfold zw at h
  cases hs : zs F e with
  | none => rw [hs] at h; cases h
  | some i =>
    rw [hs] at h
    have h9 : (if zl F e i = true then some i else none) = some j := h
    by_cases hl : zl F e i = true
    · rw [if_pos hl] at h9; exact h9
    · rw [if_neg hl] at h9; cases h9
theorem i32_sub0 {x y : Int32} (h : x - y = 0) : x = y := by
  have := Int32.sub_add_cancel x y
  rw [h, Int32.zero_add] at this
  exact this.symm
theorem lcz {a : Nat} (ha : a < 2 ^ 63) : (lg_cmp (lN a) 0 = 0) ↔ a = 0 := by
  rw [lg_cmp_eq, show (0 : Int64) = lN 0 from rfl, pk_lEQ ha (by decide)]
set_option maxRecDepth 100000 in
set_option maxHeartbeats 4000000 in
theorem ct_M_divide (l : Launch) (b : Nat) (id : Nat → ClassId) (D : va_G) {g : Sg} {F : Fam} (hW : zW F) (hm : Hm g F) {e u : Nat} (he : e < zn F) (hu : zd F e = some u) : qCT l b id D m_M_divide false [.ref (b + 67), .int (nI e)] 85 kT g 85 kT (fun v' g' => v' = none ∧ LM g' F e ∧ g'.2 67 16 = lN (4 * (8 * zpr F e)) ∧ (∀ p, p < zn F → g'.2 79 p = lN (zsh F e 1 p)) ∧ FrE g g') (fun _ _ => False) := by
  have hn := hW.1
  have hpr := zpr_lt (F := F) (e := e) hn
  have ht5 := zt_le F e
  have hq9 := zq_le (F := F) (e := e)
  have hR9 : 1 * (8 * zpr F e) * (4 - zq F e) ≤ 1 * (8 * zpr F e) * 4 := Nat.mul_le_mul_left _ (by omega)
  refine qCT_of rfl (by decide) (Nat.le_of_ble_eq_true rfl) ?_
  show Vq l b id D m_M_divide false 85 kT _ 85 kT _ 85 kT 0 0 0 [(0, .ref (b + 67)), (1, .int (nI e))] [] g
  have s97 : ∀ (x : Nat) (g3 : Sg), x = (1 * (8 * zpr F e) * (4 - zq F e)) → (LM g3 F e ∧ g3.2 67 16 = lN (4 * (8 * zpr F e)) ∧ (∀ k, k < 80 → g3.2 78 k = 0) ∧ (∀ p, p < 20 → g3.2 79 p = lN (zT0 F e 1 p)) ∧ FrE g g3) → Vq l b id D m_M_divide false 85 kT (fun v' g' => v' = none ∧ LM g' F e ∧ g'.2 67 16 = lN (4 * (8 * zpr F e)) ∧ (∀ p, p < zn F → g'.2 79 p = lN (zsh F e 1 p)) ∧ FrE g g') 85 kT (fun _ _ => False) 85 kT 0 0 97 [(2, .long (lN x)), (0, .ref (b + 67)), (1, .int (nI e))] [] g3 := by
    intro x g3 hx hI
    subst hx
    refine vq_aload_n d_M_divide_97 rfl ?_
    refine vq_getI (k := 17) (C := R_M) (T := T_M) d_M_divide_98 rfl in_M w_672 (by decide) rfl (by decide) rfl ?_
    refine vq_int (y := nI (zt F e)) hI.1.2.2.1 ?_
    refine vq_if_ne (tgt := 114) d_M_divide_101 (by decide) (fun h101 => ?_) (fun h101 => ?_)
    · rw [show (0 : Int32) = nI 0 from rfl, nI_eq (by omega) (by decide)] at h101
      refine vq_aload_n d_M_divide_114 rfl ?_
      refine vq_getI (k := 17) (C := R_M) (T := T_M) d_M_divide_115 rfl in_M w_672 (by decide) rfl (by decide) rfl ?_
      refine vq_int (y := nI (zt F e)) hI.1.2.2.1 ?_
      refine vq_iconst (v := 4) d_M_divide_118 (by decide) ?_
      refine vq_icmp_ge (tgt := 145) d_M_divide_119 (by decide) (fun h119 => ?_) (fun h119 => ?_)
      · rw [show (4 : Int32) = nI 4 from rfl, nI_leI (by decide) (by omega)] at h119
        have hPe : ∀ p, zP0 F e 1 p = 0 := fun p => by unfold zP0; rw [if_neg (by omega)]
        refine vq_aload_n d_M_divide_145 rfl ?_
        refine vq_callV (n := 0) (C := R_M) (T := T_M) _ _ d_M_divide_146 (ct_M_descend l b id D hW (e := e) (hI.2.2.2.2.hm hm) hI.1.row (P := zP0 F e 1) (T := zT0 F e 1) (by rw [zsum_congr (g := fun _ => 0) (fun c _ => hPe c), zsum_zero]; decide) (fun p hp => by rw [hPe p]; exact hI.2.2.1 p (by omega)) (fun p hp => hI.2.2.2.1 p (by omega))) w_809 w_811 sel_M_descend w_812 w_7 rfl ⟨by decide, by decide, by decide +kernel⟩ ⟨by decide, by decide⟩ (by decide) rfl rfl rfl rfl (Nat.le_of_ble_eq_true rfl) rfl rfl rfl ⟨by decide, by decide⟩ (fun _ _ h => h.elim) (fun v146 g146 h146 => ?_)
        obtain ⟨e1146, f1, f2, f3⟩ := h146
        rw [e1146]
        refine vq_vret d_M_divide_149 rfl (by decide) (by decide) rfl rfl ?_
        refine ⟨rfl, ?_, ?_, f3, ?_⟩
        · exact hI.1.go f1 (by rw [f2 67 (by decide) (by decide)])
        · rw [f2 67 (by decide) (by decide)]; exact hI.2.1
        · exact hI.2.2.2.2.go f1 (fun q h1 h2 h3 => by rw [f2 q h2 h3])
      · rw [show (4 : Int32) = nI 4 from rfl, nI_leI (by decide) (by omega)] at h119
        have hP0 : zP0 F e 1 = zup F e (zt F e) (fun p => if p = e then (1 * (8 * zpr F e) * (4 - zq F e)) else 0) := by unfold zP0; rw [if_pos (by omega)]
        refine vq_aload_n d_M_divide_122 rfl ?_
        refine vq_getR (k := 13) (C := R_M) (T := T_M) d_M_divide_123 rfl in_M w_668 (by decide) rfl (by decide) rfl rfl ?_
        refine vq_bipush (v := 20) d_M_divide_126 (by decide) ?_
        refine vq_aload_n d_M_divide_128 rfl ?_
        refine vq_getI (k := 17) (C := R_M) (T := T_M) d_M_divide_129 rfl in_M w_672 (by decide) rfl (by decide) rfl ?_
        refine vq_int (y := nI (zt F e)) hI.1.2.2.1 ?_
        refine vq_imul d_M_divide_132 ?_
        refine vq_iload_n d_M_divide_133 rfl ?_
        refine vq_iadd d_M_divide_134 ?_
        rw [ix20m]
        refine vq_lload_n d_M_divide_135 rfl ?_
        refine vq_last d_M_divide_136 rfl (by decide) rfl rfl (show _ < 80 by omega) ?_
        have hm4 : Hm (sJ g3 78 (vp_updL (g3.2 78) (20 * zt F e + e) (lN (1 * (8 * zpr F e) * (4 - zq F e))))) F := (hI.2.2.2.2.hm hm).congr rfl (fun q _ _ => rfl)
        have hL4 : LM (sJ g3 78 (vp_updL (g3.2 78) (20 * zt F e + e) (lN (1 * (8 * zpr F e) * (4 - zq F e))))) F e := hI.1.go rfl (by rw [sJ_n (by decide)])
        have hv4 : ∀ p, p < zn F → (sJ g3 78 (vp_updL (g3.2 78) (20 * zt F e + e) (lN (1 * (8 * zpr F e) * (4 - zq F e))))).2 78 (20 * zt F e + p) = lN ((fun p => if p = e then (1 * (8 * zpr F e) * (4 - zq F e)) else 0) p) := fun p hp => by
          rw [sJ_s, vp_updL]
          by_cases ep : p = e
          · rw [if_pos (by omega)]; simp [ep]
          · rw [if_neg (by omega)]; simp only [ep, if_false]; exact hI.2.2.1 _ (by omega)
        have hz4 : ∀ i, i < zt F e → ∀ p, p < zn F → (sJ g3 78 (vp_updL (g3.2 78) (20 * zt F e + e) (lN (1 * (8 * zpr F e) * (4 - zq F e))))).2 78 (20 * i + p) = 0 := fun i hi p hp => by
          rw [sJ_s, vp_updL, if_neg (by omega)]; exact hI.2.2.1 _ (by omega)
        refine vq_aload_n d_M_divide_137 rfl ?_
        refine vq_aload_n d_M_divide_138 rfl ?_
        refine vq_getI (k := 17) (C := R_M) (T := T_M) d_M_divide_139 rfl in_M w_672 (by decide) rfl (by decide) rfl ?_
        refine vq_int (y := nI (zt F e)) hI.1.2.2.1 ?_
        refine vq_callV (n := 1) (C := R_M) (T := T_M) _ _ d_M_divide_142 (ct_M_climb l b id D hW hm4 (e := e) (t := zt F e) (v := fun p => if p = e then (1 * (8 * zpr F e) * (4 - zq F e)) else 0) (by omega) hL4.2.2.2.2.2.2 (by rw [zsum_pt, if_pos he]; omega) hv4 hz4) w_805 w_807 sel_M_climb w_808 w_7 rfl ⟨by decide, by decide, by decide +kernel⟩ ⟨by decide, by decide⟩ (by decide) rfl rfl rfl rfl (Nat.le_of_ble_eq_true rfl) rfl rfl rfl ⟨by decide, by decide⟩ (fun _ _ h => h.elim) (fun v142 g142 h142 => ?_)
        obtain ⟨e1142, d1, d2, d3⟩ := h142
        rw [e1142]
        refine vq_aload_n d_M_divide_145 rfl ?_
        refine vq_callV (n := 0) (C := R_M) (T := T_M) _ _ d_M_divide_146 (ct_M_descend l b id D hW (e := e) (hm4.congr (by rw [d1]) (fun q _ _ => by rw [d1])) (hL4.go d1 (by rw [d2 67 (by decide)])).row (P := zP0 F e 1) (T := zT0 F e 1) (by rw [hP0]; exact Nat.lt_of_le_of_lt (zup_le hW _ _) (by rw [zsum_pt, if_pos he]; omega)) (fun p hp => by rw [d3 p hp, hP0]) (fun p hp => by rw [d2 79 (by decide), sJ_n (by decide)]; exact hI.2.2.2.1 p (by omega))) w_809 w_811 sel_M_descend w_812 w_7 rfl ⟨by decide, by decide, by decide +kernel⟩ ⟨by decide, by decide⟩ (by decide) rfl rfl rfl rfl (Nat.le_of_ble_eq_true rfl) rfl rfl rfl ⟨by decide, by decide⟩ (fun _ _ h => h.elim) (fun v146 g146 h146 => ?_)
        obtain ⟨e1146, f1, f2, f3⟩ := h146
        rw [e1146]
        refine vq_vret d_M_divide_149 rfl (by decide) (by decide) rfl rfl ?_
        refine ⟨rfl, ?_, ?_, f3, ?_⟩
        · exact (hL4.go d1 (by rw [d2 67 (by decide)])).go f1 (by rw [f2 67 (by decide) (by decide)])
        · rw [f2 67 (by decide) (by decide), d2 67 (by decide), sJ_n (by decide)]; exact hI.2.1
        · exact hI.2.2.2.2.go (f1.trans d1) (fun q h1 h2 h3 => by rw [f2 q h2 h3, d2 q h2, sJ_n h2])
    · rw [show (0 : Int32) = nI 0 from rfl, nI_eq (by omega) (by decide)] at h101
      obtain ⟨P, hPd⟩ : ∃ P, P = zP0 F e 1 := ⟨_, rfl⟩
      have hPe : ∀ p, zP0 F e 1 p = if p = e then (1 * (8 * zpr F e) * (4 - zq F e)) else 0 := fun p => by unfold zP0; rw [if_pos (by omega), h101]; rfl
      refine vq_aload_n d_M_divide_104 rfl ?_
      refine vq_getR (k := 13) (C := R_M) (T := T_M) d_M_divide_105 rfl in_M w_668 (by decide) rfl (by decide) rfl rfl ?_
      refine vq_iload_n d_M_divide_108 rfl ?_
      refine vq_lload_n d_M_divide_109 rfl ?_
      refine vq_last d_M_divide_110 rfl (by decide) rfl rfl (show _ < 80 by omega) ?_
      have hm4 : Hm (sJ g3 78 (vp_updL (g3.2 78) e (lN (1 * (8 * zpr F e) * (4 - zq F e))))) F := (hI.2.2.2.2.hm hm).congr rfl (fun q _ _ => rfl)
      have hL4 : LM (sJ g3 78 (vp_updL (g3.2 78) e (lN (1 * (8 * zpr F e) * (4 - zq F e))))) F e := hI.1.go rfl (by rw [sJ_n (by decide)])
      have hp4 : ∀ p, p < zn F → (sJ g3 78 (vp_updL (g3.2 78) e (lN (1 * (8 * zpr F e) * (4 - zq F e))))).2 78 p = lN (zP0 F e 1 p) := fun p hp => by
        rw [sJ_s, vp_updL, hPe p]
        by_cases ep : p = e
        · rw [if_pos ep, if_pos ep]
        · rw [if_neg ep, if_neg ep]; exact hI.2.2.1 p (by omega)
      refine vq_goto (tgt := 145) d_M_divide_111 (by decide) ?_
      refine vq_aload_n d_M_divide_145 rfl ?_
      refine vq_callV (n := 0) (C := R_M) (T := T_M) _ _ d_M_divide_146 (ct_M_descend l b id D hW (e := e) hm4 hL4.row (P := zP0 F e 1) (T := zT0 F e 1) (by rw [zsum_congr (fun c _ => hPe c), zsum_pt, if_pos he]; omega) hp4 (fun p hp => by rw [sJ_n (by decide)]; exact hI.2.2.2.1 p (by omega))) w_809 w_811 sel_M_descend w_812 w_7 rfl ⟨by decide, by decide, by decide +kernel⟩ ⟨by decide, by decide⟩ (by decide) rfl rfl rfl rfl (Nat.le_of_ble_eq_true rfl) rfl rfl rfl ⟨by decide, by decide⟩ (fun _ _ h => h.elim) (fun v146 g146 h146 => ?_)
      obtain ⟨e1146, f1, f2, f3⟩ := h146
      rw [e1146]
      refine vq_vret d_M_divide_149 rfl (by decide) (by decide) rfl rfl ?_
      refine ⟨rfl, ?_, ?_, f3, ?_⟩
      · exact hL4.go f1 (by rw [f2 67 (by decide) (by decide)])
      · rw [f2 67 (by decide) (by decide), sJ_n (by decide)]; exact hI.2.1
      · exact hI.2.2.2.2.go f1 (fun q h1 h2 h3 => by rw [f2 q h2 h3, sJ_n h2])
  refine vq_aload_n d_M_divide_0 rfl ?_
  refine vq_iload_n d_M_divide_1 rfl ?_
  refine vq_callV (n := 1) (C := R_M) (T := T_M) _ _ d_M_divide_2 (ct_M_look l b id D hW hm he hu) w_786 w_788 sel_M_look w_789 w_7 rfl ⟨by decide, by decide, by decide +kernel⟩ ⟨by decide, by decide⟩ (by decide) rfl rfl rfl rfl (Nat.le_of_ble_eq_true rfl) rfl rfl rfl ⟨by decide, by decide⟩ (fun _ _ h => h.elim) (fun v2 g2 h2 => ?_)
  obtain ⟨e12, a1, a2⟩ := h2
  rw [e12]
  refine vq_aload_n d_M_divide_5 rfl ?_
  refine vq_callV (n := 0) (C := R_M) (T := T_M) _ _ d_M_divide_6 (ct_M_clear l b id D) w_798 w_800 sel_M_clear w_801 w_7 rfl ⟨by decide, by decide, by decide +kernel⟩ ⟨by decide, by decide⟩ (by decide) rfl rfl rfl rfl (Nat.le_of_ble_eq_true rfl) rfl rfl rfl ⟨by decide, by decide⟩ (fun _ _ h => h.elim) (fun v6 g6 h6 => ?_)
  obtain ⟨e16, b1, b2, b3, b4⟩ := h6
  rw [e16]
  have hL6 : LM g6 F e := a1.go b1 (by rw [b2 67 (by decide) (by decide)])
  have hF6 : FrE g g6 := a2.e.go b1 (fun q _ h2 h3 => b2 q h2 h3)
  refine vq_aload_n d_M_divide_9 rfl ?_
  refine vq_ldc2 d_M_divide_10 w_802 ?_
  refine vq_aload_n d_M_divide_13 rfl ?_
  refine vq_getJ (k := 15) (C := R_M) (T := T_M) d_M_divide_14 rfl in_M w_670 (by decide) rfl (by decide) rfl ?_
  refine vq_long (y := lN (zpr F e)) hL6.2.1 ?_
  refine vq_lmul d_M_divide_17 ?_
  rw [show (32 : Int64) = lN 32 from rfl, lN_mul, show 32 * zpr F e = 4 * (8 * zpr F e) by omega]
  refine vq_putJ (k := 16) (C := R_M) (T := T_M) t_M d_M_divide_18 rfl in_M w_671 ty_M nm_M (by decide) rfl (by decide) rfl (by decide +kernel) rfl ?_
  refine vq_aload_n d_M_divide_21 rfl ?_
  refine vq_getJ (k := 16) (C := R_M) (T := T_M) d_M_divide_22 rfl in_M w_671 (by decide) rfl (by decide) rfl ?_
  refine vq_long (y := lN (4 * (8 * zpr F e))) (by rw [sJ_s]; exact vps _ _ _) ?_
  refine vq_lstore_n (lv' := [(2, _), (0, _), (1, _)]) d_M_divide_25 (by decide) rfl ?_
  refine vq_aload_n d_M_divide_26 rfl ?_
  refine vq_getI (k := 18) (C := R_M) (T := T_M) d_M_divide_27 rfl in_M w_673 (by decide) rfl (by decide) rfl ?_
  refine vq_int (y := bI (zw F e).isSome) hL6.2.2.2.1 ?_
  refine vq_if_eq (tgt := 97) d_M_divide_30 (by decide) (fun h30 => ?_) (fun h30 => ?_)
  · rw [bI_0] at h30
    obtain ⟨hq0, hw0⟩ := zq_w h30
    refine s97 _ _ (by rw [hq0]; omega) ⟨hL6.go rfl (by rw [sJ_s, vp_updL, if_neg (by decide)]), by rw [sJ_s]; exact vps _ _ _, fun k hk => by rw [sJ_n (by decide)]; exact b3 k hk, fun p hp => ?_, hF6.go rfl (fun q h1 h2 h3 => by rw [sJ_n h1])⟩
    rw [sJ_n (by decide), b4 p hp]
    unfold zT0
    rw [hw0]
    rfl
  · rw [bI_n0] at h30
    obtain ⟨j, hj⟩ := Option.isSome_iff_exists.mp h30
    obtain ⟨hq1, hq3, hq4⟩ := zq_s hj
    have hjn := (zw_lt hW he hj).1
    refine vq_aload_n d_M_divide_33 rfl ?_
    refine vq_getI (k := 17) (C := R_M) (T := T_M) d_M_divide_34 rfl in_M w_672 (by decide) rfl (by decide) rfl ?_
    refine vq_int (y := nI (zt F e)) hL6.2.2.1 ?_
    refine vq_if_ne (tgt := 51) d_M_divide_37 (by decide) (fun h37 => ?_) (fun h37 => ?_)
    · rw [show (0 : Int32) = nI 0 from rfl, nI_eq (by omega) (by decide)] at h37
      rw [if_neg h37] at hq1
      refine vq_aload_n d_M_divide_51 rfl ?_
      refine vq_getI (k := 17) (C := R_M) (T := T_M) d_M_divide_52 rfl in_M w_672 (by decide) rfl (by decide) rfl ?_
      refine vq_int (y := nI (zt F e)) hL6.2.2.1 ?_
      refine vq_iconst (v := 3) d_M_divide_55 (by decide) ?_
      refine vq_icmp_ge (tgt := 70) d_M_divide_56 (by decide) (fun h56 => ?_) (fun h56 => ?_)
      · rw [show (3 : Int32) = nI 3 from rfl, nI_leI (by decide) (by omega)] at h56
        rw [if_neg (by omega)] at hq1
        refine vq_aload_n d_M_divide_70 rfl ?_
        refine vq_getJ (k := 16) (C := R_M) (T := T_M) d_M_divide_71 rfl in_M w_671 (by decide) rfl (by decide) rfl ?_
        refine vq_long (y := lN (4 * (8 * zpr F e))) (by rw [sJ_s]; exact vps _ _ _) ?_
        refine vq_lstore (lv' := [(4, _), (2, _), (0, _), (1, _)]) d_M_divide_74 (by decide) rfl ?_
        refine vq_aload_n d_M_divide_76 rfl ?_
        refine vq_getR (k := 14) (C := R_M) (T := T_M) d_M_divide_77 rfl in_M w_669 (by decide) rfl (by decide) rfl rfl ?_
        refine vq_aload_n d_M_divide_80 rfl ?_
        refine vq_getR (k := 4) (C := R_M) (T := T_M) d_M_divide_81 rfl in_M w_659 (by decide) rfl (by decide) rfl rfl ?_
        refine vq_iload_n d_M_divide_84 rfl ?_
        refine vq_iald d_M_divide_85 (by decide) rfl rfl (show _ < 20 by omega) ?_
        refine vq_int (y := nI j) (by rw [← show eO (zs F e) = nI j by rw [zw_s hj]; rfl]; exact (hF6.hm hm).2.2.2.1 e he) ?_
        refine vq_lload d_M_divide_86 rfl ?_
        refine vq_last d_M_divide_88 rfl (by decide) rfl rfl (show _ < 20 by omega) ?_
        refine vq_aload_n d_M_divide_89 rfl ?_
        refine vq_getJ (k := 16) (C := R_M) (T := T_M) d_M_divide_90 rfl in_M w_671 (by decide) rfl (by decide) rfl ?_
        refine vq_long (y := lN (4 * (8 * zpr F e))) (by rw [sJ_n (by decide), sJ_s]; exact vps _ _ _) ?_
        refine vq_lload d_M_divide_93 rfl ?_
        refine vq_lsub d_M_divide_95 ?_
        rw [lN_sub (by omega)]
        refine vq_lstore_n (lv' := [(2, _), (4, _), (0, _), (1, _)]) d_M_divide_96 (by decide) rfl ?_
        refine vq_pk [0, 2, 3] (lv' := [(2, _), (0, _), (1, _)]) rfl ?_
        refine s97 _ _ (by rw [hq1]; omega) ⟨hL6.go rfl (by rw [sJ_n (by decide), sJ_s, vp_updL, if_neg (by decide)]), by rw [sJ_n (by decide), sJ_s]; exact vps _ _ _, fun k hk => by rw [sJ_n (by decide), sJ_n (by decide)]; exact b3 k hk, fun p hp => ?_, hF6.go rfl (fun q h1 h2 h3 => by rw [sJ_n h3, sJ_n h1])⟩
        rw [sJ_s, vp_updL, sJ_n (by decide), b4 p hp]
        unfold zT0
        rw [hj, hq1]
        by_cases ep : p = j
        · rw [if_pos ep, ep, if_pos rfl]; congr 1; omega
        · rw [if_neg ep, if_neg (fun h => ep (Option.some.inj h).symm)]; rfl
      · rw [show (3 : Int32) = nI 3 from rfl, nI_leI (by decide) (by omega)] at h56
        rw [if_pos (by omega)] at hq1
        refine vq_aload_n d_M_divide_59 rfl ?_
        refine vq_getJ (k := 16) (C := R_M) (T := T_M) d_M_divide_60 rfl in_M w_671 (by decide) rfl (by decide) rfl ?_
        refine vq_long (y := lN (4 * (8 * zpr F e))) (by rw [sJ_s]; exact vps _ _ _) ?_
        refine vq_ldc2 d_M_divide_63 w_804 ?_
        refine vq_ldiv d_M_divide_66 (by decide) ?_
        rw [show (2 : Int64) = lN 2 from rfl, pk_lDiv (by omega) (by decide) (by decide)]
        refine vq_goto (tgt := 74) d_M_divide_67 (by decide) ?_
        refine vq_lstore (lv' := [(4, _), (2, _), (0, _), (1, _)]) d_M_divide_74 (by decide) rfl ?_
        refine vq_aload_n d_M_divide_76 rfl ?_
        refine vq_getR (k := 14) (C := R_M) (T := T_M) d_M_divide_77 rfl in_M w_669 (by decide) rfl (by decide) rfl rfl ?_
        refine vq_aload_n d_M_divide_80 rfl ?_
        refine vq_getR (k := 4) (C := R_M) (T := T_M) d_M_divide_81 rfl in_M w_659 (by decide) rfl (by decide) rfl rfl ?_
        refine vq_iload_n d_M_divide_84 rfl ?_
        refine vq_iald d_M_divide_85 (by decide) rfl rfl (show _ < 20 by omega) ?_
        refine vq_int (y := nI j) (by rw [← show eO (zs F e) = nI j by rw [zw_s hj]; rfl]; exact (hF6.hm hm).2.2.2.1 e he) ?_
        refine vq_lload d_M_divide_86 rfl ?_
        refine vq_last d_M_divide_88 rfl (by decide) rfl rfl (show _ < 20 by omega) ?_
        refine vq_aload_n d_M_divide_89 rfl ?_
        refine vq_getJ (k := 16) (C := R_M) (T := T_M) d_M_divide_90 rfl in_M w_671 (by decide) rfl (by decide) rfl ?_
        refine vq_long (y := lN (4 * (8 * zpr F e))) (by rw [sJ_n (by decide), sJ_s]; exact vps _ _ _) ?_
        refine vq_lload d_M_divide_93 rfl ?_
        refine vq_lsub d_M_divide_95 ?_
        rw [lN_sub (by omega)]
        refine vq_lstore_n (lv' := [(2, _), (4, _), (0, _), (1, _)]) d_M_divide_96 (by decide) rfl ?_
        refine vq_pk [0, 2, 3] (lv' := [(2, _), (0, _), (1, _)]) rfl ?_
        refine s97 _ _ (by rw [hq1]; omega) ⟨hL6.go rfl (by rw [sJ_n (by decide), sJ_s, vp_updL, if_neg (by decide)]), by rw [sJ_n (by decide), sJ_s]; exact vps _ _ _, fun k hk => by rw [sJ_n (by decide), sJ_n (by decide)]; exact b3 k hk, fun p hp => ?_, hF6.go rfl (fun q h1 h2 h3 => by rw [sJ_n h3, sJ_n h1])⟩
        rw [sJ_s, vp_updL, sJ_n (by decide), b4 p hp]
        unfold zT0
        rw [hj, hq1]
        by_cases ep : p = j
        · rw [if_pos ep, ep, if_pos rfl]; congr 1; omega
        · rw [if_neg ep, if_neg (fun h => ep (Option.some.inj h).symm)]; rfl
    · rw [show (0 : Int32) = nI 0 from rfl, nI_eq (by omega) (by decide)] at h37
      rw [if_pos h37] at hq1
      refine vq_aload_n d_M_divide_40 rfl ?_
      refine vq_getJ (k := 16) (C := R_M) (T := T_M) d_M_divide_41 rfl in_M w_671 (by decide) rfl (by decide) rfl ?_
      refine vq_long (y := lN (4 * (8 * zpr F e))) (by rw [sJ_s]; exact vps _ _ _) ?_
      refine vq_ldc2 d_M_divide_44 w_803 ?_
      refine vq_ldiv d_M_divide_47 (by decide) ?_
      rw [show (4 : Int64) = lN 4 from rfl, pk_lDiv (by omega) (by decide) (by decide)]
      refine vq_goto (tgt := 74) d_M_divide_48 (by decide) ?_
      refine vq_lstore (lv' := [(4, _), (2, _), (0, _), (1, _)]) d_M_divide_74 (by decide) rfl ?_
      refine vq_aload_n d_M_divide_76 rfl ?_
      refine vq_getR (k := 14) (C := R_M) (T := T_M) d_M_divide_77 rfl in_M w_669 (by decide) rfl (by decide) rfl rfl ?_
      refine vq_aload_n d_M_divide_80 rfl ?_
      refine vq_getR (k := 4) (C := R_M) (T := T_M) d_M_divide_81 rfl in_M w_659 (by decide) rfl (by decide) rfl rfl ?_
      refine vq_iload_n d_M_divide_84 rfl ?_
      refine vq_iald d_M_divide_85 (by decide) rfl rfl (show _ < 20 by omega) ?_
      refine vq_int (y := nI j) (by rw [← show eO (zs F e) = nI j by rw [zw_s hj]; rfl]; exact (hF6.hm hm).2.2.2.1 e he) ?_
      refine vq_lload d_M_divide_86 rfl ?_
      refine vq_last d_M_divide_88 rfl (by decide) rfl rfl (show _ < 20 by omega) ?_
      refine vq_aload_n d_M_divide_89 rfl ?_
      refine vq_getJ (k := 16) (C := R_M) (T := T_M) d_M_divide_90 rfl in_M w_671 (by decide) rfl (by decide) rfl ?_
      refine vq_long (y := lN (4 * (8 * zpr F e))) (by rw [sJ_n (by decide), sJ_s]; exact vps _ _ _) ?_
      refine vq_lload d_M_divide_93 rfl ?_
      refine vq_lsub d_M_divide_95 ?_
      rw [lN_sub (by omega)]
      refine vq_lstore_n (lv' := [(2, _), (4, _), (0, _), (1, _)]) d_M_divide_96 (by decide) rfl ?_
      refine vq_pk [0, 2, 3] (lv' := [(2, _), (0, _), (1, _)]) rfl ?_
      refine s97 _ _ (by rw [hq1]; omega) ⟨hL6.go rfl (by rw [sJ_n (by decide), sJ_s, vp_updL, if_neg (by decide)]), by rw [sJ_n (by decide), sJ_s]; exact vps _ _ _, fun k hk => by rw [sJ_n (by decide), sJ_n (by decide)]; exact b3 k hk, fun p hp => ?_, hF6.go rfl (fun q h1 h2 h3 => by rw [sJ_n h3, sJ_n h1])⟩
      rw [sJ_s, vp_updL, sJ_n (by decide), b4 p hp]
      unfold zT0
      rw [hj, hq1]
      by_cases ep : p = j
      · rw [if_pos ep, ep, if_pos rfl]; congr 1; omega
      · rw [if_neg ep, if_neg (fun h => ep (Option.some.inj h).symm)]; rfl
