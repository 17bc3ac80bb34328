/-! Hotchpot.gather, Division.divideWithGifts. Laid by wip/whole/specs/p31.py -/
def zszk (In : Nat → Bool) (k : Nat) : Nat := zsum (fun p => if In p = true then 1 else 0) k
def zamk (F : Fam) (e c : Nat) (In : Nat → Bool) (k : Nat) : Nat := c + zsum (fun p => if In p = true then 4 * zg F p e else 0) k
theorem zszk_le (In : Nat → Bool) : ∀ k, zszk In k ≤ k
  | 0 => Nat.le_refl _
  | k + 1 => by
    have := zszk_le In k
    show zszk In k + (if In k = true then 1 else 0) ≤ k + 1
    split <;> omega
def IGa (g : Sg) (F : Fam) (e c i : Nat) (g1 : Sg) : Prop := i ≤ zn F ∧ (∀ q, q ≠ 38 → q ≠ 39 → g1.1 q = g.1 q) ∧ (∀ k, k ≠ 3 → g1.1 38 k = g.1 38 k) ∧ (∀ q, q ≠ 38 → q ≠ 40 → g1.2 q = g.2 q) ∧ (∀ p, p < i → g1.1 39 p = bI (zIn0 F e p)) ∧ g1.1 38 3 = nI (zszk (zIn0 F e) i) ∧ g1.2 38 4 = lN (zamk F e c (zIn0 F e) i) ∧ (∀ p, p < i → zIn0 F e p = true → g1.2 40 p = lN (4 * zg F p e))
set_option maxRecDepth 100000 in
set_option maxHeartbeats 4000000 in
theorem ct_H_gather (l : Launch) (b : Nat) (id : Nat → ClassId) (D : va_G) {g : Sg} {F : Fam} (hW : zW F) (hc : Hc g F) {e : Nat} (he : e < zn F) (hk : LK g F e) (c : Nat) : qCT l b id D m_H_gather false [.ref (b + 38), .long (lN c)] 85 kT g 85 kT (fun v' g' => v' = none ∧ (∀ q, q ≠ 38 → q ≠ 39 → g'.1 q = g.1 q) ∧ (∀ k, k ≠ 3 → g'.1 38 k = g.1 38 k) ∧ (∀ q, q ≠ 38 → q ≠ 40 → g'.2 q = g.2 q) ∧ HS g' F e c (zIn0 F e)) (fun _ _ => False) := by
  have hn := hW.1
  refine qCT_of rfl (by decide) (Nat.le_of_ble_eq_true rfl) ?_
  show Vq l b id D m_H_gather false 85 kT _ 85 kT _ 85 kT 0 0 0 [(0, .ref (b + 38)), (1, .long (lN c))] [] g
  have loop : ∀ (n9 : Nat) (i : Nat) (g1 : Sg), zn F - i = n9 → IGa g F e c i g1 → Vq l b id D m_H_gather false 85 kT (fun v' g' => v' = none ∧ (∀ q, q ≠ 38 → q ≠ 39 → g'.1 q = g.1 q) ∧ (∀ k, k ≠ 3 → g'.1 38 k = g.1 38 k) ∧ (∀ q, q ≠ 38 → q ≠ 40 → g'.2 q = g.2 q) ∧ HS g' F e c (zIn0 F e)) 85 kT (fun _ _ => False) 85 kT 0 0 12 [(3, .int (nI i)), (0, .ref (b + 38)), (1, .long (lN c))] [] g1 := by
    intro n9
    induction n9 using Nat.strongRecOn with
    | ind n9 ih =>
    intro i g1 hm hI
    have hle := hI.1
    have hc1 : Hc g1 F := hc.congr (fun q a d => hI.2.1 q (by omega) (by omega))
    have hk1 : LK g1 F e := hk.congr (fun q a d => hI.2.1 q (by omega) (by omega))
    refine vq_iload_n d_H_gather_12 rfl ?_
    refine vq_aload_n d_H_gather_13 rfl ?_
    refine vq_getR (k := 0) (C := R_H) (T := T_H) d_H_gather_14 rfl in_H w_128 (by decide) rfl (by decide) rfl rfl ?_
    refine vq_getI (k := 0) (C := R_F) (T := T_F) d_H_gather_17 rfl in_F w_34 (by decide) rfl (by decide) rfl ?_
    refine vq_int (y := nI (zn F)) hc1.1 ?_
    refine vq_icmp_ge (tgt := 132) d_H_gather_20 (by decide) (fun h20 => ?_) (fun h20 => ?_)
    · have hi : i = zn F := by
        rw [nI_leI (by omega) (by omega)] at h20
        omega
      subst hi
      refine vq_vret d_H_gather_132 rfl (by decide) (by decide) rfl rfl ?_
      exact ⟨rfl, hI.2.1, hI.2.2.1, hI.2.2.2.1, fun p hp => hI.2.2.2.2.1 p hp, hI.2.2.2.2.2.1, hI.2.2.2.2.2.2.1, fun p hp hq => hI.2.2.2.2.2.2.2 p hp hq, fun p hp => hp⟩
    · have hi : i < zn F := by
        rw [nI_leI (by omega) (by omega)] at h20
        omega
      have s126 : ∀ (g2 : Sg), IGa g F e c (i + 1) g2 → Vq l b id D m_H_gather false 85 kT (fun v' g' => v' = none ∧ (∀ q, q ≠ 38 → q ≠ 39 → g'.1 q = g.1 q) ∧ (∀ k, k ≠ 3 → g'.1 38 k = g.1 38 k) ∧ (∀ q, q ≠ 38 → q ≠ 40 → g'.2 q = g.2 q) ∧ HS g' F e c (zIn0 F e)) 85 kT (fun _ _ => False) 85 kT 0 0 126 [(3, .int (nI i)), (0, .ref (b + 38)), (1, .long (lN c))] [] g2 := by
        intro g2 hI2
        refine vq_iinc (k := 0) (lv' := [(3, _), (0, _), (1, _)]) d_H_gather_126 rfl (ip1 i) (by decide) rfl ?_
        refine vq_goto (tgt := 12) d_H_gather_129 (by decide) ?_
        exact ih (zn F - (i + 1)) (by omega) (i + 1) _ rfl hI2
      have s64 : Vq l b id D m_H_gather false 85 kT (fun v' g' => v' = none ∧ (∀ q, q ≠ 38 → q ≠ 39 → g'.1 q = g.1 q) ∧ (∀ k, k ≠ 3 → g'.1 38 k = g.1 38 k) ∧ (∀ q, q ≠ 38 → q ≠ 40 → g'.2 q = g.2 q) ∧ HS g' F e c (zIn0 F e)) 85 kT (fun _ _ => False) 85 kT 0 0 64 [(3, .int (nI i)), (0, .ref (b + 38)), (1, .long (lN c))] [] (sI g1 39 (upd (g1.1 39) i (bI (zIn0 F e i)))) := by
        refine vq_aload_n d_H_gather_64 rfl ?_
        refine vq_getR (k := 2) (C := R_H) (T := T_H) d_H_gather_65 rfl in_H w_130 (by decide) rfl (by decide) rfl rfl ?_
        refine vq_iload_n d_H_gather_68 rfl ?_
        refine vq_zald d_H_gather_69 (by decide) rfl rfl (show _ < 20 by omega) ?_
        refine vq_int (show _ = bI (zIn0 F e i) by rw [sI_s, upd, if_pos rfl]) ?_
        refine vq_if_eq (tgt := 126) d_H_gather_70 (by decide) (fun h70 => ?_) (fun h70 => ?_)
        · have hz := bI_0.mp h70
          first
            | (refine s126 _ ⟨by omega, fun q a d => by simp [sI, a, d]; exact hI.2.1 q a d, fun k a => by simp [sI]; exact hI.2.2.1 k a, hI.2.2.2.1, fun p hp => ?_, ?_, ?_, fun p hp hq => ?_⟩
               · by_cases e1 : p = i
                 · rw [e1, sI_s, upd, if_pos rfl]
                 · rw [sI_s, upd, if_neg e1]; exact hI.2.2.2.2.1 p (by omega)
               · rw [sI_n (by decide), hI.2.2.2.2.2.1]; show _ = nI (zszk (zIn0 F e) i + (if zIn0 F e i = true then 1 else 0)); rw [if_neg (by rw [hz]; simp)]; rfl
               · rw [sI_2, hI.2.2.2.2.2.2.1]; show _ = lN (c + (zsum (fun p => if zIn0 F e p = true then 4 * zg F p e else 0) i + (if zIn0 F e i = true then 4 * zg F i e else 0))); rw [if_neg (by rw [hz]; simp)]; rfl
               · by_cases e1 : p = i
                 · rw [e1, hz] at hq; cases hq
                 · exact hI.2.2.2.2.2.2.2 p (by omega) hq)
            | (refine s126 _ ⟨by omega, fun q a d => by rw [sI_n a, sJ_1, sJ_1, sI_n d]; exact hI.2.1 q a d, fun k a => by rw [sI_s, upd, if_neg a]; exact hI.2.2.1 k a, fun q a d => by rw [sI_2, sJ_n a, sJ_n d]; exact hI.2.2.2.1 q a d, fun p hp => ?_, ?_, ?_, fun p hp hq => ?_⟩
               · rw [sI_n (by decide), sJ_1, sJ_1]
                 by_cases e1 : p = i
                 · rw [e1, sI_s, upd, if_pos rfl]
                 · rw [sI_s, upd, if_neg e1]; exact hI.2.2.2.2.1 p (by omega)
               · rw [sI_s, upd, if_pos rfl]; show _ = nI (zszk (zIn0 F e) i + (if zIn0 F e i = true then 1 else 0)); rw [if_pos hz]
               · rw [sI_2, sJ_s, vp_updL, if_pos rfl]; show _ = lN (c + (zsum (fun p => if zIn0 F e p = true then 4 * zg F p e else 0) i + (if zIn0 F e i = true then 4 * zg F i e else 0))); rw [if_pos hz]; unfold zamk; rw [Nat.add_assoc]
               · rw [sI_2, sJ_n (by decide), sJ_s, vp_updL]
                 by_cases e1 : p = i
                 · rw [if_pos e1, e1]
                 · rw [if_neg e1]; exact hI.2.2.2.2.2.2.2 p (by omega) hq)
        · have hz := bI_n0.mp h70
          refine vq_aload_n d_H_gather_73 rfl ?_
          refine vq_getR (k := 5) (C := R_H) (T := T_H) d_H_gather_74 rfl in_H w_135 (by decide) rfl (by decide) rfl rfl ?_
          refine vq_iload_n d_H_gather_77 rfl ?_
          refine vq_ldc2 d_H_gather_78 w_307 ?_
          refine vq_aload_n d_H_gather_81 rfl ?_
          refine vq_getR (k := 0) (C := R_H) (T := T_H) d_H_gather_82 rfl in_H w_128 (by decide) rfl (by decide) rfl rfl ?_
          refine vq_getR (k := 6) (C := R_F) (T := T_F) d_H_gather_85 rfl in_F w_55 (by decide) rfl (by decide) rfl rfl ?_
          refine vq_iload_n d_H_gather_88 rfl ?_
          refine vq_aald4 d_H_gather_89 (by decide) rfl rfl (show _ < 20 by omega) ?_
          refine vq_aload_n d_H_gather_90 rfl ?_
          refine vq_getR (k := 1) (C := R_H) (T := T_H) d_H_gather_91 rfl in_H w_129 (by decide) rfl (by decide) rfl rfl ?_
          refine vq_getI (k := 1) (C := R_V) (T := T_V) d_H_gather_94 rfl in_V w_84 (by decide) rfl (by decide) rfl ?_
          refine vq_int (y := nI e) hk1.1 ?_
          refine vq_iald d_H_gather_97 (show 8 + _ < 85 by omega) (qK_gi _ (by omega)) rfl (Nat.lt_of_lt_of_eq (show _ < 20 by omega) (qL_gi _ (by omega)).symm) ?_
          refine vq_int (y := nI (zg F i e)) (by rw [sI_n (show qC 7 + i ≠ 39 from (show 8 + i ≠ 39 by omega))]; exact hc1.2.2.2.2.2.2.1 i e (by omega) (by omega)) ?_
          refine vq_i2l d_H_gather_98 (nI_l (by have := hW.2.2.2.2.2.2.2 i e; omega)) ?_
          refine vq_lmul d_H_gather_99 ?_
          rw [show (4 : Int64) = lN 4 from rfl, lN_mul]
          refine vq_last d_H_gather_100 rfl (by decide) rfl rfl (show _ < 20 by omega) ?_
          refine vq_aload_n d_H_gather_101 rfl ?_
          refine vq_dup d_H_gather_102 rfl ?_
          refine vq_getJ (k := 4) (C := R_H) (T := T_H) d_H_gather_103 rfl in_H w_134 (by decide) rfl (by decide) rfl ?_
          refine vq_long (y := lN (zamk F e c (zIn0 F e) i)) hI.2.2.2.2.2.2.1 ?_
          refine vq_aload_n d_H_gather_106 rfl ?_
          refine vq_getR (k := 5) (C := R_H) (T := T_H) d_H_gather_107 rfl in_H w_135 (by decide) rfl (by decide) rfl rfl ?_
          refine vq_iload_n d_H_gather_110 rfl ?_
          refine vq_lald d_H_gather_111 (by decide) rfl rfl (show _ < 20 by omega) ?_
          refine vq_long (show _ = lN (4 * zg F i e) by rw [sJ_s, vp_updL, if_pos rfl]) ?_
          refine vq_ladd d_H_gather_112 ?_
          rw [lN_add]
          refine vq_putJ (k := 4) (C := R_H) (T := T_H) t_H d_H_gather_113 rfl in_H w_134 ty_H nm_H (by decide) rfl (by decide) rfl (by decide +kernel) rfl ?_
          refine vq_aload_n d_H_gather_116 rfl ?_
          refine vq_dup d_H_gather_117 rfl ?_
          refine vq_getI (k := 3) (C := R_H) (T := T_H) d_H_gather_118 rfl in_H w_132 (by decide) rfl (by decide) rfl ?_
          refine vq_int (y := nI (zszk (zIn0 F e) i)) hI.2.2.2.2.2.1 ?_
          refine vq_iconst (v := 1) d_H_gather_121 (by decide) ?_
          refine vq_iadd d_H_gather_122 ?_
          rw [nI_1]
          refine vq_putI (k := 3) (C := R_H) (T := T_H) (ty := .int) t_H d_H_gather_123 rfl in_H w_132 ty_H nm_H (by decide) rfl (by decide) rfl (by decide +kernel) rfl rfl rfl ?_
          first
            | (refine s126 _ ⟨by omega, fun q a d => by simp [sI, a, d]; exact hI.2.1 q a d, fun k a => by simp [sI]; exact hI.2.2.1 k a, hI.2.2.2.1, fun p hp => ?_, ?_, ?_, fun p hp hq => ?_⟩
               · by_cases e1 : p = i
                 · rw [e1, sI_s, upd, if_pos rfl]
                 · rw [sI_s, upd, if_neg e1]; exact hI.2.2.2.2.1 p (by omega)
               · rw [sI_n (by decide), hI.2.2.2.2.2.1]; show _ = nI (zszk (zIn0 F e) i + (if zIn0 F e i = true then 1 else 0)); rw [if_neg (by rw [hz]; simp)]; rfl
               · rw [sI_2, hI.2.2.2.2.2.2.1]; show _ = lN (c + (zsum (fun p => if zIn0 F e p = true then 4 * zg F p e else 0) i + (if zIn0 F e i = true then 4 * zg F i e else 0))); rw [if_neg (by rw [hz]; simp)]; rfl
               · by_cases e1 : p = i
                 · rw [e1, hz] at hq; cases hq
                 · exact hI.2.2.2.2.2.2.2 p (by omega) hq)
            | (refine s126 _ ⟨by omega, fun q a d => by rw [sI_n a, sJ_1, sJ_1, sI_n d]; exact hI.2.1 q a d, fun k a => by rw [sI_s, upd, if_neg a]; exact hI.2.2.1 k a, fun q a d => by rw [sI_2, sJ_n a, sJ_n d]; exact hI.2.2.2.1 q a d, fun p hp => ?_, ?_, ?_, fun p hp hq => ?_⟩
               · rw [sI_n (by decide), sJ_1, sJ_1]
                 by_cases e1 : p = i
                 · rw [e1, sI_s, upd, if_pos rfl]
                 · rw [sI_s, upd, if_neg e1]; exact hI.2.2.2.2.1 p (by omega)
               · rw [sI_s, upd, if_pos rfl]; show _ = nI (zszk (zIn0 F e) i + (if zIn0 F e i = true then 1 else 0)); rw [if_pos hz]
               · rw [sI_2, sJ_s, vp_updL, if_pos rfl]; show _ = lN (c + (zsum (fun p => if zIn0 F e p = true then 4 * zg F p e else 0) i + (if zIn0 F e i = true then 4 * zg F i e else 0))); rw [if_pos hz]; unfold zamk; rw [Nat.add_assoc]
               · rw [sI_2, sJ_n (by decide), sJ_s, vp_updL]
                 by_cases e1 : p = i
                 · rw [if_pos e1, e1]
                 · rw [if_neg e1]; exact hI.2.2.2.2.2.2.2 p (by omega) hq)
      refine vq_aload_n d_H_gather_23 rfl ?_
      refine vq_getR (k := 2) (C := R_H) (T := T_H) d_H_gather_24 rfl in_H w_130 (by decide) rfl (by decide) rfl rfl ?_
      refine vq_iload_n d_H_gather_27 rfl ?_
      refine vq_aload_n d_H_gather_28 rfl ?_
      refine vq_getR (k := 0) (C := R_H) (T := T_H) d_H_gather_29 rfl in_H w_128 (by decide) rfl (by decide) rfl rfl ?_
      refine vq_iload_n d_H_gather_32 rfl ?_
      refine vq_aload_n d_H_gather_33 rfl ?_
      refine vq_getR (k := 1) (C := R_H) (T := T_H) d_H_gather_34 rfl in_H w_129 (by decide) rfl (by decide) rfl rfl ?_
      refine vq_getI (k := 1) (C := R_V) (T := T_V) d_H_gather_37 rfl in_V w_84 (by decide) rfl (by decide) rfl ?_
      refine vq_int (y := nI e) hk1.1 ?_
      refine vq_callV (n := 2) (C := R_F) (T := T_F) _ _ d_H_gather_40 (ct_F_isChild l b id D hW hc1 hi he) w_302 w_303 w_304 w_305 w_2 rfl ⟨by decide, by decide, by decide +kernel⟩ ⟨by decide, by decide⟩ (by decide) rfl rfl rfl rfl (Nat.le_of_ble_eq_true rfl) rfl rfl rfl ⟨by decide, by decide⟩ (fun _ _ h => h.elim) (fun v40 g40 h40 => ?_)
      rw [h40.1, h40.2]
      refine vq_if_eq (tgt := 62) d_H_gather_43 (by decide) (fun h43 => ?_) (fun h43 => ?_)
      · have hz : zIn0 F e i = false := by unfold zIn0; rw [bI_0.mp h43]; rfl
        refine vq_iconst (v := 0) d_H_gather_62 (by decide) ?_
        refine vq_zast d_H_gather_63 rfl (by decide) rfl rfl (show _ < 20 by omega) (by first | exact Or.inl rfl | exact Or.inr rfl | assumption) ?_
        have hzz : sI g1 39 (upd (g1.1 39) i (bI (zIn0 F e i))) = _ := rfl
        rw [hz] at hzz s64
        exact s64
      · have hch := bI_n0.mp h43
        refine vq_aload_n d_H_gather_46 rfl ?_
        refine vq_getR (k := 1) (C := R_H) (T := T_H) d_H_gather_47 rfl in_H w_129 (by decide) rfl (by decide) rfl rfl ?_
        refine vq_iload_n d_H_gather_50 rfl ?_
        refine vq_iconst (v := 0) d_H_gather_51 (by decide) ?_
        refine vq_callV (n := 2) (C := R_V) (T := T_V) _ _ d_H_gather_52 (ct_V_hasHeirs l b id D (o := some i) (h := 0) (Y := zX F e) (by omega) (fun j hj => by cases hj; exact ⟨by omega, hk1.2.2.2.2.2 0 (by omega) i hi⟩)) w_306 w_279 w_280 w_281 w_3 rfl ⟨by decide, by decide, by decide +kernel⟩ ⟨by decide, by decide⟩ (by decide) rfl rfl rfl rfl (Nat.le_of_ble_eq_true rfl) rfl rfl rfl ⟨by decide, by decide⟩ (fun _ _ h => h.elim) (fun v52 g52 h52 => ?_)
        rw [h52.1, h52.2]
        refine vq_if_eq (tgt := 62) d_H_gather_55 (by decide) (fun h55 => ?_) (fun h55 => ?_)
        · have hz : zIn0 F e i = false := by unfold zIn0; rw [hch, show zX F e i = _ from bI_0.mp h55]; rfl
          refine vq_iconst (v := 0) d_H_gather_62 (by decide) ?_
          refine vq_zast d_H_gather_63 rfl (by decide) rfl rfl (show _ < 20 by omega) (by first | exact Or.inl rfl | exact Or.inr rfl | assumption) ?_
          have hzz : sI g1 39 (upd (g1.1 39) i (bI (zIn0 F e i))) = _ := rfl
          rw [hz] at hzz s64
          exact s64
        · have hz : zIn0 F e i = true := by unfold zIn0; rw [hch, show zX F e i = _ from bI_n0.mp h55]; rfl
          refine vq_iconst (v := 1) d_H_gather_58 (by decide) ?_
          refine vq_goto (tgt := 63) d_H_gather_59 (by decide) ?_
          refine vq_zast d_H_gather_63 rfl (by decide) rfl rfl (show _ < 20 by omega) (by first | exact Or.inl rfl | exact Or.inr rfl | assumption) ?_
          have hzz : sI g1 39 (upd (g1.1 39) i (bI (zIn0 F e i))) = _ := rfl
          rw [hz] at hzz s64
          exact s64
  refine vq_aload_n d_H_gather_0 rfl ?_
  refine vq_lload_n d_H_gather_1 rfl ?_
  refine vq_putJ (k := 4) (C := R_H) (T := T_H) t_H d_H_gather_2 rfl in_H w_134 ty_H nm_H (by decide) rfl (by decide) rfl (by decide +kernel) rfl ?_
  refine vq_aload_n d_H_gather_5 rfl ?_
  refine vq_iconst (v := 0) d_H_gather_6 (by decide) ?_
  refine vq_putI (k := 3) (C := R_H) (T := T_H) (ty := .int) t_H d_H_gather_7 rfl in_H w_132 ty_H nm_H (by decide) rfl (by decide) rfl (by decide +kernel) rfl rfl rfl ?_
  refine vq_iconst (v := 0) d_H_gather_10 (by decide) ?_
  refine vq_istore_n (lv' := [(3, _), (0, _), (1, _)]) d_H_gather_11 (by decide) rfl ?_
  refine loop (zn F) 0 _ rfl ⟨by omega, fun q a d => by rw [sI_n a]; rfl, fun k a => by rw [sI_s, upd, if_neg a]; rfl, fun q a d => by rw [sI_2, sJ_n a], fun p hp => absurd hp (Nat.not_lt_zero p), ?_, ?_, fun p hp => absurd hp (Nat.not_lt_zero p)⟩
  · rw [sI_s, upd, if_pos rfl]; rfl
  · rw [sI_2, sJ_s, vp_updL, if_pos rfl]; rfl
