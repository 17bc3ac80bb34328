/-! SuccessionClerk$Division: what is raised. Laid by wip/whole/specs/p27.py -/
theorem zc1_eq (F : Fam) (e h : Nat) (v : Nat → Nat) (w j : Nat) : zc1 F e h v w j = (if zoB (za F w) (zY F e h) = true ∧ za F w = some j then (if (zoB (za F w) (zY F e h) && zoB (zb F w) (zY F e h)) = true then v w / 2 else v w) else 0) + (if zoB (zb F w) (zY F e h) = true ∧ zb F w = some j then (if (zoB (za F w) (zY F e h) && zoB (zb F w) (zY F e h)) = true then v w / 2 else v w) else 0) := by
  unfold zc1
  congr 1
  · by_cases ha : za F w = some j
    · have h1 : zoB (za F w) (zY F e h) = zY F e h j := by rw [ha]; rfl
      rw [h1]
      by_cases hy : zY F e h j = true
      · simp [ha, hy]
      · simp [hy]
    · simp [ha]
  · by_cases hb : zb F w = some j
    · have h1 : zoB (zb F w) (zY F e h) = zY F e h j := by rw [hb]; rfl
      rw [h1]
      by_cases hy : zY F e h j = true
      · simp [hb, hy]
      · simp [hy]
    · simp [hb]
theorem up_at (f : Nat → Int64) (a x j : Nat) : vp_updL f a (f a + lN x) j = f j + lN (if a = j then x else 0) := by
  unfold vp_updL
  by_cases h : j = a
  · subst h; simp
  · rw [if_neg h, if_neg (Ne.symm h), show lN 0 = 0 from rfl, Int64.add_zero]
theorem zc1_le {F : Fam} (hW : zW F) {e h p : Nat} (hp : p < zn F) (v : Nat → Nat) : zsum (fun j => zc1 F e h v p j) (zn F) ≤ v p := by
  unfold zc1
  rw [zsum_add, zpt (za F p) (zY F e h) _ (zn F) (fun j hj => Nat.lt_trans (zpar hW hp (Or.inl hj)) hp), zpt (zb F p) (zY F e h) _ (zn F) (fun j hj => Nat.lt_trans (zpar hW hp (Or.inr hj)) hp)]
  by_cases ha : zoB (za F p) (zY F e h) = true <;> by_cases hb : zoB (zb F p) (zY F e h) = true <;> simp [ha, hb] <;> omega
theorem zcl_le {F : Fam} (hW : zW F) {e h : Nat} (v : Nat → Nat) : zsum (zcl F e h v) (zn F) ≤ zsum v (zn F) := by
  show zsum (fun j => zsum (fun p => zc1 F e h v p j) (zn F)) (zn F) ≤ _
  rw [zsum_swap]
  exact zsum_le (fun p hp => zc1_le hW hp v)
theorem zc1_0 {F : Fam} {e h : Nat} {v : Nat → Nat} {w : Nat} (hv : v w = 0) (j : Nat) : zc1 F e h v w j = 0 := by
  unfold zc1; simp [hv]
set_option maxRecDepth 100000 in
set_option maxHeartbeats 4000000 in
theorem ct_D_raisePart (l : Launch) (b : Nat) (id : Nat → ClassId) (D : va_G) {g : Sg} {F : Fam} (hW : zW F) (hc : Hc g F) {e : Nat} (he : e < zn F) (hk : LK g F e) {w h : Nat} {v : Nat → Nat} (hw : w < zn F) (hh : h ≤ 2) (hv : g.2 36 w = lN (v w)) (hv63 : v w < 2 ^ 63) : qCT l b id D m_D_raisePart false [.ref (b + 34), .int (nI w), .int (nI h)] 85 kT g 85 kT (fun v' g' => v' = none ∧ g'.1 = g.1 ∧ (∀ q, q ≠ 37 → g'.2 q = g.2 q) ∧ (∀ j, j < zn F → g'.2 37 j = g.2 37 j + lN (zc1 F e h v w j))) (fun _ _ => False) := by
  have hn := hW.1
  refine qCT_of rfl (by decide) (Nat.le_of_ble_eq_true rfl) ?_
  show Vq l b id D m_D_raisePart false 85 kT _ 85 kT _ 85 kT 0 0 0 [(0, .ref (b + 34)), (1, .int (nI w)), (2, .int (nI h))] [] g
  have s73 : Vq l b id D m_D_raisePart false 85 kT (fun v' g' => v' = none ∧ g'.1 = g.1 ∧ (∀ q, q ≠ 37 → g'.2 q = g.2 q) ∧ (∀ j, j < zn F → g'.2 37 j = g.2 37 j + lN (zc1 F e h v w j))) 85 kT (fun _ _ => False) 85 kT 0 0 73 [(6, .int (bI (zoB (zb F w) (zY F e h)))), (5, .int (bI (zoB (za F w) (zY F e h)))), (4, .int (eO (zb F w))), (3, .int (eO (za F w))), (0, .ref (b + 34)), (1, .int (nI w)), (2, .int (nI h))] [.long (lN (if (zoB (za F w) (zY F e h) && zoB (zb F w) (zY F e h)) = true then v w / 2 else v w))] g := by
    refine vq_lstore (lv' := [(7, _), (6, _), (5, _), (4, _), (3, _), (0, _), (1, _), (2, _)]) d_D_raisePart_73 (by decide) rfl ?_
    refine vq_iload d_D_raisePart_75 rfl ?_
    refine vq_if_eq (tgt := 91) d_D_raisePart_77 (by decide) (fun h77 => ?_) (fun h77 => ?_)
    · have hA := bI_0.mp h77
      refine vq_iload d_D_raisePart_91 rfl ?_
      refine vq_if_eq (tgt := 108) d_D_raisePart_93 (by decide) (fun h93 => ?_) (fun h93 => ?_)
      · have hB := bI_0.mp h93
        refine vq_vret d_D_raisePart_108 rfl (by decide) (by decide) rfl rfl ?_
        refine ⟨rfl, rfl, fun q hq => by first | rfl | simp [sJ, hq], fun j hj => ?_⟩
        rw [zc1_eq]
        generalize (if (zoB (za F w) (zY F e h) && zoB (zb F w) (zY F e h)) = true then v w / 2 else v w) = pt
        first
          | (simp only [hA, hB]; simp; done)
          | (simp only [hA, hB]; simp [show lN 0 = 0 from rfl]; done)
          | (rw [sJ_s, up_at, hA, hB, ha]; simp; done)
          | (rw [sJ_s, up_at, hA, hB, hcc]; simp; done)
          | (rw [sJ_s, sJ_s, up_at, up_at, hA, hB, ha, hcc, Int64.add_assoc, lN_add]; simp)
      · have hB := bI_n0.mp h93
        obtain ⟨c, hcc, -⟩ := zoB_some hB
        have hcw := hW.2.2.1 w c hw hcc
        refine vq_aload_n d_D_raisePart_96 rfl ?_
        refine vq_getR (k := 6) (C := R_D) (T := T_D) d_D_raisePart_97 rfl in_D w_158 (by decide) rfl (by decide) rfl rfl ?_
        refine vq_iload d_D_raisePart_100 rfl ?_
        refine vq_dup2_11 d_D_raisePart_102 rfl rfl ?_
        refine vq_lald d_D_raisePart_103 (by decide) rfl (show _ = nI c by rw [hcc]; rfl) (show _ < 20 by omega) ?_
        refine vq_lload d_D_raisePart_104 rfl ?_
        refine vq_ladd d_D_raisePart_106 ?_
        refine vq_last d_D_raisePart_107 rfl (by decide) rfl (show _ = nI c by rw [hcc]; rfl) (show _ < 20 by omega) ?_
        refine vq_vret d_D_raisePart_108 rfl (by decide) (by decide) rfl rfl ?_
        refine ⟨rfl, rfl, fun q hq => by first | rfl | simp [sJ, hq], fun j hj => ?_⟩
        rw [zc1_eq]
        generalize (if (zoB (za F w) (zY F e h) && zoB (zb F w) (zY F e h)) = true then v w / 2 else v w) = pt
        first
          | (simp only [hA, hB]; simp; done)
          | (simp only [hA, hB]; simp [show lN 0 = 0 from rfl]; done)
          | (rw [sJ_s, up_at, hA, hB, ha]; simp; done)
          | (rw [sJ_s, up_at, hA, hB, hcc]; simp; done)
          | (rw [sJ_s, sJ_s, up_at, up_at, hA, hB, ha, hcc, Int64.add_assoc, lN_add]; simp)
    · have hA := bI_n0.mp h77
      obtain ⟨a, ha, -⟩ := zoB_some hA
      have haw := hW.2.1 w a hw ha
      refine vq_aload_n d_D_raisePart_80 rfl ?_
      refine vq_getR (k := 6) (C := R_D) (T := T_D) d_D_raisePart_81 rfl in_D w_158 (by decide) rfl (by decide) rfl rfl ?_
      refine vq_iload_n d_D_raisePart_84 rfl ?_
      refine vq_dup2_11 d_D_raisePart_85 rfl rfl ?_
      refine vq_lald d_D_raisePart_86 (by decide) rfl (show _ = nI a by rw [ha]; rfl) (show _ < 20 by omega) ?_
      refine vq_lload d_D_raisePart_87 rfl ?_
      refine vq_ladd d_D_raisePart_89 ?_
      refine vq_last d_D_raisePart_90 rfl (by decide) rfl (show _ = nI a by rw [ha]; rfl) (show _ < 20 by omega) ?_
      refine vq_iload d_D_raisePart_91 rfl ?_
      refine vq_if_eq (tgt := 108) d_D_raisePart_93 (by decide) (fun h93 => ?_) (fun h93 => ?_)
      · have hB := bI_0.mp h93
        refine vq_vret d_D_raisePart_108 rfl (by decide) (by decide) rfl rfl ?_
        refine ⟨rfl, rfl, fun q hq => by first | rfl | simp [sJ, hq], fun j hj => ?_⟩
        rw [zc1_eq]
        generalize (if (zoB (za F w) (zY F e h) && zoB (zb F w) (zY F e h)) = true then v w / 2 else v w) = pt
        first
          | (simp only [hA, hB]; simp; done)
          | (simp only [hA, hB]; simp [show lN 0 = 0 from rfl]; done)
          | (rw [sJ_s, up_at, hA, hB, ha]; simp; done)
          | (rw [sJ_s, up_at, hA, hB, hcc]; simp; done)
          | (rw [sJ_s, sJ_s, up_at, up_at, hA, hB, ha, hcc, Int64.add_assoc, lN_add]; simp)
      · have hB := bI_n0.mp h93
        obtain ⟨c, hcc, -⟩ := zoB_some hB
        have hcw := hW.2.2.1 w c hw hcc
        refine vq_aload_n d_D_raisePart_96 rfl ?_
        refine vq_getR (k := 6) (C := R_D) (T := T_D) d_D_raisePart_97 rfl in_D w_158 (by decide) rfl (by decide) rfl rfl ?_
        refine vq_iload d_D_raisePart_100 rfl ?_
        refine vq_dup2_11 d_D_raisePart_102 rfl rfl ?_
        refine vq_lald d_D_raisePart_103 (by decide) rfl (show _ = nI c by rw [hcc]; rfl) (show _ < 20 by omega) ?_
        refine vq_lload d_D_raisePart_104 rfl ?_
        refine vq_ladd d_D_raisePart_106 ?_
        refine vq_last d_D_raisePart_107 rfl (by decide) rfl (show _ = nI c by rw [hcc]; rfl) (show _ < 20 by omega) ?_
        refine vq_vret d_D_raisePart_108 rfl (by decide) (by decide) rfl rfl ?_
        refine ⟨rfl, rfl, fun q hq => by first | rfl | simp [sJ, hq], fun j hj => ?_⟩
        rw [zc1_eq]
        generalize (if (zoB (za F w) (zY F e h) && zoB (zb F w) (zY F e h)) = true then v w / 2 else v w) = pt
        first
          | (simp only [hA, hB]; simp; done)
          | (simp only [hA, hB]; simp [show lN 0 = 0 from rfl]; done)
          | (rw [sJ_s, up_at, hA, hB, ha]; simp; done)
          | (rw [sJ_s, up_at, hA, hB, hcc]; simp; done)
          | (rw [sJ_s, sJ_s, up_at, up_at, hA, hB, ha, hcc, Int64.add_assoc, lN_add]; simp)
  refine vq_aload_n d_D_raisePart_0 rfl ?_
  refine vq_getR (k := 0) (C := R_D) (T := T_D) d_D_raisePart_1 rfl in_D w_150 (by decide) rfl (by decide) rfl rfl ?_
  refine vq_getR (k := 1) (C := R_F) (T := T_F) d_D_raisePart_4 rfl in_F w_40 (by decide) rfl (by decide) rfl rfl ?_
  refine vq_iload_n d_D_raisePart_7 rfl ?_
  refine vq_iald d_D_raisePart_8 (by decide) rfl rfl (show _ < 20 by omega) ?_
  refine vq_int (y := eO (za F w)) (hc.2.1 w hw) ?_
  refine vq_istore_n (lv' := [(3, _), (0, _), (1, _), (2, _)]) d_D_raisePart_9 (by decide) rfl ?_
  refine vq_aload_n d_D_raisePart_10 rfl ?_
  refine vq_getR (k := 0) (C := R_D) (T := T_D) d_D_raisePart_11 rfl in_D w_150 (by decide) rfl (by decide) rfl rfl ?_
  refine vq_getR (k := 2) (C := R_F) (T := T_F) d_D_raisePart_14 rfl in_F w_44 (by decide) rfl (by decide) rfl rfl ?_
  refine vq_iload_n d_D_raisePart_17 rfl ?_
  refine vq_iald d_D_raisePart_18 (by decide) rfl rfl (show _ < 20 by omega) ?_
  refine vq_int (y := eO (zb F w)) (hc.2.2.1 w hw) ?_
  refine vq_istore (lv' := [(4, _), (3, _), (0, _), (1, _), (2, _)]) d_D_raisePart_19 (by decide) rfl ?_
  refine vq_aload_n d_D_raisePart_21 rfl ?_
  refine vq_getR (k := 1) (C := R_D) (T := T_D) d_D_raisePart_22 rfl in_D w_151 (by decide) rfl (by decide) rfl rfl ?_
  refine vq_iload_n d_D_raisePart_25 rfl ?_
  refine vq_iload_n d_D_raisePart_26 rfl ?_
  refine vq_callV (n := 2) (C := R_V) (T := T_V) _ _ d_D_raisePart_27 (ct_V_hasHeirs l b id D (o := za F w) (h := h) (Y := zY F e h) (by omega) (fun j hj => ⟨by have := hW.2.1 w j hw hj; omega, hk.2.2.2.2.2 h (by omega) j (by have := hW.2.1 w j hw hj; omega)⟩)) w_340 w_279 w_280 w_281 w_3 rfl ⟨by decide, by decide, by decide +kernel⟩ ⟨by decide, by decide⟩ (by decide) rfl rfl rfl rfl (Nat.le_of_ble_eq_true rfl) rfl rfl rfl ⟨by decide, by decide⟩ (fun _ _ h => h.elim) (fun v27 g27 h27 => ?_)
  rw [h27.1, h27.2]
  refine vq_istore (lv' := [(5, _), (4, _), (3, _), (0, _), (1, _), (2, _)]) d_D_raisePart_30 (by decide) rfl ?_
  refine vq_aload_n d_D_raisePart_32 rfl ?_
  refine vq_getR (k := 1) (C := R_D) (T := T_D) d_D_raisePart_33 rfl in_D w_151 (by decide) rfl (by decide) rfl rfl ?_
  refine vq_iload d_D_raisePart_36 rfl ?_
  refine vq_iload_n d_D_raisePart_38 rfl ?_
  refine vq_callV (n := 2) (C := R_V) (T := T_V) _ _ d_D_raisePart_39 (ct_V_hasHeirs l b id D (o := zb F w) (h := h) (Y := zY F e h) (by omega) (fun j hj => ⟨by have := hW.2.2.1 w j hw hj; omega, hk.2.2.2.2.2 h (by omega) j (by have := hW.2.2.1 w j hw hj; omega)⟩)) w_340 w_279 w_280 w_281 w_3 rfl ⟨by decide, by decide, by decide +kernel⟩ ⟨by decide, by decide⟩ (by decide) rfl rfl rfl rfl (Nat.le_of_ble_eq_true rfl) rfl rfl rfl ⟨by decide, by decide⟩ (fun _ _ h => h.elim) (fun v39 g39 h39 => ?_)
  rw [h39.1, h39.2]
  refine vq_istore (lv' := [(6, _), (5, _), (4, _), (3, _), (0, _), (1, _), (2, _)]) d_D_raisePart_42 (by decide) rfl ?_
  refine vq_iload d_D_raisePart_44 rfl ?_
  refine vq_if_eq (tgt := 67) d_D_raisePart_46 (by decide) (fun h46 => ?_) (fun h46 => ?_)
  · have hA := bI_0.mp h46
    refine vq_aload_n d_D_raisePart_67 rfl ?_
    refine vq_getR (k := 5) (C := R_D) (T := T_D) d_D_raisePart_68 rfl in_D w_157 (by decide) rfl (by decide) rfl rfl ?_
    refine vq_iload_n d_D_raisePart_71 rfl ?_
    refine vq_lald d_D_raisePart_72 (by decide) rfl rfl (show _ < 20 by omega) ?_
    refine vq_long (y := lN (v w)) hv ?_
    refine vq_long (show _ = lN (if (zoB (za F w) (zY F e h) && zoB (zb F w) (zY F e h)) = true then v w / 2 else v w) by first | (rw [hA, hB]; rfl) | (rw [hA]; rfl)) ?_
    exact s73
  · have hA := bI_n0.mp h46
    refine vq_iload d_D_raisePart_49 rfl ?_
    refine vq_if_eq (tgt := 67) d_D_raisePart_51 (by decide) (fun h51 => ?_) (fun h51 => ?_)
    · have hB := bI_0.mp h51
      refine vq_aload_n d_D_raisePart_67 rfl ?_
      refine vq_getR (k := 5) (C := R_D) (T := T_D) d_D_raisePart_68 rfl in_D w_157 (by decide) rfl (by decide) rfl rfl ?_
      refine vq_iload_n d_D_raisePart_71 rfl ?_
      refine vq_lald d_D_raisePart_72 (by decide) rfl rfl (show _ < 20 by omega) ?_
      refine vq_long (y := lN (v w)) hv ?_
      refine vq_long (show _ = lN (if (zoB (za F w) (zY F e h) && zoB (zb F w) (zY F e h)) = true then v w / 2 else v w) by first | (rw [hA, hB]; rfl) | (rw [hA]; rfl)) ?_
      exact s73
    · have hB := bI_n0.mp h51
      refine vq_aload_n d_D_raisePart_54 rfl ?_
      refine vq_getR (k := 5) (C := R_D) (T := T_D) d_D_raisePart_55 rfl in_D w_157 (by decide) rfl (by decide) rfl rfl ?_
      refine vq_iload_n d_D_raisePart_58 rfl ?_
      refine vq_lald d_D_raisePart_59 (by decide) rfl rfl (show _ < 20 by omega) ?_
      refine vq_long (y := lN (v w)) hv ?_
      refine vq_ldc2 d_D_raisePart_60 w_354 ?_
      refine vq_ldiv d_D_raisePart_63 (by decide) ?_
      rw [show (2 : Int64) = lN 2 from rfl, pk_lDiv hv63 (by decide) (by decide)]
      refine vq_goto (tgt := 73) d_D_raisePart_64 (by decide) ?_
      refine vq_long (show _ = lN (if (zoB (za F w) (zY F e h) && zoB (zb F w) (zY F e h)) = true then v w / 2 else v w) by first | (rw [hA, hB]; rfl) | (rw [hA]; rfl)) ?_
      exact s73
set_option maxRecDepth 100000 in
set_option maxHeartbeats 4000000 in
theorem ct_D_raiseParts (l : Launch) (b : Nat) (id : Nat → ClassId) (D : va_G) {g : Sg} {F : Fam} (hW : zW F) (hc : Hc g F) {e : Nat} (he : e < zn F) (hk : LK g F e) {t : Nat} {v : Nat → Nat} (ht : t ≤ 3) (hv63 : zsum v (zn F) < 2 ^ 63) (hv : ∀ p, p < zn F → g.2 36 p = lN (v p)) : qCT l b id D m_D_raiseParts false [.ref (b + 34), .int (nI t)] 85 kT g 85 kT (fun v' g' => v' = none ∧ g'.1 = g.1 ∧ (∀ q, q ≠ 36 → q ≠ 37 → g'.2 q = g.2 q) ∧ (∀ p, p < zn F → g'.2 36 p = lN (zup F e t v p))) (fun _ _ => False) := by
  have hn := hW.1
  refine qCT_of rfl (by decide) (Nat.le_of_ble_eq_true rfl) ?_
  show Vq l b id D m_D_raiseParts false 85 kT _ 85 kT _ 85 kT 0 0 0 [(0, .ref (b + 34)), (1, .int (nI t))] [] g
  have loop : ∀ (n9 : Nat) (k : Nat) (g1 : Sg) (V : Nat → Nat), k = n9 → (k ≤ t ∧ g1.1 = g.1 ∧ (∀ q, q ≠ 36 → q ≠ 37 → g1.2 q = g.2 q) ∧ zsum V (zn F) < 2 ^ 63 ∧ (∀ p, p < zn F → g1.2 36 p = lN (V p)) ∧ (∀ p, p < zn F → zup F e k V p = zup F e t v p)) → Vq l b id D m_D_raiseParts false 85 kT (fun v' g' => v' = none ∧ g'.1 = g.1 ∧ (∀ q, q ≠ 36 → q ≠ 37 → g'.2 q = g.2 q) ∧ (∀ p, p < zn F → g'.2 36 p = lN (zup F e t v p))) 85 kT (fun _ _ => False) 85 kT 0 0 4 [(2, .int (nI k - 1)), (0, .ref (b + 34)), (1, .int (nI t))] [] g1 := by
    intro n9
    induction n9 using Nat.strongRecOn with
    | ind n9 ih =>
    intro k g1 V hm hI
    have hk1 := hI.1
    refine vq_iload_n d_D_raiseParts_4 rfl ?_
    refine vq_if_lt (tgt := 73) d_D_raiseParts_5 (by decide) (fun h5 => ?_) (fun h5 => ?_)
    · have hk0 : k = 0 := by
        cases k with
        | zero => rfl
        | succ r => exact absurd h5 (by rw [nI_pred]; exact nI_pos (by omega))
      subst hk0
      refine vq_vret d_D_raiseParts_73 rfl (by decide) (by decide) rfl rfl ?_
      exact ⟨rfl, hI.2.1, hI.2.2.1, fun p hp => by rw [hI.2.2.2.2.1 p hp, ← hI.2.2.2.2.2 p hp]; rfl⟩
    · obtain ⟨r, rfl⟩ : ∃ r, k = r + 1 := by
        cases k with
        | zero => exact absurd (by decide) h5
        | succ r => exact ⟨r, rfl⟩
      rw [nI_pred]
      have inner : ∀ (n8 : Nat) (i : Nat) (g2 : Sg), zn F - i = n8 → (i ≤ zn F ∧ g2.1 = g.1 ∧ (∀ q, q ≠ 37 → g2.2 q = g1.2 q) ∧ (∀ j, j < zn F → g2.2 37 j = lN (zsum (fun p => zc1 F e r V p j) i))) → Vq l b id D m_D_raiseParts false 85 kT (fun v' g' => v' = none ∧ g'.1 = g.1 ∧ (∀ q, q ≠ 36 → q ≠ 37 → g'.2 q = g.2 q) ∧ (∀ p, p < zn F → g'.2 36 p = lN (zup F e t v p))) 85 kT (fun _ _ => False) 85 kT 0 0 18 [(3, .int (nI i)), (2, .int (nI r)), (0, .ref (b + 34)), (1, .int (nI t))] [] g2 := by
        intro n8
        induction n8 using Nat.strongRecOn with
        | ind n8 ih8 =>
        intro i g2 hm8 hJ
        have hj1 := hJ.1
        have hc2 : Hc g2 F := hc.congr (fun q a c => by rw [hJ.2.1])
        have hk2 : LK g2 F e := hk.congr (fun q a c => by rw [hJ.2.1])
        refine vq_iload_n d_D_raiseParts_18 rfl ?_
        refine vq_aload_n d_D_raiseParts_19 rfl ?_
        refine vq_getR (k := 0) (C := R_D) (T := T_D) d_D_raiseParts_20 rfl in_D w_150 (by decide) rfl (by decide) rfl rfl ?_
        refine vq_getI (k := 0) (C := R_F) (T := T_F) d_D_raiseParts_23 rfl in_F w_35 (by decide) rfl (by decide) rfl ?_
        refine vq_int (y := nI (zn F)) hc2.1 ?_
        refine vq_icmp_ge (tgt := 52) d_D_raiseParts_26 (by decide) (fun h26 => ?_) (fun h26 => ?_)
        · have hi : i = zn F := by
            rw [nI_leI (by omega) (by omega)] at h26
            omega
          subst hi
          refine vq_aload_n d_D_raiseParts_52 rfl ?_
          refine vq_getR (k := 6) (C := R_D) (T := T_D) d_D_raiseParts_53 rfl in_D w_158 (by decide) rfl (by decide) rfl rfl ?_
          refine vq_iconst (v := 0) d_D_raiseParts_56 (by decide) ?_
          refine vq_aload_n d_D_raiseParts_57 rfl ?_
          refine vq_getR (k := 5) (C := R_D) (T := T_D) d_D_raiseParts_58 rfl in_D w_157 (by decide) rfl (by decide) rfl rfl ?_
          refine vq_iconst (v := 0) d_D_raiseParts_61 (by decide) ?_
          refine vq_bipush (v := 20) d_D_raiseParts_62 (by decide) ?_
          refine vq_copy 20 d_D_raiseParts_64 w_355 w_357 w_356 w_14 rfl (by decide) (by decide) rfl rfl (by decide) (by decide) (by decide) (by decide) ?_
          refine vq_iinc (k := 1) (lv' := [(2, _), (3, _), (0, _), (1, _)]) d_D_raiseParts_67 rfl (im1 (nI r)) (by decide) rfl ?_
          refine vq_goto (tgt := 4) d_D_raiseParts_70 (by decide) ?_
          refine vq_pk [0, 2, 3] (lv' := [(2, _), (0, _), (1, _)]) rfl ?_
          refine ih r (by omega) r _ (zcl F e r V) rfl ⟨by omega, hJ.2.1, fun q a c => ?_, Nat.lt_of_le_of_lt (zcl_le hW V) hI.2.2.2.1, fun p hp => ?_, fun p hp => hI.2.2.2.2.2 p hp⟩
          · rw [sJ_n a, hJ.2.2.1 q c]; exact hI.2.2.1 q a c
          · rw [sJ_s, pk_cpy_in (by omega) (by omega)]
            simp only [Nat.sub_zero, Nat.zero_add]
            exact hJ.2.2.2 p hp
        · have hi : i < zn F := by
            rw [nI_leI (by omega) (by omega)] at h26
            omega
          have hV63 : V i < 2 ^ 63 := Nat.lt_of_le_of_lt (zsum_one hi) hI.2.2.2.1
          have s46 : ∀ (g3 : Sg), (g3.1 = g.1 ∧ (∀ q, q ≠ 37 → g3.2 q = g1.2 q) ∧ (∀ j, j < zn F → g3.2 37 j = lN (zsum (fun p => zc1 F e r V p j) (i + 1)))) → Vq l b id D m_D_raiseParts false 85 kT (fun v' g' => v' = none ∧ g'.1 = g.1 ∧ (∀ q, q ≠ 36 → q ≠ 37 → g'.2 q = g.2 q) ∧ (∀ p, p < zn F → g'.2 36 p = lN (zup F e t v p))) 85 kT (fun _ _ => False) 85 kT 0 0 46 [(3, .int (nI i)), (2, .int (nI r)), (0, .ref (b + 34)), (1, .int (nI t))] [] g3 := by
            intro g3 hI3
            refine vq_iinc (k := 0) (lv' := [(3, _), (2, _), (0, _), (1, _)]) d_D_raiseParts_46 rfl (ip1 i) (by decide) rfl ?_
            refine vq_goto (tgt := 18) d_D_raiseParts_49 (by decide) ?_
            exact ih8 (zn F - (i + 1)) (by omega) (i + 1) _ rfl ⟨by omega, hI3⟩
          refine vq_aload_n d_D_raiseParts_29 rfl ?_
          refine vq_getR (k := 5) (C := R_D) (T := T_D) d_D_raiseParts_30 rfl in_D w_157 (by decide) rfl (by decide) rfl rfl ?_
          refine vq_iload_n d_D_raiseParts_33 rfl ?_
          refine vq_lald d_D_raiseParts_34 (by decide) rfl rfl (show _ < 20 by omega) ?_
          refine vq_long (y := lN (V i)) (by rw [hJ.2.2.1 36 (by decide)]; exact hI.2.2.2.2.1 i hi) ?_
          refine vq_lconst (v := 0) d_D_raiseParts_35 rfl ?_
          refine vq_lcmp d_D_raiseParts_36 ?_
          refine vq_if_le (tgt := 46) d_D_raiseParts_37 (by decide) (fun h37 => ?_) (fun h37 => ?_)
          · rw [lpos hV63] at h37
            first
              | exact s46 _ ⟨a1.trans hJ.2.1, fun q hq => (a2 q hq).trans (hJ.2.2.1 q hq), fun j hj => by rw [a3 j hj, hJ.2.2.2 j hj, lN_add]; rfl⟩
              | exact s46 _ ⟨hJ.2.1, hJ.2.2.1, fun j hj => by rw [hJ.2.2.2 j hj]; show _ = lN (_ + zc1 F e r V i j); rw [zc1_0 h37]; rfl⟩
          · rw [lpos hV63] at h37
            refine vq_aload_n d_D_raiseParts_40 rfl ?_
            refine vq_iload_n d_D_raiseParts_41 rfl ?_
            refine vq_iload_n d_D_raiseParts_42 rfl ?_
            refine vq_callV (n := 2) (C := R_D) (T := T_D) _ _ d_D_raiseParts_43 (ct_D_raisePart l b id D hW hc2 he hk2 (w := i) (h := r) (v := V) hi (by omega) (by rw [hJ.2.2.1 36 (by decide)]; exact hI.2.2.2.2.1 i hi) hV63) w_350 w_352 sel_D_raisePart w_353 w_4 rfl ⟨by decide, by decide, by decide +kernel⟩ ⟨by decide, by decide⟩ (by decide) rfl rfl rfl rfl (Nat.le_of_ble_eq_true rfl) rfl rfl rfl ⟨by decide, by decide⟩ (fun _ _ h => h.elim) (fun v43 g43 h43 => ?_)
            obtain ⟨rfl, a1, a2, a3⟩ := h43
            first
              | exact s46 _ ⟨a1.trans hJ.2.1, fun q hq => (a2 q hq).trans (hJ.2.2.1 q hq), fun j hj => by rw [a3 j hj, hJ.2.2.2 j hj, lN_add]; rfl⟩
              | exact s46 _ ⟨hJ.2.1, hJ.2.2.1, fun j hj => by rw [hJ.2.2.2 j hj]; show _ = lN (_ + zc1 F e r V i j); rw [zc1_0 h37]; rfl⟩
      refine vq_aload_n d_D_raiseParts_8 rfl ?_
      refine vq_getR (k := 6) (C := R_D) (T := T_D) d_D_raiseParts_9 rfl in_D w_158 (by decide) rfl (by decide) rfl rfl ?_
      refine vq_lconst (v := 0) d_D_raiseParts_12 rfl ?_
      refine vq_callS (n := 2) _ _ d_D_raiseParts_13 (ct_A_fillJ l b id D (q := 37) (by decide) rfl 0) w_329 w_236 w_237 w_13 rfl ⟨by decide, by decide, by decide +kernel⟩ ⟨by decide, by decide⟩ rfl rfl (Nat.le_of_ble_eq_true rfl) rfl rfl rfl ⟨by decide, by decide⟩ (fun _ _ h => h.elim) (fun v13 g13 h13 => ?_)
      obtain ⟨rfl, f, rfl, hf⟩ := h13
      refine vq_iconst (v := 0) d_D_raiseParts_16 (by decide) ?_
      refine vq_istore_n (lv' := [(3, _), (2, _), (0, _), (1, _)]) d_D_raiseParts_17 (by decide) rfl ?_
      exact inner (zn F) 0 _ rfl ⟨by omega, hI.2.1, fun q hq => sJ_n hq, fun j hj => by rw [sJ_s]; exact hf j (show j < 20 by omega)⟩
  refine vq_iload_n d_D_raiseParts_0 rfl ?_
  refine vq_iconst (v := 1) d_D_raiseParts_1 (by decide) ?_
  refine vq_isub d_D_raiseParts_2 ?_
  refine vq_istore_n (lv' := [(2, _), (0, _), (1, _)]) d_D_raiseParts_3 (by decide) rfl ?_
  exact loop t t _ v rfl ⟨Nat.le_refl _, rfl, fun q a c => rfl, hv63, hv, fun p hp => rfl⟩
