/-! SuccessionClerk$Division: the product, the start, what is lowered. Laid by wip/whole/specs/p26.py -/
theorem lpos {a : Nat} (ha : a < 2 ^ 63) : (lg_cmp (lN a) 0 ≤ 0) ↔ a = 0 := by
  rw [lg_cmp_le, show (0 : Int64) = lN 0 from rfl, pk_lLE ha (by decide)]; omega
theorem lposg {a : Nat} (ha : a < 2 ^ 63) : (0 < lg_cmp (lN a) 0) ↔ 0 < a := by
  rw [lg_cmp_gt, show (0 : Int64) = lN 0 from rfl, pk_lLT (by decide) ha]
theorem sw_take {f2 : Nat → Int64} {j p x : Nat} (h : f2 p = 0) : (if p = j then lN x else f2 p) = lN (if some j = some p then x else 0) := by
  by_cases ep : p = j
  · subst ep; simp
  · rw [if_neg ep, if_neg (fun h => ep (Option.some.inj h).symm), h]; rfl
theorem lN_ne0 {a : Nat} (h0 : 0 < a) (ha : a < 2 ^ 63) : ¬ lN a = 0 := by
  rw [show (0 : Int64) = lN 0 from rfl, pk_lEQ ha (by decide)]; omega
def m_D_branchProduct : Mt := (y_D_branchProduct, c_D_branchProduct, 4, { frames := 8, cells := 0, slots := 0, locals := 130 }, (some .long), none)
def m_D_startWith : Mt := (y_D_startWith, c_D_startWith, 5, { frames := 9, cells := 0, slots := 0, locals := 175 }, none, none)
def m_D_lowerPart : Mt := (y_D_lowerPart, c_D_lowerPart, 5, { frames := 9, cells := 0, slots := 0, locals := 175 }, none, none)
def m_D_lowerParts : Mt := (y_D_lowerParts, c_D_lowerParts, 2, { frames := 10, cells := 0, slots := 0, locals := 220 }, none, none)
def m_D_raisePart : Mt := (y_D_raisePart, c_D_raisePart, 9, { frames := 9, cells := 0, slots := 0, locals := 175 }, none, none)
def m_D_raiseParts : Mt := (y_D_raiseParts, c_D_raiseParts, 4, { frames := 10, cells := 0, slots := 0, locals := 220 }, none, none)
def m_D_divideByShares : Mt := (y_D_divideByShares, c_D_divideByShares, 5, { frames := 11, cells := 0, slots := 0, locals := 265 }, none, none)
set_option maxRecDepth 100000 in
set_option maxHeartbeats 4000000 in
theorem ct_D_branchProduct (l : Launch) (b : Nat) (id : Nat → ClassId) (D : va_G) {g : Sg} {F : Fam} (hW : zW F) (hc : Hc g F) {e : Nat} (he : e < zn F) (hk : LK g F e) : qCT l b id D m_D_branchProduct false [.ref (b + 34)] 85 kT g 85 kT (fun v g' => v = some (.long (lN (zpr F e))) ∧ g' = g) (fun _ _ => False) := by
  have hn := hW.1
  refine qCT_of rfl (by decide) (Nat.le_of_ble_eq_true rfl) ?_
  show Vq l b id D m_D_branchProduct false 85 kT _ 85 kT _ 85 kT 0 0 0 [(0, .ref (b + 34))] [] g
  have loop : ∀ (n9 : Nat) (i : Nat), zn F - i = n9 → i ≤ zn F → Vq l b id D m_D_branchProduct false 85 kT (fun v g' => v = some (.long (lN (zpr F e))) ∧ g' = g) 85 kT (fun _ _ => False) 85 kT 0 0 4 [(3, .int (nI i)), (1, .long (lN (zpd (zfa F e) i))), (0, .ref (b + 34))] [] g := by
    intro n9
    induction n9 using Nat.strongRecOn with
    | ind n9 ih =>
    intro i hm hle
    refine vq_iload_n d_D_branchProduct_4 rfl ?_
    refine vq_aload_n d_D_branchProduct_5 rfl ?_
    refine vq_getR (k := 0) (C := R_D) (T := T_D) d_D_branchProduct_6 rfl in_D w_150 (by decide) rfl (by decide) rfl rfl ?_
    refine vq_getI (k := 0) (C := R_F) (T := T_F) d_D_branchProduct_9 rfl in_F w_35 (by decide) rfl (by decide) rfl ?_
    refine vq_int (y := nI (zn F)) hc.1 ?_
    refine vq_icmp_ge (tgt := 58) d_D_branchProduct_12 (by decide) (fun h12 => ?_) (fun h12 => ?_)
    · have hi : i = zn F := by
        rw [nI_leI (by omega) (by omega)] at h12
        omega
      subst hi
      refine vq_lload_n d_D_branchProduct_58 rfl ?_
      refine vq_lret d_D_branchProduct_59 rfl (by decide) (by decide) rfl rfl ?_
      exact ⟨rfl, rfl⟩
    · have hi : i < zn F := by
        rw [nI_leI (by omega) (by omega)] at h12
        omega
      have hB := zB_le (F := F) (e := e) i
      have hB31 : zB F e i < 2 ^ 31 := by omega
      have s52 : ∀ x : Nat, x = zpd (zfa F e) (i + 1) → Vq l b id D m_D_branchProduct false 85 kT (fun v g' => v = some (.long (lN (zpr F e))) ∧ g' = g) 85 kT (fun _ _ => False) 85 kT 0 0 52 [(1, .long (lN x)), (3, .int (nI i)), (0, .ref (b + 34))] [] g := by
        intro x hx
        refine vq_iinc (k := 1) (lv' := [(3, _), (1, _), (0, _)]) d_D_branchProduct_52 rfl (ip1 i) (by decide) rfl ?_
        refine vq_goto (tgt := 4) d_D_branchProduct_55 (by decide) ?_
        rw [hx]
        exact ih (zn F - (i + 1)) (by omega) (i + 1) rfl (by omega)
      refine vq_aload_n d_D_branchProduct_15 rfl ?_
      refine vq_getR (k := 1) (C := R_D) (T := T_D) d_D_branchProduct_16 rfl in_D w_151 (by decide) rfl (by decide) rfl rfl ?_
      refine vq_getR (k := 4) (C := R_V) (T := T_V) d_D_branchProduct_19 rfl in_V w_93 (by decide) rfl (by decide) rfl rfl ?_
      refine vq_iload_n d_D_branchProduct_22 rfl ?_
      refine vq_zald d_D_branchProduct_23 (by decide) rfl rfl (show _ < 20 by omega) ?_
      refine vq_int (y := bI (zl F e i)) (hk.2.2.2.1 i hi) ?_
      refine vq_if_ne (tgt := 52) d_D_branchProduct_24 (by decide) (fun h24 => ?_) (fun h24 => ?_)
      · have hl := bI_n0.mp h24
        have hz : zfa F e i = 1 := by unfold zfa; simp [hl]
        refine vq_pk [1, 0, 2] (lv' := [(1, _), (3, _), (0, _)]) rfl ?_
        exact s52 _ (by show _ = zpd (zfa F e) i * zfa F e i; first | (rw [hz]; done) | (rw [hz, Nat.mul_one]; done))
      · have hl := bI_0.mp h24
        refine vq_aload_n d_D_branchProduct_27 rfl ?_
        refine vq_getR (k := 1) (C := R_D) (T := T_D) d_D_branchProduct_28 rfl in_D w_151 (by decide) rfl (by decide) rfl rfl ?_
        refine vq_getR (k := 5) (C := R_V) (T := T_V) d_D_branchProduct_31 rfl in_V w_95 (by decide) rfl (by decide) rfl rfl ?_
        refine vq_iload_n d_D_branchProduct_34 rfl ?_
        refine vq_iald d_D_branchProduct_35 (by decide) rfl rfl (show _ < 20 by omega) ?_
        refine vq_int (y := nI (zB F e i)) (hk.2.2.2.2.1 i hi) ?_
        refine vq_if_le (tgt := 52) d_D_branchProduct_36 (by decide) (fun h36 => ?_) (fun h36 => ?_)
        · rw [nI_n0 hB31] at h36
          have hz : zfa F e i = 1 := by unfold zfa; simp [h36]
          refine vq_pk [1, 0, 2] (lv' := [(1, _), (3, _), (0, _)]) rfl ?_
          exact s52 _ (by show _ = zpd (zfa F e) i * zfa F e i; first | (rw [hz]; done) | (rw [hz, Nat.mul_one]; done))
        · rw [nI_n0 hB31] at h36
          have hz : zfa F e i = zB F e i := by unfold zfa; rw [if_pos (by simp [hl]; omega)]
          refine vq_lload_n d_D_branchProduct_39 rfl ?_
          refine vq_aload_n d_D_branchProduct_40 rfl ?_
          refine vq_getR (k := 1) (C := R_D) (T := T_D) d_D_branchProduct_41 rfl in_D w_151 (by decide) rfl (by decide) rfl rfl ?_
          refine vq_getR (k := 5) (C := R_V) (T := T_V) d_D_branchProduct_44 rfl in_V w_95 (by decide) rfl (by decide) rfl rfl ?_
          refine vq_iload_n d_D_branchProduct_47 rfl ?_
          refine vq_iald d_D_branchProduct_48 (by decide) rfl rfl (show _ < 20 by omega) ?_
          refine vq_int (y := nI (zB F e i)) (hk.2.2.2.2.1 i hi) ?_
          refine vq_i2l d_D_branchProduct_49 (nI_l hB31) ?_
          refine vq_lmul d_D_branchProduct_50 ?_
          rw [lN_mul]
          refine vq_lstore_n (lv' := [(1, _), (3, _), (0, _)]) d_D_branchProduct_51 (by decide) rfl ?_
          exact s52 _ (by show _ = zpd (zfa F e) i * zfa F e i; first | (rw [hz]; done) | (rw [hz, Nat.mul_one]; done))
  refine vq_lconst (v := 1) d_D_branchProduct_0 rfl ?_
  refine vq_lstore_n (lv' := [(1, _), (0, _)]) d_D_branchProduct_1 (by decide) rfl ?_
  refine vq_iconst (v := 0) d_D_branchProduct_2 (by decide) ?_
  refine vq_istore_n (lv' := [(3, _), (1, _), (0, _)]) d_D_branchProduct_3 (by decide) rfl ?_
  exact loop (zn F) 0 rfl (by omega)
set_option maxRecDepth 100000 in
set_option maxHeartbeats 4000000 in
theorem ct_D_startWith (l : Launch) (b : Nat) (id : Nat → ClassId) (D : va_G) {g : Sg} {F : Fam} (hW : zW F) (hc : Hc g F) {e : Nat} (he : e < zn F) (hk : LK g F e) (d : Int64) (u : Nat) : qCT l b id D m_D_startWith false [.ref (b + 34), .long d, .long (lN u)] 85 kT g 85 kT (fun v g' => v = none ∧ g'.1 = g.1 ∧ (∀ q, q ≠ 34 → q ≠ 35 → q ≠ 36 → g'.2 q = g.2 q) ∧ g'.2 34 4 = d ∧ (∀ p, p < 20 → g'.2 36 p = 0) ∧ (∀ p, p < 20 → g'.2 35 p = lN (if zw F e = some p then u * zq F e else 0))) (fun _ _ => False) := by
  have hn := hW.1
  refine qCT_of rfl (by decide) (Nat.le_of_ble_eq_true rfl) ?_
  show Vq l b id D m_D_startWith false 85 kT _ 85 kT _ 85 kT 0 0 0 [(0, .ref (b + 34)), (1, .long d), (3, .long (lN u))] [] g
  refine vq_aload_n d_D_startWith_0 rfl ?_
  refine vq_lload_n d_D_startWith_1 rfl ?_
  refine vq_putJ (k := 4) (C := R_D) (T := T_D) t_D d_D_startWith_2 rfl in_D w_155 ty_D nm_D (by decide) rfl (by decide) rfl (by decide +kernel) rfl ?_
  refine vq_aload_n d_D_startWith_5 rfl ?_
  refine vq_getR (k := 5) (C := R_D) (T := T_D) d_D_startWith_6 rfl in_D w_157 (by decide) rfl (by decide) rfl rfl ?_
  refine vq_lconst (v := 0) d_D_startWith_9 rfl ?_
  refine vq_callS (n := 2) _ _ d_D_startWith_10 (ct_A_fillJ l b id D (q := 36) (by decide) rfl 0) w_329 w_236 w_237 w_13 rfl ⟨by decide, by decide, by decide +kernel⟩ ⟨by decide, by decide⟩ rfl rfl (Nat.le_of_ble_eq_true rfl) rfl rfl rfl ⟨by decide, by decide⟩ (fun _ _ h => h.elim) (fun v10 g10 h10 => ?_)
  obtain ⟨rfl, f, rfl, hf⟩ := h10
  refine vq_aload_n d_D_startWith_13 rfl ?_
  refine vq_getR (k := 3) (C := R_D) (T := T_D) d_D_startWith_14 rfl in_D w_153 (by decide) rfl (by decide) rfl rfl ?_
  refine vq_lconst (v := 0) d_D_startWith_17 rfl ?_
  refine vq_callS (n := 2) _ _ d_D_startWith_18 (ct_A_fillJ l b id D (q := 35) (by decide) rfl 0) w_329 w_236 w_237 w_13 rfl ⟨by decide, by decide, by decide +kernel⟩ ⟨by decide, by decide⟩ rfl rfl (Nat.le_of_ble_eq_true rfl) rfl rfl rfl ⟨by decide, by decide⟩ (fun _ _ h => h.elim) (fun v18 g18 h18 => ?_)
  obtain ⟨rfl, f2, rfl, hf2⟩ := h18
  refine vq_aload_n d_D_startWith_21 rfl ?_
  refine vq_getR (k := 1) (C := R_D) (T := T_D) d_D_startWith_22 rfl in_D w_151 (by decide) rfl (by decide) rfl rfl ?_
  refine vq_getI (k := 2) (C := R_V) (T := T_V) d_D_startWith_25 rfl in_V w_87 (by decide) rfl (by decide) rfl ?_
  refine vq_int (y := eO (zw F e)) hk.2.1 ?_
  refine vq_iconst (v := -1) d_D_startWith_28 (by decide) ?_
  refine vq_icmp_eq (tgt := 54) d_D_startWith_29 (by decide) (fun h29 => ?_) (fun h29 => ?_)
  · rw [eO_m1 (zw_isNone hW he)] at h29
    refine vq_vret d_D_startWith_54 rfl (by decide) (by decide) rfl rfl ?_
    refine ⟨rfl, rfl, fun q a c d9 => ?_, ?_, fun p hp => ?_, fun p hp => ?_⟩
    · simp [sJ, a, c, d9]
    · simp [sJ, vp_updL]
    · simp only [sJ, if_neg (show ¬ (36 : Nat) = 35 by decide), if_true]; exact hf p hp
    · first | (rw [h29]; simp only [sJ, if_true]; rw [hf2 p hp]; rfl) | (rw [hj]; exact sw_take (hf2 p hp))
  · rw [eO_m1 (zw_isNone hW he)] at h29
    obtain ⟨j, hj⟩ := Option.ne_none_iff_exists'.mp h29
    have hjn := (zw_lt hW he hj).1
    refine vq_aload_n d_D_startWith_32 rfl ?_
    refine vq_getR (k := 3) (C := R_D) (T := T_D) d_D_startWith_33 rfl in_D w_153 (by decide) rfl (by decide) rfl rfl ?_
    refine vq_aload_n d_D_startWith_36 rfl ?_
    refine vq_getR (k := 1) (C := R_D) (T := T_D) d_D_startWith_37 rfl in_D w_151 (by decide) rfl (by decide) rfl rfl ?_
    refine vq_getI (k := 2) (C := R_V) (T := T_V) d_D_startWith_40 rfl in_V w_87 (by decide) rfl (by decide) rfl ?_
    refine vq_int (y := eO (zw F e)) hk.2.1 ?_
    refine vq_lload_n d_D_startWith_43 rfl ?_
    refine vq_aload_n d_D_startWith_44 rfl ?_
    refine vq_getR (k := 1) (C := R_D) (T := T_D) d_D_startWith_45 rfl in_D w_151 (by decide) rfl (by decide) rfl rfl ?_
    refine vq_callV (n := 0) (C := R_V) (T := T_V) _ _ d_D_startWith_48 (ct_V_spouseQuarters l b id D hW he (hk.congr (fun q a c => rfl))) w_294 w_295 w_296 w_297 w_3 rfl ⟨by decide, by decide, by decide +kernel⟩ ⟨by decide, by decide⟩ (by decide) rfl rfl rfl rfl (Nat.le_of_ble_eq_true rfl) rfl rfl rfl ⟨by decide, by decide⟩ (fun _ _ h => h.elim) (fun v48 g48 h48 => ?_)
    rw [h48.1, h48.2]
    refine vq_i2l d_D_startWith_51 (nI_l (by have := zq_le (F := F) (e := e); omega)) ?_
    refine vq_lmul d_D_startWith_52 ?_
    rw [lN_mul]
    refine vq_last d_D_startWith_53 rfl (by decide) rfl (show _ = nI j by rw [hj]; rfl) (show _ < 20 by omega) ?_
    refine vq_vret d_D_startWith_54 rfl (by decide) (by decide) rfl rfl ?_
    refine ⟨rfl, rfl, fun q a c d9 => ?_, ?_, fun p hp => ?_, fun p hp => ?_⟩
    · simp [sJ, a, c, d9]
    · simp [sJ, vp_updL]
    · simp only [sJ, if_neg (show ¬ (36 : Nat) = 35 by decide), if_true]; exact hf p hp
    · first | (rw [h29]; simp only [sJ, if_true]; rw [hf2 p hp]; rfl) | (rw [hj]; exact sw_take (hf2 p hp))
set_option maxRecDepth 100000 in
set_option maxHeartbeats 4000000 in
theorem ct_D_lowerPart (l : Launch) (b : Nat) (id : Nat → ClassId) (D : va_G) {g : Sg} {F : Fam} (hW : zW F) (hc : Hc g F) {e : Nat} (he : e < zn F) (hk : LK g F e) {w : Nat} (hw : w < zn F) (x : Nat) : qCT l b id D m_D_lowerPart false [.ref (b + 34), .int (nI w), .long (lN x)] 85 kT g 85 kT (fun v g' => v = none ∧ g'.1 = g.1 ∧ (∀ q, q ≠ 36 → g'.2 q = g.2 q) ∧ (∀ c, c < zn F → g'.2 36 c = g.2 36 c + lN (if zk F e w c = true then x else 0))) (fun _ _ => False) := by
  have hn := hW.1
  refine qCT_of rfl (by decide) (Nat.le_of_ble_eq_true rfl) ?_
  show Vq l b id D m_D_lowerPart false 85 kT _ 85 kT _ 85 kT 0 0 0 [(0, .ref (b + 34)), (1, .int (nI w)), (2, .long (lN x))] [] g
  have loop : ∀ (n9 : Nat) (i : Nat) (g1 : Sg), zn F - i = n9 → (w + 1 ≤ i ∧ i ≤ zn F ∧ g1.1 = g.1 ∧ (∀ q, q ≠ 36 → g1.2 q = g.2 q) ∧ (∀ c, c < zn F → g1.2 36 c = g.2 36 c + lN (if c < i ∧ zk F e w c = true then x else 0))) → Vq l b id D m_D_lowerPart false 85 kT (fun v g' => v = none ∧ g'.1 = g.1 ∧ (∀ q, q ≠ 36 → g'.2 q = g.2 q) ∧ (∀ c, c < zn F → g'.2 36 c = g.2 36 c + lN (if zk F e w c = true then x else 0))) 85 kT (fun _ _ => False) 85 kT 0 0 5 [(4, .int (nI i)), (0, .ref (b + 34)), (1, .int (nI w)), (2, .long (lN x))] [] g1 := by
    intro n9
    induction n9 using Nat.strongRecOn with
    | ind n9 ih =>
    intro i g1 hm hI
    have hi1 := hI.1
    have hi2 := hI.2.1
    have hc1 : Hc g1 F := hc.congr (fun q a c => by rw [hI.2.2.1])
    have hk1 : LK g1 F e := hk.congr (fun q a c => by rw [hI.2.2.1])
    refine vq_iload d_D_lowerPart_5 rfl ?_
    refine vq_aload_n d_D_lowerPart_7 rfl ?_
    refine vq_getR (k := 0) (C := R_D) (T := T_D) d_D_lowerPart_8 rfl in_D w_150 (by decide) rfl (by decide) rfl rfl ?_
    refine vq_getI (k := 0) (C := R_F) (T := T_F) d_D_lowerPart_11 rfl in_F w_35 (by decide) rfl (by decide) rfl ?_
    refine vq_int (y := nI (zn F)) hc1.1 ?_
    refine vq_icmp_ge (tgt := 60) d_D_lowerPart_14 (by decide) (fun h14 => ?_) (fun h14 => ?_)
    · have hi : i = zn F := by
        rw [nI_leI (by omega) (by omega)] at h14
        omega
      subst hi
      refine vq_vret d_D_lowerPart_60 rfl (by decide) (by decide) rfl rfl ?_
      refine ⟨rfl, hI.2.2.1, hI.2.2.2.1, fun c hcn => ?_⟩
      have h9 := hI.2.2.2.2 c hcn
      simp only [hcn, true_and] at h9
      exact h9
    · have hi : i < zn F := by
        rw [nI_leI (by omega) (by omega)] at h14
        omega
      have s54 : ∀ (g2 : Sg), (w + 1 ≤ i + 1 ∧ i + 1 ≤ zn F ∧ g2.1 = g.1 ∧ (∀ q, q ≠ 36 → g2.2 q = g.2 q) ∧ (∀ c, c < zn F → g2.2 36 c = g.2 36 c + lN (if c < i + 1 ∧ zk F e w c = true then x else 0))) → Vq l b id D m_D_lowerPart false 85 kT (fun v g' => v = none ∧ g'.1 = g.1 ∧ (∀ q, q ≠ 36 → g'.2 q = g.2 q) ∧ (∀ c, c < zn F → g'.2 36 c = g.2 36 c + lN (if zk F e w c = true then x else 0))) 85 kT (fun _ _ => False) 85 kT 0 0 54 [(4, .int (nI i)), (0, .ref (b + 34)), (1, .int (nI w)), (2, .long (lN x))] [] g2 := by
        intro g2 hI2
        refine vq_iinc (k := 0) (lv' := [(4, _), (0, _), (1, _), (2, _)]) d_D_lowerPart_54 rfl (ip1 i) (by decide) rfl ?_
        refine vq_goto (tgt := 5) d_D_lowerPart_57 (by decide) ?_
        exact ih (zn F - (i + 1)) (by omega) (i + 1) _ rfl hI2
      refine vq_aload_n d_D_lowerPart_17 rfl ?_
      refine vq_getR (k := 0) (C := R_D) (T := T_D) d_D_lowerPart_18 rfl in_D w_150 (by decide) rfl (by decide) rfl rfl ?_
      refine vq_iload d_D_lowerPart_21 rfl ?_
      refine vq_iload_n d_D_lowerPart_23 rfl ?_
      refine vq_callV (n := 2) (C := R_F) (T := T_F) _ _ d_D_lowerPart_24 (ct_F_isChild l b id D hW hc1 hi hw) w_339 w_303 w_304 w_305 w_2 rfl ⟨by decide, by decide, by decide +kernel⟩ ⟨by decide, by decide⟩ (by decide) rfl rfl rfl rfl (Nat.le_of_ble_eq_true rfl) rfl rfl rfl ⟨by decide, by decide⟩ (fun _ _ h => h.elim) (fun v24 g24 h24 => ?_)
      rw [h24.1, h24.2]
      refine vq_if_eq (tgt := 54) d_D_lowerPart_27 (by decide) (fun h27 => ?_) (fun h27 => ?_)
      · have hch := bI_0.mp h27
        have hz : zk F e w i = false := by unfold zk; rw [hch]; simp
        refine s54 _ ⟨by omega, by omega, hI.2.2.1, fun q hq => ?_, fun c hcn => ?_⟩
        · first | exact hI.2.2.2.1 q hq | (rw [sJ_n hq]; exact hI.2.2.2.1 q hq)
        · by_cases ec : c = i
          · subst ec
            have h9 := hI.2.2.2.2 c hcn
            rw [if_neg (by omega)] at h9
            first | (rw [if_neg (by rw [hz]; simp)]; exact h9) | (rw [if_pos ⟨by omega, hz⟩, sJ_s, vp_updL, if_pos rfl, h9]; rw [show lN 0 = 0 from rfl, Int64.add_zero])
          · have h9 := hI.2.2.2.2 c hcn
            have h8 : (c < i + 1 ∧ zk F e w c = true) ↔ (c < i ∧ zk F e w c = true) := by
              constructor
              · rintro ⟨a, d⟩; exact ⟨by omega, d⟩
              · rintro ⟨a, d⟩; exact ⟨by omega, d⟩
            first | (simp only [h8]; exact h9) | (rw [sJ_s, vp_updL, if_neg ec]; simp only [h8]; exact h9)
      · have hch := bI_n0.mp h27
        refine vq_aload_n d_D_lowerPart_30 rfl ?_
        refine vq_getR (k := 1) (C := R_D) (T := T_D) d_D_lowerPart_31 rfl in_D w_151 (by decide) rfl (by decide) rfl rfl ?_
        refine vq_iload d_D_lowerPart_34 rfl ?_
        refine vq_iconst (v := 0) d_D_lowerPart_36 (by decide) ?_
        refine vq_callV (n := 2) (C := R_V) (T := T_V) _ _ d_D_lowerPart_37 (ct_V_hasHeirs l b id D (o := some i) (h := 0) (Y := zX F e) (by omega) (fun j hj => by cases hj; exact ⟨by omega, hk1.2.2.2.2.2 0 (by omega) i hi⟩)) w_340 w_279 w_280 w_281 w_3 rfl ⟨by decide, by decide, by decide +kernel⟩ ⟨by decide, by decide⟩ (by decide) rfl rfl rfl rfl (Nat.le_of_ble_eq_true rfl) rfl rfl rfl ⟨by decide, by decide⟩ (fun _ _ h => h.elim) (fun v37 g37 h37 => ?_)
        rw [h37.1, h37.2]
        refine vq_if_eq (tgt := 54) d_D_lowerPart_40 (by decide) (fun h40 => ?_) (fun h40 => ?_)
        · have hx0 := bI_0.mp h40
          have hz : zk F e w i = false := by unfold zk; rw [hch, show zX F e i = _ from hx0]; simp; try omega
          refine s54 _ ⟨by omega, by omega, hI.2.2.1, fun q hq => ?_, fun c hcn => ?_⟩
          · first | exact hI.2.2.2.1 q hq | (rw [sJ_n hq]; exact hI.2.2.2.1 q hq)
          · by_cases ec : c = i
            · subst ec
              have h9 := hI.2.2.2.2 c hcn
              rw [if_neg (by omega)] at h9
              first | (rw [if_neg (by rw [hz]; simp)]; exact h9) | (rw [if_pos ⟨by omega, hz⟩, sJ_s, vp_updL, if_pos rfl, h9]; rw [show lN 0 = 0 from rfl, Int64.add_zero])
            · have h9 := hI.2.2.2.2 c hcn
              have h8 : (c < i + 1 ∧ zk F e w c = true) ↔ (c < i ∧ zk F e w c = true) := by
                constructor
                · rintro ⟨a, d⟩; exact ⟨by omega, d⟩
                · rintro ⟨a, d⟩; exact ⟨by omega, d⟩
              first | (simp only [h8]; exact h9) | (rw [sJ_s, vp_updL, if_neg ec]; simp only [h8]; exact h9)
        · have hx0 := bI_n0.mp h40
          have hz : zk F e w i = true := by unfold zk; rw [hch, show zX F e i = _ from hx0]; simp; try omega
          refine vq_aload_n d_D_lowerPart_43 rfl ?_
          refine vq_getR (k := 5) (C := R_D) (T := T_D) d_D_lowerPart_44 rfl in_D w_157 (by decide) rfl (by decide) rfl rfl ?_
          refine vq_iload d_D_lowerPart_47 rfl ?_
          refine vq_dup2_11 d_D_lowerPart_49 rfl rfl ?_
          refine vq_lald d_D_lowerPart_50 (by decide) rfl rfl (show _ < 20 by omega) ?_
          refine vq_lload_n d_D_lowerPart_51 rfl ?_
          refine vq_ladd d_D_lowerPart_52 ?_
          refine vq_last d_D_lowerPart_53 rfl (by decide) rfl rfl (show _ < 20 by omega) ?_
          refine s54 _ ⟨by omega, by omega, hI.2.2.1, fun q hq => ?_, fun c hcn => ?_⟩
          · first | exact hI.2.2.2.1 q hq | (rw [sJ_n hq]; exact hI.2.2.2.1 q hq)
          · by_cases ec : c = i
            · subst ec
              have h9 := hI.2.2.2.2 c hcn
              rw [if_neg (by omega)] at h9
              first | (rw [if_neg (by rw [hz]; simp)]; exact h9) | (rw [if_pos ⟨by omega, hz⟩, sJ_s, vp_updL, if_pos rfl, h9]; rw [show lN 0 = 0 from rfl, Int64.add_zero])
            · have h9 := hI.2.2.2.2 c hcn
              have h8 : (c < i + 1 ∧ zk F e w c = true) ↔ (c < i ∧ zk F e w c = true) := by
                constructor
                · rintro ⟨a, d⟩; exact ⟨by omega, d⟩
                · rintro ⟨a, d⟩; exact ⟨by omega, d⟩
              first | (simp only [h8]; exact h9) | (rw [sJ_s, vp_updL, if_neg ec]; simp only [h8]; exact h9)
  refine vq_iload_n d_D_lowerPart_0 rfl ?_
  refine vq_iconst (v := 1) d_D_lowerPart_1 (by decide) ?_
  refine vq_iadd d_D_lowerPart_2 ?_
  rw [nI_1]
  refine vq_istore (lv' := [(4, _), (0, _), (1, _), (2, _)]) d_D_lowerPart_3 (by decide) rfl ?_
  exact loop (zn F - (w + 1)) (w + 1) _ rfl ⟨by omega, by omega, rfl, fun q hq => rfl, fun c hcn => by
    have h8 : ¬ (c < w + 1 ∧ zk F e w c = true) := by rintro ⟨a, d⟩; have := zk_lt d; omega
    rw [if_neg h8, show lN 0 = 0 from rfl, Int64.add_zero]⟩
set_option maxRecDepth 100000 in
set_option maxHeartbeats 4000000 in
theorem ct_D_lowerParts (l : Launch) (b : Nat) (id : Nat → ClassId) (D : va_G) {g : Sg} {F : Fam} (hW : zW F) (hc : Hc g F) {e : Nat} (he : e < zn F) (hk : LK g F e) {P T : Nat → Nat} (hP63 : zsum P (zn F) < 2 ^ 63) (hP : ∀ p, p < zn F → g.2 36 p = lN (P p)) (hT : ∀ p, p < zn F → g.2 35 p = lN (T p)) : qCT l b id D m_D_lowerParts false [.ref (b + 34)] 85 kT g 85 kT (fun v g' => v = none ∧ g'.1 = g.1 ∧ (∀ q, q ≠ 35 → q ≠ 36 → g'.2 q = g.2 q) ∧ (∀ p, p < zn F → g'.2 35 p = lN (zta F e P T p))) (fun _ _ => False) := by
  have hn := hW.1
  refine qCT_of rfl (by decide) (Nat.le_of_ble_eq_true rfl) ?_
  show Vq l b id D m_D_lowerParts false 85 kT _ 85 kT _ 85 kT 0 0 0 [(0, .ref (b + 34))] [] g
  have loop : ∀ (n9 : Nat) (i : Nat) (g1 : Sg), zn F - i = n9 → (i ≤ zn F ∧ g1.1 = g.1 ∧ (∀ q, q ≠ 35 → q ≠ 36 → g1.2 q = g.2 q) ∧ (∀ c, c < zn F → g1.2 36 c = lN (ztb F e P i c)) ∧ (∀ p, p < zn F → g1.2 35 p = lN (T p + (if (decide (p < i) && zl F e p) = true then ztb F e P p p else 0)))) → Vq l b id D m_D_lowerParts false 85 kT (fun v g' => v = none ∧ g'.1 = g.1 ∧ (∀ q, q ≠ 35 → q ≠ 36 → g'.2 q = g.2 q) ∧ (∀ p, p < zn F → g'.2 35 p = lN (zta F e P T p))) 85 kT (fun _ _ => False) 85 kT 0 0 2 [(1, .int (nI i)), (0, .ref (b + 34))] [] g1 := by
    intro n9
    induction n9 using Nat.strongRecOn with
    | ind n9 ih =>
    intro i g1 hm hI
    have hi1 := hI.1
    have hc1 : Hc g1 F := hc.congr (fun q a c => by rw [hI.2.1])
    have hk1 : LK g1 F e := hk.congr (fun q a c => by rw [hI.2.1])
    refine vq_iload_n d_D_lowerParts_2 rfl ?_
    refine vq_aload_n d_D_lowerParts_3 rfl ?_
    refine vq_getR (k := 0) (C := R_D) (T := T_D) d_D_lowerParts_4 rfl in_D w_150 (by decide) rfl (by decide) rfl rfl ?_
    refine vq_getI (k := 0) (C := R_F) (T := T_F) d_D_lowerParts_7 rfl in_F w_35 (by decide) rfl (by decide) rfl ?_
    refine vq_int (y := nI (zn F)) hc1.1 ?_
    refine vq_icmp_ge (tgt := 94) d_D_lowerParts_10 (by decide) (fun h10 => ?_) (fun h10 => ?_)
    · have hi : i = zn F := by
        rw [nI_leI (by omega) (by omega)] at h10
        omega
      subst hi
      refine vq_vret d_D_lowerParts_94 rfl (by decide) (by decide) rfl rfl ?_
      refine ⟨rfl, hI.2.1, hI.2.2.1, fun p hp => ?_⟩
      have h9 := hI.2.2.2.2 p hp
      simp only [hp, decide_true, Bool.true_and] at h9
      exact h9
    · have hi : i < zn F := by
        rw [nI_leI (by omega) (by omega)] at h10
        omega
      have hB := zB_le (F := F) (e := e) i
      have hb63 : ztb F e P i i < 2 ^ 63 := Nat.lt_of_le_of_lt (ztb_le (Nat.le_refl i) hi) hP63
      have ht0 : g1.2 35 i = lN (T i) := by
        have h9 := hI.2.2.2.2 i hi
        rw [if_neg (by simp)] at h9
        exact h9
      have hnext : ∀ (x : Nat), (∀ c, c < zn F → zk F e i c = true → zl F e i = false → x = ztb F e P i i / zB F e i) → ∀ c, c < zn F → ztb F e P (i + 1) c = ztb F e P i c + (if (!zl F e i && zk F e i c) = true then x else 0) := by
        intro x hx c hcn
        show ztb F e P i c + _ = _
        by_cases hz : (!zl F e i && zk F e i c) = true
        · simp only [Bool.and_eq_true, Bool.not_eq_true'] at hz
          rw [hx c hcn hz.2 hz.1]
          simp [hz.1, hz.2, hcn]
        · have hz2 : ¬ (!zl F e i && decide (c < zn F) && zk F e i c) = true := by
            intro h9; apply hz; simp only [Bool.and_eq_true] at h9 ⊢; exact ⟨h9.1.1, h9.2⟩
          rw [if_neg hz, if_neg hz2]
      have s88 : ∀ (g2 : Sg), (i + 1 ≤ zn F ∧ g2.1 = g.1 ∧ (∀ q, q ≠ 35 → q ≠ 36 → g2.2 q = g.2 q) ∧ (∀ c, c < zn F → g2.2 36 c = lN (ztb F e P (i + 1) c)) ∧ (∀ p, p < zn F → g2.2 35 p = lN (T p + (if (decide (p < i + 1) && zl F e p) = true then ztb F e P p p else 0)))) → Vq l b id D m_D_lowerParts false 85 kT (fun v g' => v = none ∧ g'.1 = g.1 ∧ (∀ q, q ≠ 35 → q ≠ 36 → g'.2 q = g.2 q) ∧ (∀ p, p < zn F → g'.2 35 p = lN (zta F e P T p))) 85 kT (fun _ _ => False) 85 kT 0 0 88 [(1, .int (nI i)), (0, .ref (b + 34))] [] g2 := by
        intro g2 hI2
        refine vq_iinc (k := 0) (lv' := [(1, _), (0, _)]) d_D_lowerParts_88 rfl (ip1 i) (by decide) rfl ?_
        refine vq_goto (tgt := 2) d_D_lowerParts_91 (by decide) ?_
        exact ih (zn F - (i + 1)) (by omega) (i + 1) _ rfl hI2
      have htk : zl F e i = false → ∀ p, p < zn F → lN (T p + (if (decide (p < i + 1) && zl F e p) = true then ztb F e P p p else 0)) = lN (T p + (if (decide (p < i) && zl F e p) = true then ztb F e P p p else 0)) := by
        intro hl p hp
        by_cases e1 : p = i
        · rw [e1]; simp [hl]
        · have h8 : decide (p < i + 1) = decide (p < i) := by simp; omega
          rw [h8]
      refine vq_aload_n d_D_lowerParts_13 rfl ?_
      refine vq_getR (k := 1) (C := R_D) (T := T_D) d_D_lowerParts_14 rfl in_D w_151 (by decide) rfl (by decide) rfl rfl ?_
      refine vq_getR (k := 4) (C := R_V) (T := T_V) d_D_lowerParts_17 rfl in_V w_93 (by decide) rfl (by decide) rfl rfl ?_
      refine vq_iload_n d_D_lowerParts_20 rfl ?_
      refine vq_zald d_D_lowerParts_21 (by decide) rfl rfl (show _ < 20 by omega) ?_
      refine vq_int (y := bI (zl F e i)) (hk1.2.2.2.1 i hi) ?_
      refine vq_if_eq (tgt := 43) d_D_lowerParts_22 (by decide) (fun h22 => ?_) (fun h22 => ?_)
      · have hl := bI_0.mp h22
        refine vq_aload_n d_D_lowerParts_43 rfl ?_
        refine vq_getR (k := 5) (C := R_D) (T := T_D) d_D_lowerParts_44 rfl in_D w_157 (by decide) rfl (by decide) rfl rfl ?_
        refine vq_iload_n d_D_lowerParts_47 rfl ?_
        refine vq_lald d_D_lowerParts_48 (by decide) rfl rfl (show _ < 20 by omega) ?_
        refine vq_long (y := lN (ztb F e P i i)) (hI.2.2.2.1 i hi) ?_
        refine vq_lconst (v := 0) d_D_lowerParts_49 rfl ?_
        refine vq_lcmp d_D_lowerParts_50 ?_
        refine vq_if_le (tgt := 88) d_D_lowerParts_51 (by decide) (fun h51 => ?_) (fun h51 => ?_)
        · rw [lpos hb63] at h51
          have hst : ∀ c, c < zn F → ztb F e P (i + 1) c = ztb F e P i c := fun c hcn => by
            rw [hnext 0 (fun _ _ _ _ => by rw [h51, Nat.zero_div]) c hcn]; split <;> rfl
          first
            | exact s88 _ ⟨by omega, hI.2.1, hI.2.2.1, fun c hcn => by rw [hst c hcn]; exact hI.2.2.2.1 c hcn, fun p hp => by rw [htk hl p hp]; exact hI.2.2.2.2 p hp⟩
            | exact s88 _ ⟨by omega, a1.trans hI.2.1, fun q c1 c2 => (a2 q c2).trans (hI.2.2.1 q c1 c2), fun c hcn => by rw [a3 c hcn, hI.2.2.2.1 c hcn, lN_add, hnext _ (fun _ _ _ _ => rfl) c hcn, hl]; simp, fun p hp => by rw [htk hl p hp, a2 35 (by decide)]; exact hI.2.2.2.2 p hp⟩
            | (refine s88 _ ⟨by omega, hI.2.1, fun q c1 c2 => by rw [sJ_n c1]; exact hI.2.2.1 q c1 c2, fun c hcn => ?_, fun p hp => ?_⟩
               · rw [sJ_n (by decide), hnext 0 (fun _ _ _ h9 => by rw [hl] at h9; cases h9) c hcn, hI.2.2.2.1 c hcn, hl]; simp
               · by_cases e1 : p = i
                 · rw [e1, sJ_s, vp_updL, if_pos rfl]; simp [hl]
                 · have h8 : decide (p < i + 1) = decide (p < i) := by simp; omega
                   rw [sJ_s, vp_updL, if_neg e1, h8]; exact hI.2.2.2.2 p hp)
        · rw [lpos hb63] at h51
          refine vq_aload_n d_D_lowerParts_54 rfl ?_
          refine vq_getR (k := 1) (C := R_D) (T := T_D) d_D_lowerParts_55 rfl in_D w_151 (by decide) rfl (by decide) rfl rfl ?_
          refine vq_getR (k := 5) (C := R_V) (T := T_V) d_D_lowerParts_58 rfl in_V w_95 (by decide) rfl (by decide) rfl rfl ?_
          refine vq_iload_n d_D_lowerParts_61 rfl ?_
          refine vq_iald d_D_lowerParts_62 (by decide) rfl rfl (show _ < 20 by omega) ?_
          refine vq_int (y := nI (zB F e i)) (hk1.2.2.2.2.1 i hi) ?_
          refine vq_if_le (tgt := 88) d_D_lowerParts_63 (by decide) (fun h63 => ?_) (fun h63 => ?_)
          · rw [nI_n0 (by omega)] at h63
            have hst : ∀ c, c < zn F → ztb F e P (i + 1) c = ztb F e P i c := fun c hcn => by
              rw [hnext 0 (fun c9 h9 hk9 _ => absurd (zB_pos h9 hk9) (by omega)) c hcn]; split <;> rfl
            first
              | exact s88 _ ⟨by omega, hI.2.1, hI.2.2.1, fun c hcn => by rw [hst c hcn]; exact hI.2.2.2.1 c hcn, fun p hp => by rw [htk hl p hp]; exact hI.2.2.2.2 p hp⟩
              | exact s88 _ ⟨by omega, a1.trans hI.2.1, fun q c1 c2 => (a2 q c2).trans (hI.2.2.1 q c1 c2), fun c hcn => by rw [a3 c hcn, hI.2.2.2.1 c hcn, lN_add, hnext _ (fun _ _ _ _ => rfl) c hcn, hl]; simp, fun p hp => by rw [htk hl p hp, a2 35 (by decide)]; exact hI.2.2.2.2 p hp⟩
              | (refine s88 _ ⟨by omega, hI.2.1, fun q c1 c2 => by rw [sJ_n c1]; exact hI.2.2.1 q c1 c2, fun c hcn => ?_, fun p hp => ?_⟩
                 · rw [sJ_n (by decide), hnext 0 (fun _ _ _ h9 => by rw [hl] at h9; cases h9) c hcn, hI.2.2.2.1 c hcn, hl]; simp
                 · by_cases e1 : p = i
                   · rw [e1, sJ_s, vp_updL, if_pos rfl]; simp [hl]
                   · have h8 : decide (p < i + 1) = decide (p < i) := by simp; omega
                     rw [sJ_s, vp_updL, if_neg e1, h8]; exact hI.2.2.2.2 p hp)
          · rw [nI_n0 (by omega)] at h63
            refine vq_aload_n d_D_lowerParts_66 rfl ?_
            refine vq_iload_n d_D_lowerParts_67 rfl ?_
            refine vq_aload_n d_D_lowerParts_68 rfl ?_
            refine vq_getR (k := 5) (C := R_D) (T := T_D) d_D_lowerParts_69 rfl in_D w_157 (by decide) rfl (by decide) rfl rfl ?_
            refine vq_iload_n d_D_lowerParts_72 rfl ?_
            refine vq_lald d_D_lowerParts_73 (by decide) rfl rfl (show _ < 20 by omega) ?_
            refine vq_long (y := lN (ztb F e P i i)) (hI.2.2.2.1 i hi) ?_
            refine vq_aload_n d_D_lowerParts_74 rfl ?_
            refine vq_getR (k := 1) (C := R_D) (T := T_D) d_D_lowerParts_75 rfl in_D w_151 (by decide) rfl (by decide) rfl rfl ?_
            refine vq_getR (k := 5) (C := R_V) (T := T_V) d_D_lowerParts_78 rfl in_V w_95 (by decide) rfl (by decide) rfl rfl ?_
            refine vq_iload_n d_D_lowerParts_81 rfl ?_
            refine vq_iald d_D_lowerParts_82 (by decide) rfl rfl (show _ < 20 by omega) ?_
            refine vq_int (y := nI (zB F e i)) (hk1.2.2.2.2.1 i hi) ?_
            refine vq_i2l d_D_lowerParts_83 (nI_l (by omega)) ?_
            refine vq_ldiv d_D_lowerParts_84 (lN_ne0 (by omega) (by omega)) ?_
            rw [pk_lDiv hb63 (by omega) (by omega)]
            refine vq_callV (n := 2) (C := R_D) (T := T_D) _ _ d_D_lowerParts_85 (ct_D_lowerPart l b id D hW hc1 he hk1 hi (ztb F e P i i / zB F e i)) w_335 w_337 sel_D_lowerPart w_338 w_4 rfl ⟨by decide, by decide, by decide +kernel⟩ ⟨by decide, by decide⟩ (by decide) rfl rfl rfl rfl (Nat.le_of_ble_eq_true rfl) rfl rfl rfl ⟨by decide, by decide⟩ (fun _ _ h => h.elim) (fun v85 g85 h85 => ?_)
            obtain ⟨rfl, a1, a2, a3⟩ := h85
            first
              | exact s88 _ ⟨by omega, hI.2.1, hI.2.2.1, fun c hcn => by rw [hst c hcn]; exact hI.2.2.2.1 c hcn, fun p hp => by rw [htk hl p hp]; exact hI.2.2.2.2 p hp⟩
              | exact s88 _ ⟨by omega, a1.trans hI.2.1, fun q c1 c2 => (a2 q c2).trans (hI.2.2.1 q c1 c2), fun c hcn => by rw [a3 c hcn, hI.2.2.2.1 c hcn, lN_add, hnext _ (fun _ _ _ _ => rfl) c hcn, hl]; simp, fun p hp => by rw [htk hl p hp, a2 35 (by decide)]; exact hI.2.2.2.2 p hp⟩
              | (refine s88 _ ⟨by omega, hI.2.1, fun q c1 c2 => by rw [sJ_n c1]; exact hI.2.2.1 q c1 c2, fun c hcn => ?_, fun p hp => ?_⟩
                 · rw [sJ_n (by decide), hnext 0 (fun _ _ _ h9 => by rw [hl] at h9; cases h9) c hcn, hI.2.2.2.1 c hcn, hl]; simp
                 · by_cases e1 : p = i
                   · rw [e1, sJ_s, vp_updL, if_pos rfl]; simp [hl]
                   · have h8 : decide (p < i + 1) = decide (p < i) := by simp; omega
                     rw [sJ_s, vp_updL, if_neg e1, h8]; exact hI.2.2.2.2 p hp)
      · have hl := bI_n0.mp h22
        refine vq_aload_n d_D_lowerParts_25 rfl ?_
        refine vq_getR (k := 3) (C := R_D) (T := T_D) d_D_lowerParts_26 rfl in_D w_153 (by decide) rfl (by decide) rfl rfl ?_
        refine vq_iload_n d_D_lowerParts_29 rfl ?_
        refine vq_dup2_11 d_D_lowerParts_30 rfl rfl ?_
        refine vq_lald d_D_lowerParts_31 (by decide) rfl rfl (show _ < 20 by omega) ?_
        refine vq_long (y := lN (T i)) ht0 ?_
        refine vq_aload_n d_D_lowerParts_32 rfl ?_
        refine vq_getR (k := 5) (C := R_D) (T := T_D) d_D_lowerParts_33 rfl in_D w_157 (by decide) rfl (by decide) rfl rfl ?_
        refine vq_iload_n d_D_lowerParts_36 rfl ?_
        refine vq_lald d_D_lowerParts_37 (by decide) rfl rfl (show _ < 20 by omega) ?_
        refine vq_long (y := lN (ztb F e P i i)) (hI.2.2.2.1 i hi) ?_
        refine vq_ladd d_D_lowerParts_38 ?_
        rw [lN_add]
        refine vq_last d_D_lowerParts_39 rfl (by decide) rfl rfl (show _ < 20 by omega) ?_
        refine vq_goto (tgt := 88) d_D_lowerParts_40 (by decide) ?_
        first
          | exact s88 _ ⟨by omega, hI.2.1, hI.2.2.1, fun c hcn => by rw [hst c hcn]; exact hI.2.2.2.1 c hcn, fun p hp => by rw [htk hl p hp]; exact hI.2.2.2.2 p hp⟩
          | exact s88 _ ⟨by omega, a1.trans hI.2.1, fun q c1 c2 => (a2 q c2).trans (hI.2.2.1 q c1 c2), fun c hcn => by rw [a3 c hcn, hI.2.2.2.1 c hcn, lN_add, hnext _ (fun _ _ _ _ => rfl) c hcn, hl]; simp, fun p hp => by rw [htk hl p hp, a2 35 (by decide)]; exact hI.2.2.2.2 p hp⟩
          | (refine s88 _ ⟨by omega, hI.2.1, fun q c1 c2 => by rw [sJ_n c1]; exact hI.2.2.1 q c1 c2, fun c hcn => ?_, fun p hp => ?_⟩
             · rw [sJ_n (by decide), hnext 0 (fun _ _ _ h9 => by rw [hl] at h9; cases h9) c hcn, hI.2.2.2.1 c hcn, hl]; simp
             · by_cases e1 : p = i
               · rw [e1, sJ_s, vp_updL, if_pos rfl]; simp [hl]
               · have h8 : decide (p < i + 1) = decide (p < i) := by simp; omega
                 rw [sJ_s, vp_updL, if_neg e1, h8]; exact hI.2.2.2.2 p hp)
  refine vq_iconst (v := 0) d_D_lowerParts_0 (by decide) ?_
  refine vq_istore_n (lv' := [(1, _), (0, _)]) d_D_lowerParts_1 (by decide) rfl ?_
  exact loop (zn F) 0 _ rfl ⟨by omega, rfl, fun q c1 c2 => rfl, fun c hcn => hP c hcn, fun p hp => by rw [if_neg (by simp)]; exact hT p hp⟩
