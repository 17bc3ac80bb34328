/-! Division.divideWithGifts. Laid by wip/whole/specs/p32.py -/
def zgc (F : Fam) (e a : Nat) : Nat := a * (4 - zq F e)
def zgI (F : Fam) (e a : Nat) : Nat → Bool := zit F e (zgc F e a) 20
def zgz (F : Fam) (e a : Nat) : Nat := zsz F (zgI F e a)
def zPg (F : Fam) (e a p : Nat) : Nat := if zgI F e a p = true then (zam F e (zgc F e a) (zgI F e a) - zgz F e a * (4 * zg F p e)) * zpr F e else 0
def zTg (F : Fam) (e a p : Nat) : Nat := if zw F e = some p then a * (zpr F e * zgz F e a) * zq F e else 0
def zgs (F : Fam) (e a : Nat) (p : Nat) : Nat := zta F e (zPg F e a) (zTg F e a) p
theorem zgc_lt {F : Fam} {e a : Nat} (ha : a < 2 ^ 26) : zgc F e a < 2 ^ 28 := by
  unfold zgc
  have : a * (4 - zq F e) ≤ a * 4 := Nat.mul_le_mul_left a (by omega)
  omega
theorem zPg_le {F : Fam} (hW : zW F) {e a : Nat} (ha : a < 2 ^ 26) (p : Nat) : zPg F e a p ≤ 350000000 * 2300000 := by
  unfold zPg
  split
  · have h1 := zam_le (e := e) (c := zgc F e a) hW (zgI F e a)
    have h2 := zgc_lt (F := F) (e := e) ha
    have h3 := zpr_lt (e := e) hW.1
    exact Nat.mul_le_mul (by omega) (by omega)
  · omega
theorem zPg_sum {F : Fam} (hW : zW F) {e a : Nat} (ha : a < 2 ^ 26) : zsum (zPg F e a) (zn F) < 2 ^ 63 := by
  have h : zsum (zPg F e a) (zn F) ≤ zsum (fun _ => 350000000 * 2300000 * 1) (zn F) := zsum_le (fun p _ => by have := zPg_le (e := e) hW ha p; omega)
  rw [zsum_mul] at h
  have h1 : ∀ n : Nat, zsum (fun _ => 1) n = n := by
    intro n
    induction n with
    | zero => rfl
    | succ n ih =>
      show zsum (fun _ => 1) n + 1 = n + 1
      rw [ih]
  rw [h1] at h
  have := hW.1
  omega
def m_D_divideWithGifts : Mt := (y_D_divideWithGifts, c_D_divideWithGifts, 8, { frames := 11, cells := 0, slots := 0, locals := 265 }, none, none)
set_option maxRecDepth 100000 in
set_option maxHeartbeats 4000000 in
theorem ct_D_divideWithGifts (l : Launch) (b : Nat) (id : Nat → ClassId) (D : va_G) {g : Sg} {F : Fam} (hW : zW F) (hc : Hc g F) {e : Nat} (he : e < zn F) (hk : LK g F e) {a : Nat} (ha : a < 2 ^ 26) : qCT l b id D m_D_divideWithGifts false [.ref (b + 34), .long (lN a)] 85 kT g 85 kT (fun v' g' => v' = none ∧ (∀ q, q ≠ 38 → q ≠ 39 → g'.1 q = g.1 q) ∧ (∀ q, q < 34 ∨ 40 < q → g'.2 q = g.2 q) ∧ g'.2 34 4 = lN (4 * (zpr F e * zgz F e a)) ∧ (∀ p, p < zn F → g'.2 35 p = lN (zgs F e a p))) (fun _ _ => False) := by
  have hn := hW.1
  have hq4 := zq_le (F := F) (e := e)
  have hcl := zgc_lt (F := F) (e := e) ha
  refine qCT_of rfl (by decide) (Nat.le_of_ble_eq_true rfl) ?_
  show Vq l b id D m_D_divideWithGifts false 85 kT _ 85 kT _ 85 kT 0 0 0 [(0, .ref (b + 34)), (1, .long (lN a))] [] g
  refine vq_aload_n d_D_divideWithGifts_0 rfl ?_
  refine vq_getR (k := 2) (C := R_D) (T := T_D) d_D_divideWithGifts_1 rfl in_D w_152 (by decide) rfl (by decide) rfl rfl ?_
  refine vq_lload_n d_D_divideWithGifts_4 rfl ?_
  refine vq_iconst (v := 4) d_D_divideWithGifts_5 (by decide) ?_
  refine vq_aload_n d_D_divideWithGifts_6 rfl ?_
  refine vq_getR (k := 1) (C := R_D) (T := T_D) d_D_divideWithGifts_7 rfl in_D w_151 (by decide) rfl (by decide) rfl rfl ?_
  refine vq_callV (n := 0) (C := R_V) (T := T_V) _ _ d_D_divideWithGifts_10 (ct_V_spouseQuarters l b id D hW he hk) w_294 w_295 w_296 w_297 w_3 rfl ⟨by decide, by decide, by decide +kernel⟩ ⟨by decide, by decide⟩ (by decide) rfl rfl rfl rfl (Nat.le_of_ble_eq_true rfl) rfl rfl rfl ⟨by decide, by decide⟩ (fun _ _ h => h.elim) (fun v10 g10 h10 => ?_)
  rw [h10.1, h10.2]
  refine vq_isub d_D_divideWithGifts_13 ?_
  refine vq_int (show _ = nI (4 - zq F e) from pk_sub zq_le) ?_
  refine vq_i2l d_D_divideWithGifts_14 (nI_l (by omega)) ?_
  refine vq_lmul d_D_divideWithGifts_15 ?_
  rw [lN_mul]
  refine vq_callV (n := 1) (C := R_H) (T := T_H) _ _ d_D_divideWithGifts_16 (ct_H_gather l b id D hW hc he hk (zgc F e a)) w_298 w_299 w_300 w_301 w_5 rfl ⟨by decide, by decide, by decide +kernel⟩ ⟨by decide, by decide⟩ (by decide) rfl rfl rfl rfl (Nat.le_of_ble_eq_true rfl) rfl rfl rfl ⟨by decide, by decide⟩ (fun _ _ h => h.elim) (fun v16 g16 h16 => ?_)
  obtain ⟨rfl, a1, -, a2, a3⟩ := h16
  have hc1 : Hc g16 F := hc.congr (fun q x y => a1 q (by omega) (by omega))
  refine vq_aload_n d_D_divideWithGifts_19 rfl ?_
  refine vq_getR (k := 2) (C := R_D) (T := T_D) d_D_divideWithGifts_20 rfl in_D w_152 (by decide) rfl (by decide) rfl rfl ?_
  refine vq_callV (n := 0) (C := R_H) (T := T_H) _ _ d_D_divideWithGifts_23 (ct_H_releaseThoseAbove l b id D hW hc1 (by omega) a3) w_308 w_309 w_310 w_311 w_5 rfl ⟨by decide, by decide, by decide +kernel⟩ ⟨by decide, by decide⟩ (by decide) rfl rfl rfl rfl (Nat.le_of_ble_eq_true rfl) rfl rfl rfl ⟨by decide, by decide⟩ (fun _ _ h => h.elim) (fun v23 g23 h23 => ?_)
  obtain ⟨rfl, b1, -, b2, b3⟩ := h23
  have hc2 : Hc g23 F := hc1.congr (fun q x y => b1 q (by omega) (by omega))
  have hk2 : LK g23 F e := hk.congr (fun q x y => (b1 q (by omega) (by omega)).trans (a1 q (by omega) (by omega)))
  refine vq_aload_n d_D_divideWithGifts_26 rfl ?_
  refine vq_callV (n := 0) (C := R_D) (T := T_D) _ _ d_D_divideWithGifts_27 (ct_D_branchProduct l b id D hW hc2 he hk2) w_320 w_322 sel_D_branchProduct w_323 w_4 rfl ⟨by decide, by decide, by decide +kernel⟩ ⟨by decide, by decide⟩ (by decide) rfl rfl rfl rfl (Nat.le_of_ble_eq_true rfl) rfl rfl rfl ⟨by decide, by decide⟩ (fun _ _ h => h.elim) (fun v27 g27 h27 => ?_)
  rw [h27.1, h27.2]
  refine vq_lstore_n (lv' := [(3, _), (0, _), (1, _)]) d_D_divideWithGifts_30 (by decide) rfl ?_
  refine vq_lload_n d_D_divideWithGifts_31 rfl ?_
  refine vq_aload_n d_D_divideWithGifts_32 rfl ?_
  refine vq_getR (k := 2) (C := R_D) (T := T_D) d_D_divideWithGifts_33 rfl in_D w_152 (by decide) rfl (by decide) rfl rfl ?_
  refine vq_getI (k := 3) (C := R_H) (T := T_H) d_D_divideWithGifts_36 rfl in_H w_133 (by decide) rfl (by decide) rfl ?_
  refine vq_int (y := nI (zgz F e a)) b3.2.1 ?_
  refine vq_i2l d_D_divideWithGifts_39 (nI_l (by have := zsz_le (F := F) (zgI F e a); unfold zgz; omega)) ?_
  refine vq_lmul d_D_divideWithGifts_40 ?_
  rw [lN_mul]
  refine vq_lstore (lv' := [(5, _), (3, _), (0, _), (1, _)]) d_D_divideWithGifts_41 (by decide) rfl ?_
  refine vq_aload_n d_D_divideWithGifts_43 rfl ?_
  refine vq_ldc2 d_D_divideWithGifts_44 w_324 ?_
  refine vq_lload d_D_divideWithGifts_47 rfl ?_
  refine vq_lmul d_D_divideWithGifts_49 ?_
  rw [show (4 : Int64) = lN 4 from rfl, lN_mul]
  refine vq_lload_n d_D_divideWithGifts_50 rfl ?_
  refine vq_lload d_D_divideWithGifts_51 rfl ?_
  refine vq_lmul d_D_divideWithGifts_53 ?_
  rw [lN_mul]
  refine vq_callV (n := 2) (C := R_D) (T := T_D) _ _ d_D_divideWithGifts_54 (ct_D_startWith l b id D hW hc2 he hk2 (lN (4 * (zpr F e * zgz F e a))) (a * (zpr F e * zgz F e a))) w_325 w_327 sel_D_startWith w_328 w_4 rfl ⟨by decide, by decide, by decide +kernel⟩ ⟨by decide, by decide⟩ (by decide) rfl rfl rfl rfl (Nat.le_of_ble_eq_true rfl) rfl rfl rfl ⟨by decide, by decide⟩ (fun _ _ h => h.elim) (fun v54 g54 h54 => ?_)
  obtain ⟨rfl, c1, c2, c3, c4, c5⟩ := h54
  have hc3 : Hc g54 F := hc2.congr (fun q _ _ => by rw [c1])
  have hk3 : LK g54 F e := hk2.congr (fun q _ _ => by rw [c1])
  have hS3 : HS g54 F e (zgc F e a) (zgI F e a) := b3.congr (by rw [c1]) (by rw [c1]) (c2 38 (by decide) (by decide) (by decide)) (c2 40 (by decide) (by decide) (by decide))
  have loop : ∀ (n9 : Nat) (i : Nat) (g1 : Sg), zn F - i = n9 → (i ≤ zn F ∧ g1.1 = g54.1 ∧ (∀ q, q ≠ 36 → g1.2 q = g54.2 q) ∧ (∀ p, p < zn F → g1.2 36 p = lN (if p < i then zPg F e a p else 0))) → Vq l b id D m_D_divideWithGifts false 85 kT (fun v' g' => v' = none ∧ (∀ q, q ≠ 38 → q ≠ 39 → g'.1 q = g.1 q) ∧ (∀ q, q < 34 ∨ 40 < q → g'.2 q = g.2 q) ∧ g'.2 34 4 = lN (4 * (zpr F e * zgz F e a)) ∧ (∀ p, p < zn F → g'.2 35 p = lN (zgs F e a p))) 85 kT (fun _ _ => False) 85 kT 0 0 60 [(7, .int (nI i)), (5, .long (lN (zpr F e * zgz F e a))), (3, .long (lN (zpr F e))), (0, .ref (b + 34)), (1, .long (lN a))] [] g1 := by
    intro n9
    induction n9 using Nat.strongRecOn with
    | ind n9 ih =>
    intro i g1 hm hI
    have hle := hI.1
    have hc4 : Hc g1 F := hc3.congr (fun q _ _ => by rw [hI.2.1])
    have hk4 : LK g1 F e := hk3.congr (fun q _ _ => by rw [hI.2.1])
    have hS4 : HS g1 F e (zgc F e a) (zgI F e a) := hS3.congr (by rw [hI.2.1]) (by rw [hI.2.1]) (hI.2.2.1 38 (by decide)) (hI.2.2.1 40 (by decide))
    refine vq_iload d_D_divideWithGifts_60 rfl ?_
    refine vq_aload_n d_D_divideWithGifts_62 rfl ?_
    refine vq_getR (k := 0) (C := R_D) (T := T_D) d_D_divideWithGifts_63 rfl in_D w_150 (by decide) rfl (by decide) rfl rfl ?_
    refine vq_getI (k := 0) (C := R_F) (T := T_F) d_D_divideWithGifts_66 rfl in_F w_35 (by decide) rfl (by decide) rfl ?_
    refine vq_int (y := nI (zn F)) hc4.1 ?_
    refine vq_icmp_ge (tgt := 109) d_D_divideWithGifts_69 (by decide) (fun h69 => ?_) (fun h69 => ?_)
    · have hi : i = zn F := by
        rw [nI_leI (by omega) (by omega)] at h69
        omega
      subst hi
      refine vq_aload_n d_D_divideWithGifts_109 rfl ?_
      refine vq_callV (n := 0) (C := R_D) (T := T_D) _ _ d_D_divideWithGifts_110 (ct_D_lowerParts l b id D hW hc4 he hk4 (P := zPg F e a) (T := zTg F e a) (zPg_sum hW ha) (fun p hp => by rw [hI.2.2.2 p hp, if_pos hp]) (fun p hp => by rw [hI.2.2.1 35 (by decide)]; exact c5 p (by omega))) w_331 w_333 sel_D_lowerParts w_334 w_4 rfl ⟨by decide, by decide, by decide +kernel⟩ ⟨by decide, by decide⟩ (by decide) rfl rfl rfl rfl (Nat.le_of_ble_eq_true rfl) rfl rfl rfl ⟨by decide, by decide⟩ (fun _ _ h => h.elim) (fun v110 g110 h110 => ?_)
      obtain ⟨rfl, d1, d2, d3⟩ := h110
      refine vq_vret d_D_divideWithGifts_113 rfl (by decide) (by decide) rfl rfl ?_
      refine ⟨rfl, fun q x y => ?_, fun q hq => ?_, ?_, d3⟩
      · rw [d1, hI.2.1, c1, b1 q x y]; exact a1 q x y
      · rw [d2 q (by omega) (by omega), hI.2.2.1 q (by omega), c2 q (by omega) (by omega) (by omega), b2 q (by omega)]; exact a2 q (by omega) (by omega)
      · rw [d2 34 (by decide) (by decide), hI.2.2.1 34 (by decide)]; exact c3
    · have hi : i < zn F := by
        rw [nI_leI (by omega) (by omega)] at h69
        omega
      have s103 : ∀ (g2 : Sg), (i + 1 ≤ zn F ∧ g2.1 = g54.1 ∧ (∀ q, q ≠ 36 → g2.2 q = g54.2 q) ∧ (∀ p, p < zn F → g2.2 36 p = lN (if p < i + 1 then zPg F e a p else 0))) → Vq l b id D m_D_divideWithGifts false 85 kT (fun v' g' => v' = none ∧ (∀ q, q ≠ 38 → q ≠ 39 → g'.1 q = g.1 q) ∧ (∀ q, q < 34 ∨ 40 < q → g'.2 q = g.2 q) ∧ g'.2 34 4 = lN (4 * (zpr F e * zgz F e a)) ∧ (∀ p, p < zn F → g'.2 35 p = lN (zgs F e a p))) 85 kT (fun _ _ => False) 85 kT 0 0 103 [(7, .int (nI i)), (5, .long (lN (zpr F e * zgz F e a))), (3, .long (lN (zpr F e))), (0, .ref (b + 34)), (1, .long (lN a))] [] g2 := by
        intro g2 hI2
        refine vq_iinc (k := 0) (lv' := [(7, _), (5, _), (3, _), (0, _), (1, _)]) d_D_divideWithGifts_103 rfl (ip1 i) (by decide) rfl ?_
        refine vq_goto (tgt := 60) d_D_divideWithGifts_106 (by decide) ?_
        exact ih (zn F - (i + 1)) (by omega) (i + 1) _ rfl hI2
      refine vq_aload_n d_D_divideWithGifts_72 rfl ?_
      refine vq_getR (k := 2) (C := R_D) (T := T_D) d_D_divideWithGifts_73 rfl in_D w_152 (by decide) rfl (by decide) rfl rfl ?_
      refine vq_getR (k := 2) (C := R_H) (T := T_H) d_D_divideWithGifts_76 rfl in_H w_131 (by decide) rfl (by decide) rfl rfl ?_
      refine vq_iload d_D_divideWithGifts_79 rfl ?_
      refine vq_zald d_D_divideWithGifts_81 (by decide) rfl rfl (show _ < 20 by omega) ?_
      refine vq_int (y := bI (zgI F e a i)) (hS4.1 i hi) ?_
      refine vq_if_eq (tgt := 103) d_D_divideWithGifts_82 (by decide) (fun h82 => ?_) (fun h82 => ?_)
      · have hz : zPg F e a i = 0 := by unfold zPg; rw [if_neg (by rw [bI_0.mp h82]; simp)]
        first
          | (refine s103 _ ⟨by omega, hI.2.1, hI.2.2.1, fun p hp => ?_⟩
             rw [hI.2.2.2 p hp]
             by_cases e1 : p = i
             · rw [if_neg (by omega), if_pos (by omega), e1, hz]
             · have h8 : p < i + 1 ↔ p < i := by omega
               simp only [h8])
          | (refine s103 _ ⟨by omega, hI.2.1, fun q hq => by rw [sJ_n hq]; exact hI.2.2.1 q hq, fun p hp => ?_⟩
             rw [sJ_s, vp_updL]
             by_cases e1 : p = i
             · rw [if_pos e1, if_pos (by omega), e1]
             · have h8 : p < i + 1 ↔ p < i := by omega
               rw [if_neg e1]; simp only [h8]; exact hI.2.2.2 p hp)
      · have hin := bI_n0.mp h82
        refine vq_aload_n d_D_divideWithGifts_85 rfl ?_
        refine vq_getR (k := 5) (C := R_D) (T := T_D) d_D_divideWithGifts_86 rfl in_D w_157 (by decide) rfl (by decide) rfl rfl ?_
        refine vq_iload d_D_divideWithGifts_89 rfl ?_
        refine vq_aload_n d_D_divideWithGifts_91 rfl ?_
        refine vq_getR (k := 2) (C := R_D) (T := T_D) d_D_divideWithGifts_92 rfl in_D w_152 (by decide) rfl (by decide) rfl rfl ?_
        refine vq_iload d_D_divideWithGifts_95 rfl ?_
        refine vq_callV (n := 1) (C := R_H) (T := T_H) _ _ d_D_divideWithGifts_97 (ct_H_partTimesSize l b id D hW hc4 (by omega) hS4 hi hin) w_330 w_317 w_318 w_319 w_5 rfl ⟨by decide, by decide, by decide +kernel⟩ ⟨by decide, by decide⟩ (by decide) rfl rfl rfl rfl (Nat.le_of_ble_eq_true rfl) rfl rfl rfl ⟨by decide, by decide⟩ (fun _ _ h => h.elim) (fun v97 g97 h97 => ?_)
        rw [h97.1, h97.2]
        refine vq_lload_n d_D_divideWithGifts_100 rfl ?_
        refine vq_lmul d_D_divideWithGifts_101 ?_
        refine vq_long (show _ = lN (zPg F e a i) by rw [lN_sub (show zsz F (zgI F e a) * (4 * zg F i e) ≤ zam F e (zgc F e a) (zgI F e a) from zab1_none (zit_end hW.1) hi hin), lN_mul]; unfold zPg zgz; rw [if_pos hin]) ?_
        refine vq_last d_D_divideWithGifts_102 rfl (by decide) rfl rfl (show _ < 20 by omega) ?_
        first
          | (refine s103 _ ⟨by omega, hI.2.1, hI.2.2.1, fun p hp => ?_⟩
             rw [hI.2.2.2 p hp]
             by_cases e1 : p = i
             · rw [if_neg (by omega), if_pos (by omega), e1, hz]
             · have h8 : p < i + 1 ↔ p < i := by omega
               simp only [h8])
          | (refine s103 _ ⟨by omega, hI.2.1, fun q hq => by rw [sJ_n hq]; exact hI.2.2.1 q hq, fun p hp => ?_⟩
             rw [sJ_s, vp_updL]
             by_cases e1 : p = i
             · rw [if_pos e1, if_pos (by omega), e1]
             · have h8 : p < i + 1 ↔ p < i := by omega
               rw [if_neg e1]; simp only [h8]; exact hI.2.2.2 p hp)
  refine vq_iconst (v := 0) d_D_divideWithGifts_57 (by decide) ?_
  refine vq_istore (lv' := [(7, _), (5, _), (3, _), (0, _), (1, _)]) d_D_divideWithGifts_58 (by decide) rfl ?_
  exact loop (zn F) 0 _ rfl ⟨by omega, rfl, fun q hq => rfl, fun p hp => by rw [if_neg (Nat.not_lt_zero p)]; exact c4 p (by omega)⟩
