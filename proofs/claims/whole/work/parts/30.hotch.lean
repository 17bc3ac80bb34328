/-! SuccessionClerk$Hotchpot. Laid by wip/whole/specs/p30.py -/
/-- the hotchpot holds the children In, of those with which it began -/
def HS (g : Sg) (F : Fam) (e c : Nat) (In : Nat → Bool) : Prop := (∀ p, p < zn F → g.1 39 p = bI (In p)) ∧ g.1 38 3 = nI (zsz F In) ∧ g.2 38 4 = lN (zam F e c In) ∧ (∀ p, p < zn F → zIn0 F e p = true → g.2 40 p = lN (4 * zg F p e)) ∧ (∀ p, In p = true → zIn0 F e p = true)
theorem HS.congr {g g' : Sg} {F : Fam} {e c : Nat} {In : Nat → Bool} (h : HS g F e c In) (h1 : g'.1 38 = g.1 38) (h2 : g'.1 39 = g.1 39) (h3 : g'.2 38 = g.2 38) (h4 : g'.2 40 = g.2 40) : HS g' F e c In := by
  obtain ⟨a1, a2, a3, a4, a5⟩ := h
  exact ⟨fun p hp => by rw [h2]; exact a1 p hp, by rw [h1]; exact a2, by rw [h3]; exact a3, fun p hp hi => by rw [h4]; exact a4 p hp hi, a5⟩
def m_H_partTimesSize : Mt := (y_H_partTimesSize, c_H_partTimesSize, 2, { frames := 8, cells := 0, slots := 0, locals := 130 }, (some .long), none)
def m_H_findOneAbove : Mt := (y_H_findOneAbove, c_H_findOneAbove, 2, { frames := 9, cells := 0, slots := 0, locals := 175 }, (some .int), none)
def m_H_releaseThoseAbove : Mt := (y_H_releaseThoseAbove, c_H_releaseThoseAbove, 3, { frames := 10, cells := 0, slots := 0, locals := 220 }, none, none)
def m_H_gather : Mt := (y_H_gather, c_H_gather, 4, { frames := 9, cells := 0, slots := 0, locals := 175 }, none, none)
set_option maxRecDepth 100000 in
set_option maxHeartbeats 4000000 in
theorem ct_H_partTimesSize (l : Launch) (b : Nat) (id : Nat → ClassId) (D : va_G) {g : Sg} {F : Fam} (hW : zW F) (hc : Hc g F) {e c : Nat} {In : Nat → Bool} (hc40 : c < 2 ^ 40) (hs : HS g F e c In) {p : Nat} (hp : p < zn F) (hi : In p = true) : qCT l b id D m_H_partTimesSize false [.ref (b + 38), .int (nI p)] 85 kT g 85 kT (fun v' g' => v' = some (.long (lN (zam F e c In) - lN (zsz F In * (4 * zg F p e)))) ∧ g' = g) (fun _ _ => False) := by
  have hn := hW.1
  refine qCT_of rfl (by decide) (Nat.le_of_ble_eq_true rfl) ?_
  show Vq l b id D m_H_partTimesSize false 85 kT _ 85 kT _ 85 kT 0 0 0 [(0, .ref (b + 38)), (1, .int (nI p))] [] g
  refine vq_aload_n d_H_partTimesSize_0 rfl ?_
  refine vq_getJ (k := 4) (C := R_H) (T := T_H) d_H_partTimesSize_1 rfl in_H w_134 (by decide) rfl (by decide) rfl ?_
  refine vq_long (y := lN (zam F e c In)) hs.2.2.1 ?_
  refine vq_aload_n d_H_partTimesSize_4 rfl ?_
  refine vq_getI (k := 3) (C := R_H) (T := T_H) d_H_partTimesSize_5 rfl in_H w_132 (by decide) rfl (by decide) rfl ?_
  refine vq_int (y := nI (zsz F In)) hs.2.1 ?_
  refine vq_i2l d_H_partTimesSize_8 (nI_l (by have := zsz_le (F := F) In; omega)) ?_
  refine vq_aload_n d_H_partTimesSize_9 rfl ?_
  refine vq_getR (k := 5) (C := R_H) (T := T_H) d_H_partTimesSize_10 rfl in_H w_135 (by decide) rfl (by decide) rfl rfl ?_
  refine vq_iload_n d_H_partTimesSize_13 rfl ?_
  refine vq_lald d_H_partTimesSize_14 (by decide) rfl rfl (show _ < 20 by omega) ?_
  refine vq_long (y := lN (4 * zg F p e)) (hs.2.2.2.1 p hp (hs.2.2.2.2 p hi)) ?_
  refine vq_lmul d_H_partTimesSize_15 ?_
  rw [lN_mul]
  refine vq_lsub d_H_partTimesSize_16 ?_
  refine vq_lret d_H_partTimesSize_17 rfl (by decide) (by decide) rfl rfl ?_
  exact ⟨rfl, rfl⟩
set_option maxRecDepth 100000 in
set_option maxHeartbeats 4000000 in
theorem ct_H_findOneAbove (l : Launch) (b : Nat) (id : Nat → ClassId) (D : va_G) {g : Sg} {F : Fam} (hW : zW F) (hc : Hc g F) {e c : Nat} {In : Nat → Bool} (hc40 : c < 2 ^ 40) (hs : HS g F e c In) : qCT l b id D m_H_findOneAbove false [.ref (b + 38)] 85 kT g 85 kT (fun v' g' => v' = some (.int (eO (zab1 F e c In))) ∧ g' = g) (fun _ _ => False) := by
  have hn := hW.1
  refine qCT_of rfl (by decide) (Nat.le_of_ble_eq_true rfl) ?_
  show Vq l b id D m_H_findOneAbove false 85 kT _ 85 kT _ 85 kT 0 0 0 [(0, .ref (b + 38))] [] g
  have loop : ∀ (n9 : Nat) (i : Nat), zn F - i = n9 → (i ≤ zn F ∧ zfst (zab F e c In) i = none) → Vq l b id D m_H_findOneAbove false 85 kT (fun v' g' => v' = some (.int (eO (zab1 F e c In))) ∧ g' = g) 85 kT (fun _ _ => False) 85 kT 0 0 2 [(1, .int (nI i)), (0, .ref (b + 38))] [] g := by
    intro n9
    induction n9 using Nat.strongRecOn with
    | ind n9 ih =>
    intro i hm hI
    have hle := hI.1
    refine vq_iload_n d_H_findOneAbove_2 rfl ?_
    refine vq_aload_n d_H_findOneAbove_3 rfl ?_
    refine vq_getR (k := 0) (C := R_H) (T := T_H) d_H_findOneAbove_4 rfl in_H w_128 (by decide) rfl (by decide) rfl rfl ?_
    refine vq_getI (k := 0) (C := R_F) (T := T_F) d_H_findOneAbove_7 rfl in_F w_34 (by decide) rfl (by decide) rfl ?_
    refine vq_int (y := nI (zn F)) hc.1 ?_
    refine vq_icmp_ge (tgt := 40) d_H_findOneAbove_10 (by decide) (fun h10 => ?_) (fun h10 => ?_)
    · have hi : i = zn F := by
        rw [nI_leI (by omega) (by omega)] at h10
        omega
      subst hi
      refine vq_iconst (v := -1) d_H_findOneAbove_40 (by decide) ?_
      refine vq_iret d_H_findOneAbove_41 rfl (by decide) (by decide) rfl rfl ?_
      exact ⟨by unfold zab1; rw [hI.2]; rfl, rfl⟩
    · have hi : i < zn F := by
        rw [nI_leI (by omega) (by omega)] at h10
        omega
      have hA := zam_le (e := e) (c := c) hW In
      have hG := zsg_le (e := e) hW In i
      have s34 : zab F e c In i = false → Vq l b id D m_H_findOneAbove false 85 kT (fun v' g' => v' = some (.int (eO (zab1 F e c In))) ∧ g' = g) 85 kT (fun _ _ => False) 85 kT 0 0 34 [(1, .int (nI i)), (0, .ref (b + 38))] [] g := by
        intro hno
        refine vq_iinc (k := 0) (lv' := [(1, _), (0, _)]) d_H_findOneAbove_34 rfl (ip1 i) (by decide) rfl ?_
        refine vq_goto (tgt := 2) d_H_findOneAbove_37 (by decide) ?_
        exact ih (zn F - (i + 1)) (by omega) (i + 1) rfl ⟨by omega, zfst_none hI.2 hno⟩
      refine vq_aload_n d_H_findOneAbove_13 rfl ?_
      refine vq_getR (k := 2) (C := R_H) (T := T_H) d_H_findOneAbove_14 rfl in_H w_130 (by decide) rfl (by decide) rfl rfl ?_
      refine vq_iload_n d_H_findOneAbove_17 rfl ?_
      refine vq_zald d_H_findOneAbove_18 (by decide) rfl rfl (show _ < 20 by omega) ?_
      refine vq_int (y := bI (In i)) (hs.1 i hi) ?_
      refine vq_if_eq (tgt := 34) d_H_findOneAbove_19 (by decide) (fun h19 => ?_) (fun h19 => ?_)
      · have hz : zab F e c In i = false := by unfold zab; rw [bI_0.mp h19]; rfl
        exact s34 hz
      · have hin := bI_n0.mp h19
        refine vq_aload_n d_H_findOneAbove_22 rfl ?_
        refine vq_iload_n d_H_findOneAbove_23 rfl ?_
        refine vq_callV (n := 1) (C := R_H) (T := T_H) _ _ d_H_findOneAbove_24 (ct_H_partTimesSize l b id D hW hc hc40 hs hi hin) w_316 w_317 w_318 w_319 w_5 rfl ⟨by decide, by decide, by decide +kernel⟩ ⟨by decide, by decide⟩ (by decide) rfl rfl rfl rfl (Nat.le_of_ble_eq_true rfl) rfl rfl rfl ⟨by decide, by decide⟩ (fun _ _ h => h.elim) (fun v24 g24 h24 => ?_)
        rw [h24.1, h24.2]
        refine vq_lconst (v := 0) d_H_findOneAbove_27 rfl ?_
        refine vq_lcmp d_H_findOneAbove_28 ?_
        refine vq_if_ge (tgt := 34) d_H_findOneAbove_29 (by decide) (fun h29 => ?_) (fun h29 => ?_)
        · rw [lg_cmp_ge, lsub_sign (by omega) (by omega)] at h29
          have hz : zab F e c In i = false := by unfold zab; rw [hin]; simp; omega
          exact s34 hz
        · rw [lg_cmp_ge, lsub_sign (by omega) (by omega)] at h29
          have hz : zab F e c In i = true := by unfold zab; rw [hin]; simp; omega
          refine vq_iload_n d_H_findOneAbove_32 rfl ?_
          refine vq_iret d_H_findOneAbove_33 rfl (by decide) (by decide) rfl rfl ?_
          refine ⟨?_, rfl⟩
          have h9 := zfst_on (zfst_some hI.2 hz) (zn F - (i + 1))
          rw [show i + 1 + (zn F - (i + 1)) = zn F by omega] at h9
          unfold zab1
          rw [h9]; rfl
  refine vq_iconst (v := 0) d_H_findOneAbove_0 (by decide) ?_
  refine vq_istore_n (lv' := [(1, _), (0, _)]) d_H_findOneAbove_1 (by decide) rfl ?_
  exact loop (zn F) 0 rfl ⟨by omega, rfl⟩
set_option maxRecDepth 100000 in
set_option maxHeartbeats 4000000 in
theorem ct_H_releaseThoseAbove (l : Launch) (b : Nat) (id : Nat → ClassId) (D : va_G) {g : Sg} {F : Fam} (hW : zW F) (hc : Hc g F) {e c : Nat} (hc40 : c < 2 ^ 40) (hs : HS g F e c (zIn0 F e)) : qCT l b id D m_H_releaseThoseAbove false [.ref (b + 38)] 85 kT g 85 kT (fun v' g' => v' = none ∧ (∀ q, q ≠ 38 → q ≠ 39 → g'.1 q = g.1 q) ∧ (∀ k, k ≠ 3 → g'.1 38 k = g.1 38 k) ∧ (∀ q, q ≠ 38 → g'.2 q = g.2 q) ∧ HS g' F e c (zit F e c 20)) (fun _ _ => False) := by
  have hn := hW.1
  refine qCT_of rfl (by decide) (Nat.le_of_ble_eq_true rfl) ?_
  show Vq l b id D m_H_releaseThoseAbove false 85 kT _ 85 kT _ 85 kT 0 0 0 [(0, .ref (b + 38))] [] g
  have loop : ∀ (n9 : Nat) (r : Nat) (g1 : Sg), 20 - r = n9 → (r ≤ 20 ∧ (∀ q, q ≠ 38 → q ≠ 39 → g1.1 q = g.1 q) ∧ (∀ k, k ≠ 3 → g1.1 38 k = g.1 38 k) ∧ (∀ q, q ≠ 38 → g1.2 q = g.2 q) ∧ HS g1 F e c (zit F e c r)) → Vq l b id D m_H_releaseThoseAbove false 85 kT (fun v' g' => v' = none ∧ (∀ q, q ≠ 38 → q ≠ 39 → g'.1 q = g.1 q) ∧ (∀ k, k ≠ 3 → g'.1 38 k = g.1 38 k) ∧ (∀ q, q ≠ 38 → g'.2 q = g.2 q) ∧ HS g' F e c (zit F e c 20)) 85 kT (fun _ _ => False) 85 kT 0 0 2 [(1, .int (nI r)), (0, .ref (b + 38))] [] g1 := by
    intro n9
    induction n9 using Nat.strongRecOn with
    | ind n9 ih =>
    intro r g1 hm hI
    have hr1 := hI.1
    refine vq_iload_n d_H_releaseThoseAbove_2 rfl ?_
    refine vq_bipush (v := 20) d_H_releaseThoseAbove_3 (by decide) ?_
    refine vq_icmp_ge (tgt := 57) d_H_releaseThoseAbove_5 (by decide) (fun h5 => ?_) (fun h5 => ?_)
    · have hr : r = 20 := by
        rw [show (20 : Int32) = nI 20 from rfl, nI_leI (by decide) (by omega)] at h5
        omega
      subst hr
      refine vq_vret d_H_releaseThoseAbove_57 rfl (by decide) (by decide) rfl rfl ?_
      exact ⟨rfl, hI.2.1, hI.2.2.1, hI.2.2.2.1, hI.2.2.2.2⟩
    · have hr : r < 20 := by
        rw [show (20 : Int32) = nI 20 from rfl, nI_leI (by decide) (by omega)] at h5
        omega
      have hc1 : Hc g1 F := hc.congr (fun q a d => hI.2.1 q (by omega) (by omega))
      refine vq_aload_n d_H_releaseThoseAbove_8 rfl ?_
      refine vq_callV (n := 0) (C := R_H) (T := T_H) _ _ d_H_releaseThoseAbove_9 (ct_H_findOneAbove l b id D hW hc1 hc40 hI.2.2.2.2) w_312 w_314 sel_H_findOneAbove w_315 w_5 rfl ⟨by decide, by decide, by decide +kernel⟩ ⟨by decide, by decide⟩ (by decide) rfl rfl rfl rfl (Nat.le_of_ble_eq_true rfl) rfl rfl rfl ⟨by decide, by decide⟩ (fun _ _ h => h.elim) (fun v9 g9 h9 => ?_)
      rw [h9.1, h9.2]
      refine vq_istore_n (lv' := [(2, _), (1, _), (0, _)]) d_H_releaseThoseAbove_12 (by decide) rfl ?_
      refine vq_iload_n d_H_releaseThoseAbove_13 rfl ?_
      refine vq_iconst (v := -1) d_H_releaseThoseAbove_14 (by decide) ?_
      refine vq_icmp_ne (tgt := 19) d_H_releaseThoseAbove_15 (by decide) (fun h15 => ?_) (fun h15 => ?_)
      · rw [eO_m1 (fun j hj => by have := (zab1_some hj).1; omega)] at h15
        obtain ⟨j, hj⟩ := Option.ne_none_iff_exists'.mp h15
        obtain ⟨hjn, hjI, -⟩ := zab1_some hj
        have hrs := zrm_sz hjn hjI
        have hra := zrm_am (e := e) (c := c) hjn hjI
        have hst : zit F e c (r + 1) = zrm (zit F e c r) j := by
          show zst1 F e c (zit F e c r) = _
          unfold zst1
          rw [hj]
        refine vq_aload_n d_H_releaseThoseAbove_19 rfl ?_
        refine vq_getR (k := 2) (C := R_H) (T := T_H) d_H_releaseThoseAbove_20 rfl in_H w_130 (by decide) rfl (by decide) rfl rfl ?_
        refine vq_iload_n d_H_releaseThoseAbove_23 rfl ?_
        refine vq_iconst (v := 0) d_H_releaseThoseAbove_24 (by decide) ?_
        refine vq_zast d_H_releaseThoseAbove_25 rfl (by decide) rfl (show _ = nI j by rw [hj]; rfl) (show _ < 20 by omega) (by first | exact Or.inl rfl | exact Or.inr rfl | assumption) ?_
        refine vq_aload_n d_H_releaseThoseAbove_26 rfl ?_
        refine vq_dup d_H_releaseThoseAbove_27 rfl ?_
        refine vq_getJ (k := 4) (C := R_H) (T := T_H) d_H_releaseThoseAbove_28 rfl in_H w_134 (by decide) rfl (by decide) rfl ?_
        refine vq_long (y := lN (zam F e c (zit F e c r))) hI.2.2.2.2.2.2.1 ?_
        refine vq_aload_n d_H_releaseThoseAbove_31 rfl ?_
        refine vq_getR (k := 5) (C := R_H) (T := T_H) d_H_releaseThoseAbove_32 rfl in_H w_135 (by decide) rfl (by decide) rfl rfl ?_
        refine vq_iload_n d_H_releaseThoseAbove_35 rfl ?_
        refine vq_lald d_H_releaseThoseAbove_36 (by decide) rfl (show _ = nI j by rw [hj]; rfl) (show _ < 20 by omega) ?_
        refine vq_long (y := lN (4 * zg F j e)) (hI.2.2.2.2.2.2.2.1 j hjn (zit_sub r j hjI)) ?_
        refine vq_lsub d_H_releaseThoseAbove_37 ?_
        refine vq_long (show _ = lN (zam F e c (zrm (zit F e c r) j)) by rw [lN_sub (by omega)]; congr 1; omega) ?_
        refine vq_putJ (k := 4) (C := R_H) (T := T_H) t_H d_H_releaseThoseAbove_38 rfl in_H w_134 ty_H nm_H (by decide) rfl (by decide) rfl (by decide +kernel) rfl ?_
        refine vq_aload_n d_H_releaseThoseAbove_41 rfl ?_
        refine vq_dup d_H_releaseThoseAbove_42 rfl ?_
        refine vq_getI (k := 3) (C := R_H) (T := T_H) d_H_releaseThoseAbove_43 rfl in_H w_132 (by decide) rfl (by decide) rfl ?_
        refine vq_int (y := nI (zsz F (zit F e c r))) (hI.2.2.2.2.2.1) ?_
        refine vq_iconst (v := 1) d_H_releaseThoseAbove_46 (by decide) ?_
        refine vq_isub d_H_releaseThoseAbove_47 ?_
        refine vq_int (show _ = nI (zsz F (zrm (zit F e c r) j)) by rw [← hrs]; exact nI_pred _) ?_
        refine vq_putI (k := 3) (C := R_H) (T := T_H) (ty := .int) t_H d_H_releaseThoseAbove_48 rfl in_H w_132 ty_H nm_H (by decide) rfl (by decide) rfl (by decide +kernel) rfl rfl rfl ?_
        refine vq_iinc (k := 1) (lv' := [(1, _), (2, _), (0, _)]) d_H_releaseThoseAbove_51 rfl (ip1 r) (by decide) rfl ?_
        refine vq_goto (tgt := 2) d_H_releaseThoseAbove_54 (by decide) ?_
        refine vq_pk [0, 2] (lv' := [(1, _), (0, _)]) rfl ?_
        refine ih (20 - (r + 1)) (by omega) (r + 1) _ rfl ⟨by omega, fun q a d => ?_, fun k a => ?_, fun q a => ?_, ?_⟩
        · rw [sI_n a, sJ_1, sI_n d]; exact hI.2.1 q a d
        · rw [sI_s, upd, if_neg a]; exact hI.2.2.1 k a
        · rw [sI_2, sJ_n a]; exact hI.2.2.2.1 q a
        · rw [hst]
          refine ⟨fun p hp => ?_, ?_, ?_, fun p hp hi => ?_, fun p hp => ?_⟩
          · rw [sI_n (by decide), sJ_1, sI_s, upd, zrm]
            by_cases e1 : p = j
            · simp [e1, bI]
            · simp only [e1, if_false]; exact hI.2.2.2.2.1 p hp
          · rw [sI_s, upd, if_pos rfl]
          · rw [sI_2, sJ_s, vp_updL, if_pos rfl]
          · rw [sI_2, sJ_n (by decide)]; exact hI.2.2.2.2.2.2.2.1 p hp hi
          · by_cases e1 : p = j
            · simp [zrm, e1] at hp
            · simp [zrm, e1] at hp; exact zit_sub r p hp
      · rw [eO_m1 (fun j hj => by have := (zab1_some hj).1; omega)] at h15
        refine vq_vret d_H_releaseThoseAbove_18 rfl (by decide) (by decide) rfl rfl ?_
        have h20 := zit_stay h15 (20 - r)
        rw [show r + (20 - r) = 20 by omega] at h20
        exact ⟨rfl, hI.2.1, hI.2.2.1, hI.2.2.2.1, by rw [h20]; exact hI.2.2.2.2⟩
  refine vq_iconst (v := 0) d_H_releaseThoseAbove_0 (by decide) ?_
  refine vq_istore_n (lv' := [(1, _), (0, _)]) d_H_releaseThoseAbove_1 (by decide) rfl ?_
  exact loop 20 0 _ rfl ⟨by omega, fun q a d => rfl, fun k a => rfl, fun q a => rfl, hs⟩
