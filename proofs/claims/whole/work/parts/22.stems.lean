/-! SuccessionClerk$Survey: stems, lines, the taker. Laid by wip/whole/specs/p22.py -/
def ab (f : Nat → Int32) : Option Nat → Nat → Int32
  | none => f
  | some a => upd f a (f a + 1)
/-- so many children from i on have heirs -/
def zBf (F : Fam) (e i p : Nat) : Nat := zsum (fun c => if (decide (i ≤ c) && zk F e p c) = true then 1 else 0) (zn F)
theorem zBf_0 (F : Fam) (e p : Nat) : zBf F e 0 p = zB F e p := zsum_congr (fun c _ => by simp)
theorem zBf_n (F : Fam) (e p : Nat) : zBf F e (zn F) p = 0 := by
  unfold zBf
  rw [zsum_congr (g := fun _ => 0) (fun c hc => by have : ¬ zn F ≤ c := by omega
                                                   simp [this]), zsum_zero]
theorem zBf_own (F : Fam) (e : Nat) {i p : Nat} (h : i ≤ p + 1) : zBf F e i p = zB F e p := by
  refine zsum_congr (fun c _ => ?_)
  by_cases hk : zk F e p c = true
  · have := zk_lt hk
    have h2 : i ≤ c := by omega
    simp [hk, h2]
  · simp [hk]
theorem zBf_cut (F : Fam) (e p : Nat) {j : Nat} (hj : j < zn F) : zBf F e j p = zBf F e (j + 1) p + (if zk F e p j = true then 1 else 0) := by
  have h := zsf_cut (fun c => if zk F e p c = true then 1 else 0) hj
  have key : ∀ i, zBf F e i p = zsf (fun c => if zk F e p c = true then 1 else 0) i (zn F) := by
    intro i
    unfold zBf zsf
    refine zsum_congr (fun c _ => ?_)
    by_cases h1 : i ≤ c <;> by_cases h2 : zk F e p c = true <;> simp [h1, h2]
  rw [key, key, h, Nat.add_comm]
theorem ab_at {f : Nat → Int32} {o : Option Nat} {p : Nat} : ab f o p = f p + (if o = some p then 1 else 0) := by
  cases o with
  | none => simp [ab]
  | some a =>
    by_cases h : p = a
    · subst h; simp [ab, upd]
    · simp [ab, upd, h, Ne.symm h]
theorem nI_n0 {k : Nat} (h : k < 2 ^ 31) : nI k ≤ 0 ↔ k = 0 := by
  rw [show (0 : Int32) = nI 0 from rfl, nI_leI h (by decide)]; omega
set_option maxRecDepth 100000 in
set_option maxHeartbeats 4000000 in
theorem ct_V_hasHeirs (l : Launch) (b : Nat) (id : Nat → ClassId) (D : va_G) {g : Sg} {o : Option Nat} {h : Nat} {Y : Nat → Bool} (hh : h ≤ 3) (hL : ∀ j, o = some j → j < 20 ∧ g.1 32 (h * 20 + j) = bI (Y j)) : qCT l b id D m_V_hasHeirs false [.ref (b + 29), .int (eO o), .int (nI h)] 85 kT g 85 kT (fun v g' => v = some (.int (bI (zoB o Y))) ∧ g' = g) (fun _ _ => False) := by
  refine qCT_of rfl (by decide) (Nat.le_of_ble_eq_true rfl) ?_
  show Vq l b id D m_V_hasHeirs false 85 kT _ 85 kT _ 85 kT 0 0 0 [(0, .ref (b + 29)), (1, .int (eO o)), (2, .int (nI h))] [] g
  refine vq_iload_n d_V_hasHeirs_0 rfl ?_
  refine vq_iconst (v := -1) d_V_hasHeirs_1 (by decide) ?_
  refine vq_icmp_eq (tgt := 23) d_V_hasHeirs_2 (by decide) (fun h2 => ?_) (fun h2 => ?_)
  · have ho : o = none := (eO_m1 (fun j hj => Nat.lt_trans (hL j hj).1 (by decide))).mp h2
    refine vq_iconst (v := 0) d_V_hasHeirs_23 (by decide) ?_
    refine vq_zret d_V_hasHeirs_24 rfl (by first | exact Or.inl rfl | exact Or.inr rfl | assumption) (by decide) (by decide) rfl rfl ?_
    first | refine ⟨r0 ?_, rfl⟩ | refine ⟨r1 ?_, rfl⟩
    first | (rw [ho]; rfl) | exact h16
  · obtain ⟨j, rfl⟩ : ∃ j, o = some j := by cases o with | none => exact absurd rfl h2 | some j => exact ⟨j, rfl⟩
    obtain ⟨hj, hv⟩ := hL j rfl
    refine vq_aload_n d_V_hasHeirs_5 rfl ?_
    refine vq_getR (k := 6) (C := R_V) (T := T_V) d_V_hasHeirs_6 rfl in_V w_96 (by decide) rfl (by decide) rfl rfl ?_
    refine vq_iload_n d_V_hasHeirs_9 rfl ?_
    refine vq_bipush (v := 20) d_V_hasHeirs_10 (by decide) ?_
    refine vq_imul d_V_hasHeirs_12 ?_
    refine vq_iload_n d_V_hasHeirs_13 rfl ?_
    refine vq_iadd d_V_hasHeirs_14 ?_
    refine vq_zald d_V_hasHeirs_15 (by decide) rfl (ix20 h j) (show _ < 80 by omega) ?_
    refine vq_if_eq (tgt := 23) d_V_hasHeirs_16 (by decide) (fun h16 => ?_) (fun h16 => ?_)
    · rw [hv, bI_0] at h16
      refine vq_iconst (v := 0) d_V_hasHeirs_23 (by decide) ?_
      refine vq_zret d_V_hasHeirs_24 rfl (by first | exact Or.inl rfl | exact Or.inr rfl | assumption) (by decide) (by decide) rfl rfl ?_
      first | refine ⟨r0 ?_, rfl⟩ | refine ⟨r1 ?_, rfl⟩
      first | (rw [ho]; rfl) | exact h16
    · rw [hv, bI_n0] at h16
      refine vq_iconst (v := 1) d_V_hasHeirs_19 (by decide) ?_
      refine vq_goto (tgt := 24) d_V_hasHeirs_20 (by decide) ?_
      refine vq_zret d_V_hasHeirs_24 rfl (by first | exact Or.inl rfl | exact Or.inr rfl | assumption) (by decide) (by decide) rfl rfl ?_
      first | refine ⟨r0 ?_, rfl⟩ | refine ⟨r1 ?_, rfl⟩
      first | (rw [ho]; rfl) | exact h16
set_option maxRecDepth 100000 in
set_option maxHeartbeats 4000000 in
theorem ct_V_addBranch (l : Launch) (b : Nat) (id : Nat → ClassId) (D : va_G) {g : Sg} {o : Option Nat} (hL : ∀ j, o = some j → j < 20) : qCT l b id D m_V_addBranch false [.ref (b + 29), .int (eO o)] 85 kT g 85 kT (fun v g' => v = none ∧ g' = sI g 31 (ab (g.1 31) o)) (fun _ _ => False) := by
  refine qCT_of rfl (by decide) (Nat.le_of_ble_eq_true rfl) ?_
  show Vq l b id D m_V_addBranch false 85 kT _ 85 kT _ 85 kT 0 0 0 [(0, .ref (b + 29)), (1, .int (eO o))] [] g
  refine vq_iload_n d_V_addBranch_0 rfl ?_
  refine vq_iconst (v := -1) d_V_addBranch_1 (by decide) ?_
  refine vq_icmp_eq (tgt := 15) d_V_addBranch_2 (by decide) (fun h2 => ?_) (fun h2 => ?_)
  · have ho : o = none := (eO_m1 (fun j hj => Nat.lt_trans (hL j hj) (by decide))).mp h2
    refine vq_vret d_V_addBranch_15 rfl (by decide) (by decide) rfl rfl ?_
    first | (refine ⟨rfl, ?_⟩; rw [ho]; exact (sI_id g 31).symm) | exact ⟨rfl, rfl⟩
  · obtain ⟨j, rfl⟩ : ∃ j, o = some j := by cases o with | none => exact absurd rfl h2 | some j => exact ⟨j, rfl⟩
    have hj := hL j rfl
    refine vq_aload_n d_V_addBranch_5 rfl ?_
    refine vq_getR (k := 5) (C := R_V) (T := T_V) d_V_addBranch_6 rfl in_V w_94 (by decide) rfl (by decide) rfl rfl ?_
    refine vq_iload_n d_V_addBranch_9 rfl ?_
    refine vq_dup2_11 d_V_addBranch_10 rfl rfl ?_
    refine vq_iald d_V_addBranch_11 (by decide) rfl rfl (show _ < 20 by omega) ?_
    refine vq_iconst (v := 1) d_V_addBranch_12 (by decide) ?_
    refine vq_iadd d_V_addBranch_13 ?_
    refine vq_iast d_V_addBranch_14 rfl (by decide) rfl rfl (show _ < 20 by omega) ?_
    refine vq_vret d_V_addBranch_15 rfl (by decide) (by decide) rfl rfl ?_
    first | (refine ⟨rfl, ?_⟩; rw [ho]; exact (sI_id g 31).symm) | exact ⟨rfl, rfl⟩
def IStems (g : Sg) (F : Fam) (e i : Nat) (g1 : Sg) : Prop := i ≤ zn F ∧ g1.2 = g.2 ∧ (∀ q, q ≠ 30 → q ≠ 31 → q ≠ 32 → g1.1 q = g.1 q) ∧ (∀ p, i ≤ p → p < zn F → g1.1 30 p = bI (zl F e p)) ∧ (∀ p, p < zn F → g1.1 31 p = nI (zBf F e i p)) ∧ (∀ p, i ≤ p → p < zn F → g1.1 32 p = bI (zX F e p))
theorem stems_no {g g1 : Sg} {F : Fam} {e j : Nat} (h : IStems g F e (j + 1) g1) (hx : zX F e j = false) : IStems g F e j (sI (sI g1 30 (upd (g1.1 30) j (bI (zl F e j)))) 32 (upd (g1.1 32) j (bI (zX F e j)))) := by
  obtain ⟨h1, h2, h3, h4, h5, h6⟩ := h
  refine ⟨by omega, h2, fun q a c d => by simp [sI, a, d]; exact h3 q a c d, fun p hp hn => ?_, fun p hn => ?_, fun p hp hn => ?_⟩
  · by_cases ej : p = j
    · subst ej; simp [sI, upd]
    · simp [sI, upd, ej]; exact h4 p (by omega) hn
  · have hk : zk F e p j = false := by unfold zk; simp [hx]
    have := h5 p hn
    rw [zBf_cut F e p (by omega)]
    simp [sI, hk]; exact this
  · by_cases ej : p = j
    · subst ej; simp [sI, upd]
    · simp [sI, upd, ej]; exact h6 p (by omega) hn
theorem stems_yes {g g1 : Sg} {F : Fam} (hW : zW F) {e j : Nat} (h : IStems g F e (j + 1) g1) (hx : zX F e j = true) {g2 : Sg} (hg : g2 = sI (sI g1 30 (upd (g1.1 30) j (bI (zl F e j)))) 32 (upd (g1.1 32) j (bI (zX F e j)))) : IStems g F e j (sI g2 31 (ab (ab (g1.1 31) (za F j)) (zb F j))) := by
  obtain ⟨h1, h2, h3, h4, h5, h6⟩ := h
  subst hg
  refine ⟨by omega, h2, fun q a c d => by simp [sI, a, c, d]; exact h3 q a c d, fun p hp hn => ?_, fun p hn => ?_, fun p hp hn => ?_⟩
  · by_cases ej : p = j
    · subst ej; simp [sI, upd]
    · simp [sI, upd, ej]; exact h4 p (by omega) hn
  · have h5p := h5 p hn
    rw [zBf_cut F e p (by omega), sI_s, ab_at, ab_at, h5p]
    by_cases ha : za F j = some p
    · have hb : zb F j ≠ some p := hW.2.2.2.1 j p (by omega) ha
      have hpj := hW.2.1 j p (by omega) ha
      have hk : zk F e p j = true := by unfold zk zch; simp [hx, ha, hpj]
      rw [if_pos ha, if_neg hb, if_pos hk, Int32.add_zero]; exact nI_1 _
    · by_cases hb : zb F j = some p
      · have hpj := hW.2.2.1 j p (by omega) hb
        have hk : zk F e p j = true := by unfold zk zch; simp [hx, hb, hpj]
        rw [if_neg ha, if_pos hb, if_pos hk, Int32.add_zero]; exact nI_1 _
      · have hk : ¬ zk F e p j = true := by
          unfold zk zch; simp [ha, hb]
        rw [if_neg ha, if_neg hb, if_neg hk, Int32.add_zero, Int32.add_zero]; rfl
  · by_cases ej : p = j
    · subst ej; simp [sI, upd]
    · simp [sI, upd, ej]; exact h6 p (by omega) hn
set_option maxRecDepth 100000 in
set_option maxHeartbeats 4000000 in
theorem ct_V_findStems (l : Launch) (b : Nat) (id : Nat → ClassId) (D : va_G) {g : Sg} {F : Fam} (hW : zW F) (hc : Hc g F) {e u : Nat} (he : e < zn F) (hu : zd F e = some u) (hde : g.1 29 1 = nI e) : qCT l b id D m_V_findStems false [.ref (b + 29)] 85 kT g 85 kT (fun v g' => v = none ∧ g'.2 = g.2 ∧ (∀ q, q ≠ 30 → q ≠ 31 → q ≠ 32 → g'.1 q = g.1 q) ∧ (∀ p, p < zn F → g'.1 30 p = bI (zl F e p)) ∧ (∀ p, p < zn F → g'.1 31 p = nI (zB F e p)) ∧ (∀ p, p < zn F → g'.1 32 p = bI (zX F e p))) (fun _ _ => False) := by
  have hn := hW.1
  refine qCT_of rfl (by decide) (Nat.le_of_ble_eq_true rfl) ?_
  show Vq l b id D m_V_findStems false 85 kT _ 85 kT _ 85 kT 0 0 0 [(0, .ref (b + 29))] [] g
  have loop : ∀ (n9 : Nat) (i : Nat) (g1 : Sg), i = n9 → IStems g F e i g1 → Vq l b id D m_V_findStems false 85 kT (fun v g' => v = none ∧ g'.2 = g.2 ∧ (∀ q, q ≠ 30 → q ≠ 31 → q ≠ 32 → g'.1 q = g.1 q) ∧ (∀ p, p < zn F → g'.1 30 p = bI (zl F e p)) ∧ (∀ p, p < zn F → g'.1 31 p = nI (zB F e p)) ∧ (∀ p, p < zn F → g'.1 32 p = bI (zX F e p))) 85 kT (fun _ _ => False) 85 kT 0 0 18 [(1, .int (nI i - 1)), (0, .ref (b + 29))] [] g1 := by
    intro n9
    induction n9 using Nat.strongRecOn with
    | ind n9 ih =>
    intro i g1 hm hI
    have hI0 := hI
    obtain ⟨hle, hg2, hfr, hL0, hB, hX0⟩ := hI0
    refine vq_iload_n d_V_findStems_18 rfl ?_
    refine vq_if_lt (tgt := 107) d_V_findStems_19 (by decide) (fun h19 => ?_) (fun h19 => ?_)
    · have hi : i = 0 := by
        cases i with
        | zero => rfl
        | succ j => exact absurd h19 (by rw [nI_pred]; exact nI_pos (by omega))
      subst hi
      refine vq_vret d_V_findStems_107 rfl (by decide) (by decide) rfl rfl ?_
      obtain ⟨-, k2, k3, k4, k5, k6⟩ := hI
      exact ⟨rfl, k2, k3, fun p hp => k4 p (by omega) hp, fun p hp => by rw [← zBf_0]; exact k5 p hp, fun p hp => k6 p (by omega) hp⟩
    · obtain ⟨j, rfl⟩ : ∃ j, i = j + 1 := by
        cases i with
        | zero => exact absurd (by decide) h19
        | succ j => exact ⟨j, rfl⟩
      rw [nI_pred]
      have hj : j < zn F := by omega
      have hBj := hB j hj
      rw [zBf_own F e (Nat.le_refl (j + 1))] at hBj
      have hX := zX_eq F e hj
      have hb20 := zB_le (F := F) (e := e) j
      have hc1 : Hc g1 F := hc.congr (fun q a c => hfr q (by omega) (by omega) (by omega))
      have hde1 : g1.1 29 1 = nI e := by rw [hfr 29 (by decide) (by decide) (by decide)]; exact hde
      have hza := hc1.2.1 j hj
      have hzb := hc1.2.2.1 j hj
      have s101 : ∀ (x : Int32) (g2 : Sg), IStems g F e j g2 → Vq l b id D m_V_findStems false 85 kT (fun v g' => v = none ∧ g'.2 = g.2 ∧ (∀ q, q ≠ 30 → q ≠ 31 → q ≠ 32 → g'.1 q = g.1 q) ∧ (∀ p, p < zn F → g'.1 30 p = bI (zl F e p)) ∧ (∀ p, p < zn F → g'.1 31 p = nI (zB F e p)) ∧ (∀ p, p < zn F → g'.1 32 p = bI (zX F e p))) 85 kT (fun _ _ => False) 85 kT 0 0 101 [(2, .int x), (1, .int (nI j)), (0, .ref (b + 29))] [] g2 := by
        intro x g2 hI2
        refine vq_iinc (k := 1) (lv' := [(1, _), (2, _), (0, _)]) d_V_findStems_101 rfl (im1 (nI j)) (by decide) rfl ?_
        refine vq_goto (tgt := 18) d_V_findStems_104 (by decide) ?_
        refine vq_pk [0, 2] (lv' := [(1, _), (0, _)]) rfl ?_
        exact ih j (by omega) j _ rfl hI2
      have s63 : Vq l b id D m_V_findStems false 85 kT (fun v g' => v = none ∧ g'.2 = g.2 ∧ (∀ q, q ≠ 30 → q ≠ 31 → q ≠ 32 → g'.1 q = g.1 q) ∧ (∀ p, p < zn F → g'.1 30 p = bI (zl F e p)) ∧ (∀ p, p < zn F → g'.1 31 p = nI (zB F e p)) ∧ (∀ p, p < zn F → g'.1 32 p = bI (zX F e p))) 85 kT (fun _ _ => False) 85 kT 0 0 63 [(1, .int (nI j)), (0, .ref (b + 29))] [.int (bI (zX F e j))] (sI g1 30 (upd (g1.1 30) j (bI (zl F e j)))) := by
        refine vq_istore_n (lv' := [(2, _), (1, _), (0, _)]) d_V_findStems_63 (by decide) rfl ?_
        refine vq_aload_n d_V_findStems_64 rfl ?_
        refine vq_getR (k := 6) (C := R_V) (T := T_V) d_V_findStems_65 rfl in_V w_96 (by decide) rfl (by decide) rfl rfl ?_
        refine vq_iload_n d_V_findStems_68 rfl ?_
        refine vq_iload_n d_V_findStems_69 rfl ?_
        refine vq_zast d_V_findStems_70 rfl (by decide) rfl rfl (show _ < 80 by omega) (bI_01 _) ?_
        refine vq_iload_n d_V_findStems_71 rfl ?_
        refine vq_if_eq (tgt := 101) d_V_findStems_72 (by decide) (fun h72 => ?_) (fun h72 => ?_)
        · have hx := bI_0.mp h72
          exact s101 _ _ (stems_no hI hx)
        · have hx := bI_n0.mp h72
          refine vq_aload_n d_V_findStems_75 rfl ?_
          refine vq_aload_n d_V_findStems_76 rfl ?_
          refine vq_getR (k := 0) (C := R_V) (T := T_V) d_V_findStems_77 rfl in_V w_82 (by decide) rfl (by decide) rfl rfl ?_
          refine vq_getR (k := 1) (C := R_F) (T := T_F) d_V_findStems_80 rfl in_F w_39 (by decide) rfl (by decide) rfl rfl ?_
          refine vq_iload_n d_V_findStems_83 rfl ?_
          refine vq_iald d_V_findStems_84 (by decide) rfl rfl (show _ < 20 by omega) ?_
          refine vq_int (y := eO (za F j)) hza ?_
          refine vq_callV (n := 1) (C := R_V) (T := T_V) _ _ d_V_findStems_85 (ct_V_addBranch l b id D (o := za F j) (fun a ha => by have := hW.2.1 j a hj ha; omega)) w_270 w_272 sel_V_addBranch w_273 w_3 rfl ⟨by decide, by decide, by decide +kernel⟩ ⟨by decide, by decide⟩ (by decide) rfl rfl rfl rfl (Nat.le_of_ble_eq_true rfl) rfl rfl rfl ⟨by decide, by decide⟩ (fun _ _ h => h.elim) (fun v85 g85 h85 => ?_)
          rw [h85.1, h85.2]
          refine vq_aload_n d_V_findStems_88 rfl ?_
          refine vq_aload_n d_V_findStems_89 rfl ?_
          refine vq_getR (k := 0) (C := R_V) (T := T_V) d_V_findStems_90 rfl in_V w_82 (by decide) rfl (by decide) rfl rfl ?_
          refine vq_getR (k := 2) (C := R_F) (T := T_F) d_V_findStems_93 rfl in_F w_43 (by decide) rfl (by decide) rfl rfl ?_
          refine vq_iload_n d_V_findStems_96 rfl ?_
          refine vq_iald d_V_findStems_97 (by decide) rfl rfl (show _ < 20 by omega) ?_
          refine vq_int (y := eO (zb F j)) hzb ?_
          refine vq_callV (n := 1) (C := R_V) (T := T_V) _ _ d_V_findStems_98 (ct_V_addBranch l b id D (o := zb F j) (fun a ha => by have := hW.2.2.1 j a hj ha; omega)) w_270 w_272 sel_V_addBranch w_273 w_3 rfl ⟨by decide, by decide, by decide +kernel⟩ ⟨by decide, by decide⟩ (by decide) rfl rfl rfl rfl (Nat.le_of_ble_eq_true rfl) rfl rfl rfl ⟨by decide, by decide⟩ (fun _ _ h => h.elim) (fun v98 g98 h98 => ?_)
          rw [h98.1, h98.2]
          rw [sI_sI]
          exact s101 _ _ (stems_yes hW hI hx rfl)
      refine vq_aload_n d_V_findStems_22 rfl ?_
      refine vq_getR (k := 4) (C := R_V) (T := T_V) d_V_findStems_23 rfl in_V w_92 (by decide) rfl (by decide) rfl rfl ?_
      refine vq_iload_n d_V_findStems_26 rfl ?_
      refine vq_aload_n d_V_findStems_27 rfl ?_
      refine vq_getR (k := 0) (C := R_V) (T := T_V) d_V_findStems_28 rfl in_V w_82 (by decide) rfl (by decide) rfl rfl ?_
      refine vq_iload_n d_V_findStems_31 rfl ?_
      refine vq_aload_n d_V_findStems_32 rfl ?_
      refine vq_getI (k := 1) (C := R_V) (T := T_V) d_V_findStems_33 rfl in_V w_83 (by decide) rfl (by decide) rfl ?_
      refine vq_int (y := nI e) hde1 ?_
      refine vq_callV (n := 2) (C := R_F) (T := T_F) _ _ d_V_findStems_36 (ct_F_isLeft l b id D hW hc1 hj he hu) w_261 w_262 w_263 w_264 w_2 rfl ⟨by decide, by decide, by decide +kernel⟩ ⟨by decide, by decide⟩ (by decide) rfl rfl rfl rfl (Nat.le_of_ble_eq_true rfl) rfl rfl rfl ⟨by decide, by decide⟩ (fun _ _ h => h.elim) (fun v36 g36 h36 => ?_)
      rw [h36.1, h36.2]
      refine vq_zast d_V_findStems_39 rfl (by decide) rfl rfl (show _ < 20 by omega) (bI_01 _) ?_
      refine vq_aload_n d_V_findStems_40 rfl ?_
      refine vq_getR (k := 4) (C := R_V) (T := T_V) d_V_findStems_41 rfl in_V w_92 (by decide) rfl (by decide) rfl rfl ?_
      refine vq_iload_n d_V_findStems_44 rfl ?_
      refine vq_zald d_V_findStems_45 (by decide) rfl rfl (show _ < 20 by omega) ?_
      refine vq_int (show _ = bI (zl F e j) by simp [sI, upd]) ?_
      refine vq_if_ne (tgt := 58) d_V_findStems_46 (by decide) (fun h46 => ?_) (fun h46 => ?_)
      · have hx : zX F e j = true := by rw [hX, bI_n0.mp h46]; rfl
        refine vq_iconst (v := 1) d_V_findStems_58 (by decide) ?_
        refine vq_goto (tgt := 63) d_V_findStems_59 (by decide) ?_
        refine vq_int (show _ = bI (zX F e j) by rw [hx]; rfl) ?_
        exact s63
      · have hl0 := bI_0.mp h46
        refine vq_aload_n d_V_findStems_49 rfl ?_
        refine vq_getR (k := 5) (C := R_V) (T := T_V) d_V_findStems_50 rfl in_V w_94 (by decide) rfl (by decide) rfl rfl ?_
        refine vq_iload_n d_V_findStems_53 rfl ?_
        refine vq_iald d_V_findStems_54 (by decide) rfl rfl (show _ < 20 by omega) ?_
        refine vq_int (y := nI (zB F e j)) hBj ?_
        refine vq_if_le (tgt := 62) d_V_findStems_55 (by decide) (fun h55 => ?_) (fun h55 => ?_)
        · rw [nI_n0 (by omega)] at h55
          have hx : zX F e j = false := by rw [hX, hl0]; simp; omega
          refine vq_iconst (v := 0) d_V_findStems_62 (by decide) ?_
          refine vq_int (show _ = bI (zX F e j) by rw [hx]; rfl) ?_
          exact s63
        · rw [nI_n0 (by omega)] at h55
          have hx : zX F e j = true := by rw [hX, hl0]; simp; omega
          refine vq_iconst (v := 1) d_V_findStems_58 (by decide) ?_
          refine vq_goto (tgt := 63) d_V_findStems_59 (by decide) ?_
          refine vq_int (show _ = bI (zX F e j) by rw [hx]; rfl) ?_
          exact s63
  refine vq_aload_n d_V_findStems_0 rfl ?_
  refine vq_getR (k := 5) (C := R_V) (T := T_V) d_V_findStems_1 rfl in_V w_94 (by decide) rfl (by decide) rfl rfl ?_
  refine vq_iconst (v := 0) d_V_findStems_4 (by decide) ?_
  refine vq_callS (n := 2) _ _ d_V_findStems_5 (ct_A_fillI l b id D (q := 31) (by decide) rfl 0) w_258 w_259 w_260 w_13 rfl ⟨by decide, by decide, by decide +kernel⟩ ⟨by decide, by decide⟩ rfl rfl (Nat.le_of_ble_eq_true rfl) rfl rfl rfl ⟨by decide, by decide⟩ (fun _ _ h => h.elim) (fun v5 g5 h5 => ?_)
  obtain ⟨rfl, f, rfl, hf⟩ := h5
  refine vq_aload_n d_V_findStems_8 rfl ?_
  refine vq_getR (k := 0) (C := R_V) (T := T_V) d_V_findStems_9 rfl in_V w_82 (by decide) rfl (by decide) rfl rfl ?_
  refine vq_getI (k := 0) (C := R_F) (T := T_F) d_V_findStems_12 rfl in_F w_36 (by decide) rfl (by decide) rfl ?_
  refine vq_int (y := nI (zn F)) hc.1 ?_
  refine vq_iconst (v := 1) d_V_findStems_15 (by decide) ?_
  refine vq_isub d_V_findStems_16 ?_
  refine vq_istore_n (lv' := [(1, _), (0, _)]) d_V_findStems_17 (by decide) rfl ?_
  exact loop (zn F) (zn F) _ rfl ⟨Nat.le_refl _, rfl, fun q a c d => sI_n c, fun p h1 h2 => absurd h2 (by omega), fun p hp => by rw [sI_s, zBf_n]; exact hf p (show p < 20 by omega), fun p h1 h2 => absurd h2 (by omega)⟩
