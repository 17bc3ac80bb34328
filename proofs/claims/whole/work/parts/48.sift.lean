/-! the reference sifts: gifts brought in. Laid by wip/whole/specs/p48.py -/
def zgi (F : Fam) (e : Nat) (In : Nat → Bool) (k : Nat) : Nat := zsum (fun p => if In p = true then zg F p e else 0) k
theorem zam_gi {F : Fam} {e c : Nat} {In : Nat → Bool} : zam F e c In = c + 4 * zgi F e In (zn F) := by
  unfold zam zgi
  rw [← zsum_mul, zsum_congr (g := fun p => 4 * (if In p = true then zg F p e else 0)) (fun p _ => by split <;> rfl)]
theorem zgi_lt {F : Fam} (hW : zW F) {e : Nat} {In : Nat → Bool} : zgi F e In (zn F) ≤ 20000000 := by
  have := zam_le (e := e) (c := 0) hW In
  rw [zam_gi] at this
  omega
theorem m4 (n x : Nat) : 4 * n * x = n * (4 * x) := by rw [Nat.mul_comm 4 n, Nat.mul_assoc]
theorem zit_20 {F : Fam} {e c r : Nat} (hr : r ≤ 20) (h : zab1 F e c (zit F e c r) = none) : zit F e c 20 = zit F e c r := by
  have := zit_stay h (20 - r)
  rw [show r + (20 - r) = 20 by omega] at this
  exact this
theorem zit_next {F : Fam} {e c r p : Nat} (h : zab1 F e c (zit F e c r) = some p) : zit F e c (r + 1) = zrm (zit F e c r) p := by
  show zst1 F e c (zit F e c r) = _
  unfold zst1
  rw [h]
theorem zit_r {F : Fam} {e c r p : Nat} (hn : zn F ≤ 20) (h : zab1 F e c (zit F e c r) = some p) : r < 20 := by
  have h1 := zit_fall r (by rw [h]; exact fun h => by cases h)
  have h2 := zsz_le (F := F) (zIn0 F e)
  obtain ⟨q1, q2, -⟩ := zab1_some h
  have h3 := zrm_sz q1 q2
  omega
set_option maxRecDepth 100000 in
set_option maxHeartbeats 4000000 in
theorem ct_M_giftsIn (l : Launch) (b : Nat) (id : Nat → ClassId) (D : va_G) {g : Sg} {F : Fam} (hW : zW F) (hm : Hm g F) {e : Nat} (he : e < zn F) (ho : g.1 67 9 = nI e) {In : Nat → Bool} (hIn : ∀ p, p < zn F → g.1 80 p = bI (In p)) : qCT l b id D m_M_giftsIn false [.ref (b + 67)] 85 kT g 85 kT (fun v' g' => v' = some (.long (lN (zgi F e In (zn F)))) ∧ g' = g) (fun _ _ => False) := by
  have hn := hW.1
  refine qCT_of rfl (by decide) (Nat.le_of_ble_eq_true rfl) ?_
  show Vq l b id D m_M_giftsIn false 85 kT _ 85 kT _ 85 kT 0 0 0 [(0, .ref (b + 67))] [] g
  have loop : ∀ (n9 : Nat) (i : Nat), zn F - i = n9 → i ≤ zn F → Vq l b id D m_M_giftsIn false 85 kT (fun v' g' => v' = some (.long (lN (zgi F e In (zn F)))) ∧ g' = g) 85 kT (fun _ _ => False) 85 kT 0 0 4 [(3, .int (nI i)), (1, .long (lN (zgi F e In i))), (0, .ref (b + 67))] [] g := by
    intro n9
    induction n9 using Nat.strongRecOn with
    | ind n9 ih =>
    intro i hm9 hle
    refine vq_iload_n d_M_giftsIn_4 rfl ?_
    refine vq_aload_n d_M_giftsIn_5 rfl ?_
    refine vq_getI (k := 1) (C := R_M) (T := T_M) d_M_giftsIn_6 rfl in_M w_656 (by decide) rfl (by decide) rfl ?_
    refine vq_int (y := nI (zn F)) hm.1 ?_
    refine vq_icmp_ge (tgt := 49) d_M_giftsIn_9 (by decide) (fun h9 => ?_) (fun h9 => ?_)
    · have hi : i = zn F := by
        rw [nI_leI (by omega) (by omega)] at h9
        omega
      subst hi
      refine vq_lload_n d_M_giftsIn_49 rfl ?_
      refine vq_lret d_M_giftsIn_50 rfl (by decide) (by decide) rfl rfl ?_
      exact ⟨rfl, rfl⟩
    · have hi : i < zn F := by
        rw [nI_leI (by omega) (by omega)] at h9
        omega
      refine vq_aload_n d_M_giftsIn_12 rfl ?_
      refine vq_getR (k := 19) (C := R_M) (T := T_M) d_M_giftsIn_13 rfl in_M w_674 (by decide) rfl (by decide) rfl rfl ?_
      refine vq_iload_n d_M_giftsIn_16 rfl ?_
      refine vq_zald d_M_giftsIn_17 (by decide) rfl rfl (show _ < 20 by omega) ?_
      refine vq_int (y := bI (In i)) (hIn i hi) ?_
      refine vq_if_eq (tgt := 41) d_M_giftsIn_18 (by decide) (fun h18 => ?_) (fun h18 => ?_)
      · rw [bI_0] at h18
        have hs : zgi F e In (i + 1) = zgi F e In i := by show zgi F e In i + (if In i = true then zg F i e else 0) = _; rw [h18]; rfl
        refine vq_lload_n d_M_giftsIn_41 rfl ?_
        refine vq_lstore_n (lv' := [(1, _), (3, _), (0, _)]) d_M_giftsIn_42 (by decide) rfl ?_
        refine vq_iinc (k := 1) (lv' := [(3, _), (1, _), (0, _)]) d_M_giftsIn_43 rfl (ip1 i) (by decide) rfl ?_
        refine vq_goto (tgt := 4) d_M_giftsIn_46 (by decide) ?_
        rw [← hs]
        exact ih (zn F - (i + 1)) (by omega) (i + 1) rfl (by omega)
      · rw [bI_n0] at h18
        have hs : zgi F e In (i + 1) = zgi F e In i + zg F i e := by show zgi F e In i + (if In i = true then zg F i e else 0) = _; rw [h18]; rfl
        refine vq_lload_n d_M_giftsIn_21 rfl ?_
        refine vq_aload_n d_M_giftsIn_22 rfl ?_
        refine vq_getR (k := 7) (C := R_M) (T := T_M) d_M_giftsIn_23 rfl in_M w_662 (by decide) rfl (by decide) rfl rfl ?_
        refine vq_bipush (v := 20) d_M_giftsIn_26 (by decide) ?_
        refine vq_iload_n d_M_giftsIn_28 rfl ?_
        refine vq_imul d_M_giftsIn_29 ?_
        refine vq_aload_n d_M_giftsIn_30 rfl ?_
        refine vq_getI (k := 9) (C := R_M) (T := T_M) d_M_giftsIn_31 rfl in_M w_664 (by decide) rfl (by decide) rfl ?_
        refine vq_int (y := nI e) ho ?_
        refine vq_iadd d_M_giftsIn_34 ?_
        rw [ix20m]
        refine vq_iald d_M_giftsIn_35 (by decide) rfl rfl (show _ < 400 by omega) ?_
        refine vq_int (y := nI (zg F i e)) (hm.2.2.2.2.2.2.1 i e (by omega) (by omega)) ?_
        refine vq_i2l d_M_giftsIn_36 (nI_l (by have := hW.2.2.2.2.2.2.2 i e; omega)) ?_
        refine vq_ladd d_M_giftsIn_37 ?_
        rw [lN_add]
        refine vq_goto (tgt := 42) d_M_giftsIn_38 (by decide) ?_
        refine vq_lstore_n (lv' := [(1, _), (3, _), (0, _)]) d_M_giftsIn_42 (by decide) rfl ?_
        refine vq_iinc (k := 1) (lv' := [(3, _), (1, _), (0, _)]) d_M_giftsIn_43 rfl (ip1 i) (by decide) rfl ?_
        refine vq_goto (tgt := 4) d_M_giftsIn_46 (by decide) ?_
        rw [← hs]
        exact ih (zn F - (i + 1)) (by omega) (i + 1) rfl (by omega)
  refine vq_lconst (v := 0) d_M_giftsIn_0 rfl ?_
  refine vq_lstore_n (lv' := [(1, _), (0, _)]) d_M_giftsIn_1 (by decide) rfl ?_
  refine vq_iconst (v := 0) d_M_giftsIn_2 (by decide) ?_
  refine vq_istore_n (lv' := [(3, _), (1, _), (0, _)]) d_M_giftsIn_3 (by decide) rfl ?_
  exact loop (zn F) 0 rfl (by omega)
set_option maxRecDepth 100000 in
set_option maxHeartbeats 4000000 in
theorem ct_M_sift (l : Launch) (b : Nat) (id : Nat → ClassId) (D : va_G) {g : Sg} {F : Fam} (hW : zW F) (hm : Hm g F) {e : Nat} (he : e < zn F) (ho : g.1 67 9 = nI e) (hX : ∀ p, p < zn F → g.1 77 p = bI (zX F e p)) {c : Nat} (hc : c < 2 ^ 28) : qCT l b id D m_M_sift false [.ref (b + 67), .long (lN c)] 85 kT g 85 kT (fun v' g' => v' = some (.int (nI (zsz F (zit F e c 20)))) ∧ g'.2 = g.2 ∧ (∀ q, q ≠ 80 → g'.1 q = g.1 q) ∧ (∀ p, p < zn F → g'.1 80 p = bI (zit F e c 20 p))) (fun _ _ => False) := by
  have hn := hW.1
  refine qCT_of rfl (by decide) (Nat.le_of_ble_eq_true rfl) ?_
  show Vq l b id D m_M_sift false 85 kT _ 85 kT _ 85 kT 0 0 0 [(0, .ref (b + 67)), (1, .long (lN c))] [] g
  have loopB : ∀ (n9 : Nat) (r : Nat) (a : Bool) (g1 : Sg), 2 * (20 - r) + (if a = true then 1 else 0) = n9 → (r ≤ 20 ∧ g1.2 = g.2 ∧ (∀ q, q ≠ 80 → g1.1 q = g.1 q) ∧ (∀ p, p < zn F → g1.1 80 p = bI (zit F e c r p)) ∧ (a = false → zab1 F e c (zit F e c r) = none)) → Vq l b id D m_M_sift false 85 kT (fun v' g' => v' = some (.int (nI (zsz F (zit F e c 20)))) ∧ g'.2 = g.2 ∧ (∀ q, q ≠ 80 → g'.1 q = g.1 q) ∧ (∀ p, p < zn F → g'.1 80 p = bI (zit F e c 20 p))) 85 kT (fun _ _ => False) 85 kT 0 0 76 [(4, .int (bI a)), (3, .int (nI (zsz F (zit F e c r)))), (0, .ref (b + 67)), (1, .long (lN c))] [] g1 := by
    intro n9
    induction n9 using Nat.strongRecOn with
    | ind n9 ih =>
    intro r a g1 hm9 hI
    have hr0 := hI.1
    refine vq_iload d_M_sift_76 rfl ?_
    refine vq_if_eq (tgt := 175) d_M_sift_78 (by decide) (fun h78 => ?_) (fun h78 => ?_)
    · rw [bI_0] at h78
      refine vq_iload_n d_M_sift_175 rfl ?_
      refine vq_iret d_M_sift_176 rfl (by decide) (by decide) rfl rfl ?_
      rw [zit_20 hI.1 (hI.2.2.2.2 h78)]
      exact ⟨rfl, hI.2.1, hI.2.2.1, hI.2.2.2.1⟩
    · rw [bI_n0] at h78
      subst h78
      have loopC : ∀ (n8 : Nat) (p : Nat) (a : Bool) (nn : Nat) (g2 : Sg), zn F - p = n8 → (p ≤ zn F ∧ g2.2 = g.2 ∧ (∀ q, q ≠ 80 → g2.1 q = g.1 q) ∧ (a = false → nn = zsz F (zit F e c r)) ∧ (a = false → ∀ q, q < zn F → g2.1 80 q = bI (zit F e c r q)) ∧ (a = false → zfst (zab F e c (zit F e c r)) p = none) ∧ (a = true → r < 20 ∧ nn = zsz F (zit F e c (r + 1)) ∧ ∀ q, q < zn F → g2.1 80 q = bI (zit F e c (r + 1) q))) → Vq l b id D m_M_sift false 85 kT (fun v' g' => v' = some (.int (nI (zsz F (zit F e c 20)))) ∧ g'.2 = g.2 ∧ (∀ q, q ≠ 80 → g'.1 q = g.1 q) ∧ (∀ p, p < zn F → g'.1 80 p = bI (zit F e c 20 p))) 85 kT (fun _ _ => False) 85 kT 0 0 99 [(7, .int (nI p)), (5, .long (lN (zam F e c (zit F e c r)))), (4, .int (bI a)), (3, .int (nI nn)), (0, .ref (b + 67)), (1, .long (lN c))] [] g2 := by
        intro n8
        induction n8 using Nat.strongRecOn with
        | ind n8 ih8 =>
        intro p a nn g2 hm8 hJ
        have hp1 := hJ.1
        have hm2 : Hm g2 F := hm.congr (by rw [hJ.2.2.1 67 (by decide)]) (fun q _ _ => hJ.2.2.1 q (by omega))
        refine vq_iload d_M_sift_99 rfl ?_
        refine vq_aload_n d_M_sift_101 rfl ?_
        refine vq_getI (k := 1) (C := R_M) (T := T_M) d_M_sift_102 rfl in_M w_656 (by decide) rfl (by decide) rfl ?_
        refine vq_int (y := nI (zn F)) hm2.1 ?_
        refine vq_icmp_ge (tgt := 172) d_M_sift_105 (by decide) (fun h105 => ?_) (fun h105 => ?_)
        · have hp : p = zn F := by
            rw [nI_leI (by omega) (by omega)] at h105
            omega
          subst hp
          refine vq_goto (tgt := 76) d_M_sift_172 (by decide) ?_
          refine vq_pk [2, 3, 4, 5] (lv' := [(4, _), (3, _), (0, _), (1, _)]) rfl ?_
          cases a with
          | false =>
            have h9 := hJ.2.2.2.2.2.1 rfl
            first
              | (rw [hJ.2.2.2.1 rfl]; refine ih (2 * (20 - r)) (by simp at hm9; omega) r false _ (by simp) ⟨hI.1, hJ.2.1, hJ.2.2.1, hJ.2.2.2.2.1 rfl, fun _ => h9⟩)
              | cases h110
          | true =>
            obtain ⟨k1, k2, k3⟩ := hJ.2.2.2.2.2.2 rfl
            rw [k2]
            exact ih (2 * (20 - (r + 1)) + 1) (by simp at hm9; omega) (r + 1) true _ (by simp) ⟨by omega, hJ.2.1, hJ.2.2.1, k3, fun h => by cases h⟩
        · have hp : p < zn F := by
            rw [nI_leI (by omega) (by omega)] at h105
            omega
          refine vq_iload d_M_sift_108 rfl ?_
          refine vq_if_ne (tgt := 172) d_M_sift_110 (by decide) (fun h110 => ?_) (fun h110 => ?_)
          · rw [bI_n0] at h110
            refine vq_goto (tgt := 76) d_M_sift_172 (by decide) ?_
            refine vq_pk [2, 3, 4, 5] (lv' := [(4, _), (3, _), (0, _), (1, _)]) rfl ?_
            cases a with
            | false =>
              have h9 := hJ.2.2.2.2.2.1 rfl
              first
                | (rw [hJ.2.2.2.1 rfl]; refine ih (2 * (20 - r)) (by simp at hm9; omega) r false _ (by simp) ⟨hI.1, hJ.2.1, hJ.2.2.1, hJ.2.2.2.2.1 rfl, fun _ => h9⟩)
                | cases h110
            | true =>
              obtain ⟨k1, k2, k3⟩ := hJ.2.2.2.2.2.2 rfl
              rw [k2]
              exact ih (2 * (20 - (r + 1)) + 1) (by simp at hm9; omega) (r + 1) true _ (by simp) ⟨by omega, hJ.2.1, hJ.2.2.1, k3, fun h => by cases h⟩
          · rw [bI_0] at h110
            have hnf := hJ.2.2.2.2.2.1 h110
            have hnv := hJ.2.2.2.1 h110
            refine vq_aload_n d_M_sift_113 rfl ?_
            refine vq_getR (k := 19) (C := R_M) (T := T_M) d_M_sift_114 rfl in_M w_674 (by decide) rfl (by decide) rfl rfl ?_
            refine vq_iload d_M_sift_117 rfl ?_
            refine vq_zald d_M_sift_119 (by decide) rfl rfl (show _ < 20 by omega) ?_
            refine vq_int (y := bI (zit F e c r p)) (hJ.2.2.2.2.1 h110 p hp) ?_
            refine vq_if_eq (tgt := 166) d_M_sift_120 (by decide) (fun h120 => ?_) (fun h120 => ?_)
            · rw [bI_0] at h120
              have hab : zab F e c (zit F e c r) p = false := by unfold zab; rw [h120]; rfl
              refine vq_iinc (k := 0) (lv' := [(7, _), (5, _), (4, _), (3, _), (0, _), (1, _)]) d_M_sift_166 rfl (ip1 p) (by decide) rfl ?_
              refine vq_goto (tgt := 99) d_M_sift_169 (by decide) ?_
              refine ih8 (zn F - (p + 1)) (by omega) (p + 1) a _ _ rfl ⟨by omega, hJ.2.1, hJ.2.2.1, hJ.2.2.2.1, hJ.2.2.2.2.1, fun h => zfst_none hnf hab, hJ.2.2.2.2.2.2⟩
            · rw [bI_n0] at h120
              refine vq_ldc2 d_M_sift_123 w_803 ?_
              refine vq_iload_n d_M_sift_126 rfl ?_
              refine vq_i2l d_M_sift_127 (show _ = lN (zsz F (zit F e c r)) by rw [hnv]; exact nI_l (by have := zsz_le (F := F) (zit F e c r); omega)) ?_
              refine vq_lmul d_M_sift_128 ?_
              rw [show (4 : Int64) = lN 4 from rfl, lN_mul]
              refine vq_aload_n d_M_sift_129 rfl ?_
              refine vq_getR (k := 7) (C := R_M) (T := T_M) d_M_sift_130 rfl in_M w_662 (by decide) rfl (by decide) rfl rfl ?_
              refine vq_bipush (v := 20) d_M_sift_133 (by decide) ?_
              refine vq_iload d_M_sift_135 rfl ?_
              refine vq_imul d_M_sift_137 ?_
              refine vq_aload_n d_M_sift_138 rfl ?_
              refine vq_getI (k := 9) (C := R_M) (T := T_M) d_M_sift_139 rfl in_M w_664 (by decide) rfl (by decide) rfl ?_
              refine vq_int (y := nI e) (by rw [hJ.2.2.1 67 (by decide)]; exact ho) ?_
              refine vq_iadd d_M_sift_142 ?_
              rw [ix20m]
              refine vq_iald d_M_sift_143 (by decide) rfl rfl (show _ < 400 by omega) ?_
              refine vq_int (y := nI (zg F p e)) (hm2.2.2.2.2.2.2.1 p e (by omega) (by omega)) ?_
              refine vq_i2l d_M_sift_144 (nI_l (by have := hW.2.2.2.2.2.2.2 p e; omega)) ?_
              refine vq_lmul d_M_sift_145 ?_
              rw [lN_mul, m4]
              refine vq_lload d_M_sift_146 rfl ?_
              refine vq_lcmp d_M_sift_148 ?_
              refine vq_if_le (tgt := 166) d_M_sift_149 (by decide) (fun h149 => ?_) (fun h149 => ?_)
              · rw [lg_cmp_le, pk_lLE (by have := zsg_le (e := e) hW (zit F e c r) p; omega) (by have := zam_le (e := e) (c := c) hW (zit F e c r); omega)] at h149
                have hab : zab F e c (zit F e c r) p = false := by unfold zab; rw [h120, decide_eq_false (by omega)]; rfl
                refine vq_iinc (k := 0) (lv' := [(7, _), (5, _), (4, _), (3, _), (0, _), (1, _)]) d_M_sift_166 rfl (ip1 p) (by decide) rfl ?_
                refine vq_goto (tgt := 99) d_M_sift_169 (by decide) ?_
                refine ih8 (zn F - (p + 1)) (by omega) (p + 1) a _ _ rfl ⟨by omega, hJ.2.1, hJ.2.2.1, hJ.2.2.2.1, hJ.2.2.2.2.1, fun h => zfst_none hnf hab, hJ.2.2.2.2.2.2⟩
              · rw [lg_cmp_le, pk_lLE (by have := zsg_le (e := e) hW (zit F e c r) p; omega) (by have := zam_le (e := e) (c := c) hW (zit F e c r); omega)] at h149
                have hab : zab F e c (zit F e c r) p = true := by unfold zab; rw [h120, decide_eq_true (by omega)]; rfl
                have h1s : zab1 F e c (zit F e c r) = some p := by
                  have h9 := zfst_on (zfst_some hnf hab) (zn F - (p + 1))
                  rw [show p + 1 + (zn F - (p + 1)) = zn F by omega] at h9
                  exact h9
                have hr20 := zit_r hn h1s
                have hnx := zit_next h1s
                have hsz : zsz F (zit F e c (r + 1)) + 1 = zsz F (zit F e c r) := by rw [hnx]; exact zrm_sz hp h120
                refine vq_aload_n d_M_sift_152 rfl ?_
                refine vq_getR (k := 19) (C := R_M) (T := T_M) d_M_sift_153 rfl in_M w_674 (by decide) rfl (by decide) rfl rfl ?_
                refine vq_iload d_M_sift_156 rfl ?_
                refine vq_iconst (v := 0) d_M_sift_158 (by decide) ?_
                refine vq_zast d_M_sift_159 rfl (by decide) rfl rfl (show _ < 20 by omega) (by first | exact Or.inl rfl | exact Or.inr rfl | assumption) ?_
                refine vq_iinc (k := 3) (lv' := [(3, _), (7, _), (5, _), (4, _), (0, _), (1, _)]) d_M_sift_160 rfl (show _ = nI (zsz F (zit F e c (r + 1))) by rw [im1, hnv, ← hsz, dn1]) (by decide) rfl ?_
                refine vq_iconst (v := 1) d_M_sift_163 (by decide) ?_
                refine vq_istore (lv' := [(4, _), (3, _), (7, _), (5, _), (0, _), (1, _)]) d_M_sift_164 (by decide) rfl ?_
                refine vq_iinc (k := 2) (lv' := [(7, _), (4, _), (3, _), (5, _), (0, _), (1, _)]) d_M_sift_166 rfl (ip1 p) (by decide) rfl ?_
                refine vq_goto (tgt := 99) d_M_sift_169 (by decide) ?_
                refine vq_pk [0, 3, 1, 2, 4, 5] (lv' := [(7, _), (5, _), (4, _), (3, _), (0, _), (1, _)]) rfl ?_
                refine ih8 (zn F - (p + 1)) (by omega) (p + 1) true _ _ rfl ⟨by omega, (by exact hJ.2.1), fun q hq => by rw [sI_n hq]; exact hJ.2.2.1 q hq, (fun h => nomatch h), (fun h => nomatch h), (fun h => nomatch h), fun _ => ⟨hr20, rfl, fun q hq => ?_⟩⟩
                rw [sI_s, upd, hnx]
                show _ = bI (if q = p then false else zit F e c r q)
                by_cases e1 : q = p
                · rw [if_pos e1, if_pos e1]; rfl
                · rw [if_neg e1, if_neg e1]; exact hJ.2.2.2.2.1 h110 q hq
      refine vq_iconst (v := 0) d_M_sift_81 (by decide) ?_
      refine vq_istore (lv' := [(4, _), (3, _), (0, _), (1, _)]) d_M_sift_82 (by decide) rfl ?_
      refine vq_lload_n d_M_sift_84 rfl ?_
      refine vq_ldc2 d_M_sift_85 w_803 ?_
      refine vq_aload_n d_M_sift_88 rfl ?_
      refine vq_callV (n := 0) (C := R_M) (T := T_M) _ _ d_M_sift_89 (ct_M_giftsIn l b id D hW (e := e) (hm.congr (by rw [hI.2.2.1 67 (by decide)]) (fun q _ _ => hI.2.2.1 q (by omega))) he (by rw [hI.2.2.1 67 (by decide)]; exact ho) (In := zit F e c r) hI.2.2.2.1) w_850 w_852 sel_M_giftsIn w_853 w_7 rfl ⟨by decide, by decide, by decide +kernel⟩ ⟨by decide, by decide⟩ (by decide) rfl rfl rfl rfl (Nat.le_of_ble_eq_true rfl) rfl rfl rfl ⟨by decide, by decide⟩ (fun _ _ h => h.elim) (fun v89 g89 h89 => ?_)
      rw [h89.1, h89.2]
      refine vq_lmul d_M_sift_92 ?_
      rw [show (4 : Int64) = lN 4 from rfl, lN_mul]
      refine vq_ladd d_M_sift_93 ?_
      rw [lN_add, ← zam_gi]
      refine vq_lstore (lv' := [(5, _), (4, _), (3, _), (0, _), (1, _)]) d_M_sift_94 (by decide) rfl ?_
      refine vq_iconst (v := 0) d_M_sift_96 (by decide) ?_
      refine vq_istore (lv' := [(7, _), (5, _), (4, _), (3, _), (0, _), (1, _)]) d_M_sift_97 (by decide) rfl ?_
      exact loopC (zn F) 0 false (zsz F (zit F e c r)) _ rfl ⟨by omega, hI.2.1, hI.2.2.1, fun _ => rfl, fun _ => hI.2.2.2.1, fun _ => rfl, (fun h => nomatch h)⟩
  have loopA : ∀ (n9 : Nat) (i : Nat) (g1 : Sg), zn F - i = n9 → (i ≤ zn F ∧ g1.2 = g.2 ∧ (∀ q, q ≠ 80 → g1.1 q = g.1 q) ∧ (∀ p, p < i → g1.1 80 p = bI (zIn0 F e p))) → Vq l b id D m_M_sift false 85 kT (fun v' g' => v' = some (.int (nI (zsz F (zit F e c 20)))) ∧ g'.2 = g.2 ∧ (∀ q, q ≠ 80 → g'.1 q = g.1 q) ∧ (∀ p, p < zn F → g'.1 80 p = bI (zit F e c 20 p))) 85 kT (fun _ _ => False) 85 kT 0 0 5 [(4, .int (nI i)), (3, .int (nI (zsum (fun p => if zIn0 F e p = true then 1 else 0) i))), (0, .ref (b + 67)), (1, .long (lN c))] [] g1 := by
    intro n9
    induction n9 using Nat.strongRecOn with
    | ind n9 ih =>
    intro i g1 hm9 hI
    have hi0 := hI.1
    have hm1 : Hm g1 F := hm.congr (by rw [hI.2.2.1 67 (by decide)]) (fun q _ _ => hI.2.2.1 q (by omega))
    refine vq_iload d_M_sift_5 rfl ?_
    refine vq_aload_n d_M_sift_7 rfl ?_
    refine vq_getI (k := 1) (C := R_M) (T := T_M) d_M_sift_8 rfl in_M w_656 (by decide) rfl (by decide) rfl ?_
    refine vq_int (y := nI (zn F)) hm1.1 ?_
    refine vq_icmp_ge (tgt := 73) d_M_sift_11 (by decide) (fun h11 => ?_) (fun h11 => ?_)
    · have hi : i = zn F := by
        rw [nI_leI (by omega) (by omega)] at h11
        omega
      subst hi
      refine vq_iconst (v := 1) d_M_sift_73 (by decide) ?_
      refine vq_istore (lv' := [(4, _), (3, _), (0, _), (1, _)]) d_M_sift_74 (by decide) rfl ?_
      exact loopB 41 0 true _ rfl ⟨by decide, hI.2.1, hI.2.2.1, hI.2.2.2, fun h => by cases h⟩
    · have hi : i < zn F := by
        rw [nI_leI (by omega) (by omega)] at h11
        omega
      refine vq_aload_n d_M_sift_14 rfl ?_
      refine vq_getR (k := 19) (C := R_M) (T := T_M) d_M_sift_15 rfl in_M w_674 (by decide) rfl (by decide) rfl rfl ?_
      refine vq_iload d_M_sift_18 rfl ?_
      refine vq_aload_n d_M_sift_20 rfl ?_
      refine vq_iload d_M_sift_21 rfl ?_
      refine vq_aload_n d_M_sift_23 rfl ?_
      refine vq_getI (k := 9) (C := R_M) (T := T_M) d_M_sift_24 rfl in_M w_664 (by decide) rfl (by decide) rfl ?_
      refine vq_int (y := nI e) (by rw [hI.2.2.1 67 (by decide)]; exact ho) ?_
      refine vq_callV (n := 2) (C := R_M) (T := T_M) _ _ d_M_sift_27 (ct_M_isChild l b id D hW hm1 hi he) w_790 w_792 sel_M_isChild w_793 w_7 rfl ⟨by decide, by decide, by decide +kernel⟩ ⟨by decide, by decide⟩ (by decide) rfl rfl rfl rfl (Nat.le_of_ble_eq_true rfl) rfl rfl rfl ⟨by decide, by decide⟩ (fun _ _ h => h.elim) (fun v27 g27 h27 => ?_)
      rw [h27.1, h27.2]
      refine vq_if_eq (tgt := 47) d_M_sift_30 (by decide) (fun h30 => ?_) (fun h30 => ?_)
      · rw [bI_0] at h30
        have hv9 : zIn0 F e i = false := by unfold zIn0; rw [h30]; rfl
        refine vq_iconst (v := 0) d_M_sift_47 (by decide) ?_
        refine vq_zast d_M_sift_48 rfl (by decide) rfl rfl (show _ < 20 by omega) (by first | exact Or.inl rfl | exact Or.inr rfl | assumption) ?_
        refine vq_aload_n d_M_sift_49 rfl ?_
        refine vq_getR (k := 19) (C := R_M) (T := T_M) d_M_sift_50 rfl in_M w_674 (by decide) rfl (by decide) rfl rfl ?_
        refine vq_iload d_M_sift_53 rfl ?_
        refine vq_zald d_M_sift_55 (by decide) rfl rfl (show _ < 20 by omega) ?_
        refine vq_int (y := 0) (by rw [sI_s, upd, if_pos rfl]) ?_
        refine vq_if_eq (tgt := 65) d_M_sift_56 (by decide) (fun h56 => ?_) (fun h56 => absurd h56 (by decide))
        refine vq_iload_n d_M_sift_65 rfl ?_
        refine vq_istore_n (lv' := [(3, _), (4, _), (0, _), (1, _)]) d_M_sift_66 (by decide) rfl ?_
        refine vq_iinc (k := 1) (lv' := [(4, _), (3, _), (0, _), (1, _)]) d_M_sift_67 rfl (ip1 i) (by decide) rfl ?_
        refine vq_goto (tgt := 5) d_M_sift_70 (by decide) ?_
        have hz : (zsum (fun p => if zIn0 F e p = true then 1 else 0) (i + 1)) = (zsum (fun p => if zIn0 F e p = true then 1 else 0) i) + (if zIn0 F e i = true then 1 else 0) := rfl
        rw [hv9] at hz
        rw [show (zsum (fun p => if zIn0 F e p = true then 1 else 0) i) = (zsum (fun p => if zIn0 F e p = true then 1 else 0) (i + 1)) from hz.symm]
        refine ih (zn F - (i + 1)) (by omega) (i + 1) _ rfl ⟨by omega, (by exact hI.2.1), fun q hq => by rw [sI_n hq]; exact hI.2.2.1 q hq, fun p hp => ?_⟩
        rw [sI_s, upd]
        by_cases e1 : p = i
        · rw [if_pos e1, e1, hv9]; rfl
        · rw [if_neg e1]; exact hI.2.2.2 p (by omega)
      · rw [bI_n0] at h30
        refine vq_aload_n d_M_sift_33 rfl ?_
        refine vq_getR (k := 12) (C := R_M) (T := T_M) d_M_sift_34 rfl in_M w_667 (by decide) rfl (by decide) rfl rfl ?_
        refine vq_iload d_M_sift_37 rfl ?_
        refine vq_zald d_M_sift_39 (by decide) rfl rfl (show _ < 80 by omega) ?_
        refine vq_int (y := bI (zX F e i)) (by rw [hI.2.2.1 77 (by decide)]; exact hX i hi) ?_
        refine vq_if_eq (tgt := 47) d_M_sift_40 (by decide) (fun h40 => ?_) (fun h40 => ?_)
        · rw [bI_0] at h40
          have hv9 : zIn0 F e i = false := by unfold zIn0; rw [h40, Bool.and_false]
          refine vq_iconst (v := 0) d_M_sift_47 (by decide) ?_
          refine vq_zast d_M_sift_48 rfl (by decide) rfl rfl (show _ < 20 by omega) (by first | exact Or.inl rfl | exact Or.inr rfl | assumption) ?_
          refine vq_aload_n d_M_sift_49 rfl ?_
          refine vq_getR (k := 19) (C := R_M) (T := T_M) d_M_sift_50 rfl in_M w_674 (by decide) rfl (by decide) rfl rfl ?_
          refine vq_iload d_M_sift_53 rfl ?_
          refine vq_zald d_M_sift_55 (by decide) rfl rfl (show _ < 20 by omega) ?_
          refine vq_int (y := 0) (by rw [sI_s, upd, if_pos rfl]) ?_
          refine vq_if_eq (tgt := 65) d_M_sift_56 (by decide) (fun h56 => ?_) (fun h56 => absurd h56 (by decide))
          refine vq_iload_n d_M_sift_65 rfl ?_
          refine vq_istore_n (lv' := [(3, _), (4, _), (0, _), (1, _)]) d_M_sift_66 (by decide) rfl ?_
          refine vq_iinc (k := 1) (lv' := [(4, _), (3, _), (0, _), (1, _)]) d_M_sift_67 rfl (ip1 i) (by decide) rfl ?_
          refine vq_goto (tgt := 5) d_M_sift_70 (by decide) ?_
          have hz : (zsum (fun p => if zIn0 F e p = true then 1 else 0) (i + 1)) = (zsum (fun p => if zIn0 F e p = true then 1 else 0) i) + (if zIn0 F e i = true then 1 else 0) := rfl
          rw [hv9] at hz
          rw [show (zsum (fun p => if zIn0 F e p = true then 1 else 0) i) = (zsum (fun p => if zIn0 F e p = true then 1 else 0) (i + 1)) from hz.symm]
          refine ih (zn F - (i + 1)) (by omega) (i + 1) _ rfl ⟨by omega, (by exact hI.2.1), fun q hq => by rw [sI_n hq]; exact hI.2.2.1 q hq, fun p hp => ?_⟩
          rw [sI_s, upd]
          by_cases e1 : p = i
          · rw [if_pos e1, e1, hv9]; rfl
          · rw [if_neg e1]; exact hI.2.2.2 p (by omega)
        · rw [bI_n0] at h40
          have hv9 : zIn0 F e i = true := by unfold zIn0; rw [h30, h40]; rfl
          refine vq_iconst (v := 1) d_M_sift_43 (by decide) ?_
          refine vq_goto (tgt := 48) d_M_sift_44 (by decide) ?_
          refine vq_zast d_M_sift_48 rfl (by decide) rfl rfl (show _ < 20 by omega) (by first | exact Or.inl rfl | exact Or.inr rfl | assumption) ?_
          refine vq_aload_n d_M_sift_49 rfl ?_
          refine vq_getR (k := 19) (C := R_M) (T := T_M) d_M_sift_50 rfl in_M w_674 (by decide) rfl (by decide) rfl rfl ?_
          refine vq_iload d_M_sift_53 rfl ?_
          refine vq_zald d_M_sift_55 (by decide) rfl rfl (show _ < 20 by omega) ?_
          refine vq_int (y := 1) (by rw [sI_s, upd, if_pos rfl]) ?_
          refine vq_if_eq (tgt := 65) d_M_sift_56 (by decide) (fun h56 => absurd h56 (by decide)) (fun h56 => ?_)
          refine vq_iload_n d_M_sift_59 rfl ?_
          refine vq_iconst (v := 1) d_M_sift_60 (by decide) ?_
          refine vq_iadd d_M_sift_61 ?_
          rw [show nI (zsum (fun p => if zIn0 F e p = true then 1 else 0) i) + 1 = nI ((zsum (fun p => if zIn0 F e p = true then 1 else 0) i) + 1) from nI_1 _]
          refine vq_goto (tgt := 66) d_M_sift_62 (by decide) ?_
          refine vq_istore_n (lv' := [(3, _), (4, _), (0, _), (1, _)]) d_M_sift_66 (by decide) rfl ?_
          refine vq_iinc (k := 1) (lv' := [(4, _), (3, _), (0, _), (1, _)]) d_M_sift_67 rfl (ip1 i) (by decide) rfl ?_
          refine vq_goto (tgt := 5) d_M_sift_70 (by decide) ?_
          have hz : (zsum (fun p => if zIn0 F e p = true then 1 else 0) (i + 1)) = (zsum (fun p => if zIn0 F e p = true then 1 else 0) i) + (if zIn0 F e i = true then 1 else 0) := rfl
          rw [hv9] at hz
          rw [show (zsum (fun p => if zIn0 F e p = true then 1 else 0) i) + 1 = (zsum (fun p => if zIn0 F e p = true then 1 else 0) (i + 1)) from hz.symm]
          refine ih (zn F - (i + 1)) (by omega) (i + 1) _ rfl ⟨by omega, (by exact hI.2.1), fun q hq => by rw [sI_n hq]; exact hI.2.2.1 q hq, fun p hp => ?_⟩
          rw [sI_s, upd]
          by_cases e1 : p = i
          · rw [if_pos e1, e1, hv9]; rfl
          · rw [if_neg e1]; exact hI.2.2.2 p (by omega)
  refine vq_iconst (v := 0) d_M_sift_0 (by decide) ?_
  refine vq_istore_n (lv' := [(3, _), (0, _), (1, _)]) d_M_sift_1 (by decide) rfl ?_
  refine vq_iconst (v := 0) d_M_sift_2 (by decide) ?_
  refine vq_istore (lv' := [(4, _), (3, _), (0, _), (1, _)]) d_M_sift_3 (by decide) rfl ?_
  exact loopA (zn F) 0 _ rfl ⟨by omega, rfl, fun q _ => rfl, fun p hp => by omega⟩
