/-! what is due, by the reference. Laid by wip/whole/specs/p49.py -/
theorem FrG.trans {g g1 g2 : Sg} (h : FrG g g1) (h2 : FrG g1 g2) : FrG g g2 := ⟨fun q a1 a2 a3 a4 a5 => (h2.1 q a1 a2 a3 a4 a5).trans (h.1 q a1 a2 a3 a4 a5), fun k hk => (h2.2.1 k hk).trans (h.2.1 k hk), fun q a1 a2 a3 => (h2.2.2 q a1 a2 a3).trans (h.2.2 q a1 a2 a3)⟩
theorem FrG.w {g g1 : Sg} (h : FrG g g1) (f : Nat → Int64) : FrG g (sJ g1 67 f) := ⟨h.1, h.2.1, fun q a c d => by rw [sJ_n a]; exact h.2.2 q a c d⟩
theorem LM.w {g : Sg} {F : Fam} {e : Nat} (h : LM g F e) (x : Int64) : LM (sJ g 67 (vp_updL (g.2 67) 16 x)) F e := h.go rfl (by rw [sJ_s, vp_updL, if_neg (by decide)])
set_option maxRecDepth 100000 in
set_option maxHeartbeats 4000000 in
theorem ct_M_due (l : Launch) (b : Nat) (id : Nat → ClassId) (D : va_G) {g : Sg} {F : Fam} (hW : zW F) (hm : Hm g F) {e u : Nat} (he : e < zn F) (hu : zd F e = some u) {a : Nat} (ha : a < 2 ^ 26) : qCT l b id D m_M_due false [.ref (b + 67), .int (nI e), .long (lN a)] 85 kT g 85 kT (fun v' g' => v' = none ∧ LM g' F e ∧ g'.2 67 16 = lN (zdn F e a) ∧ (∀ p, p < zn F → g'.2 79 p = lN (zS F e a p)) ∧ FrG g g') (fun _ _ => False) := by
  have hn := hW.1
  refine qCT_of rfl (by decide) (Nat.le_of_ble_eq_true rfl) ?_
  show Vq l b id D m_M_due false 85 kT _ 85 kT _ 85 kT 0 0 0 [(0, .ref (b + 67)), (1, .int (nI e)), (2, .long (lN a))] [] g
  refine vq_aload_n d_M_due_0 rfl ?_
  refine vq_iload_n d_M_due_1 rfl ?_
  refine vq_callV (n := 1) (C := R_M) (T := T_M) _ _ d_M_due_2 (ct_M_look l b id D hW hm he hu) w_786 w_788 sel_M_look w_789 w_7 rfl ⟨by decide, by decide, by decide +kernel⟩ ⟨by decide, by decide⟩ (by decide) rfl rfl rfl rfl (Nat.le_of_ble_eq_true rfl) rfl rfl rfl ⟨by decide, by decide⟩ (fun _ _ h => h.elim) (fun v2 g2 h2 => ?_)
  obtain ⟨e12, a1, a2⟩ := h2
  rw [e12]
  have hm2 := a2.hm hm
  refine vq_aload_n d_M_due_5 rfl ?_
  refine vq_getI (k := 17) (C := R_M) (T := T_M) d_M_due_6 rfl in_M w_672 (by decide) rfl (by decide) rfl ?_
  refine vq_int (y := nI (zt F e)) a1.2.2.1 ?_
  refine vq_if_eq (tgt := 52) d_M_due_9 (by decide) (fun h9 => ?_) (fun h9 => ?_)
  · rw [show (0 : Int32) = nI 0 from rfl, nI_eq (by have := zt_le F e; omega) (by decide)] at h9
    have loopP : ∀ (n9 : Nat) (i : Nat) (g3 : Sg), zn F - i = n9 → (i ≤ zn F ∧ (LM g3 F e ∧ FrG g g3 ∧ (∀ p, p < zn F → g3.1 80 p = bI (zgI F e a p)) ∧ g3.2 67 16 = lN (zdn F e a) ∧ (∀ p, p < 20 → g3.2 79 p = lN (zTg F e a p))) ∧ (∀ p, p < zn F → g3.2 78 p = lN (if p < i then zPg F e a p else 0))) → Vq l b id D m_M_due false 85 kT (fun v' g' => v' = none ∧ LM g' F e ∧ g'.2 67 16 = lN (zdn F e a) ∧ (∀ p, p < zn F → g'.2 79 p = lN (zS F e a p)) ∧ FrG g g') 85 kT (fun _ _ => False) 85 kT 0 0 146 [(9, .int (nI i)), (7, .long (lN (zam F e (zgc F e a) (zgI F e a)))), (6, .int (nI (zgz F e a))), (4, .long (lN (zgc F e a))), (0, .ref (b + 67)), (1, .int (nI e)), (2, .long (lN a))] [] g3 := by
      intro n9
      induction n9 using Nat.strongRecOn with
      | ind n9 ih =>
      intro i g3 hm9 hI
      have hi0 := hI.1
      refine vq_iload d_M_due_146 rfl ?_
      refine vq_aload_n d_M_due_148 rfl ?_
      refine vq_getI (k := 1) (C := R_M) (T := T_M) d_M_due_149 rfl in_M w_656 (by decide) rfl (by decide) rfl ?_
      refine vq_int (y := nI (zn F)) (hI.2.1.2.1.hm hm).1 ?_
      refine vq_icmp_ge (tgt := 211) d_M_due_152 (by decide) (fun h152 => ?_) (fun h152 => ?_)
      · have hi : i = zn F := by
          rw [nI_leI (by omega) (by omega)] at h152
          omega
        subst hi
        refine vq_aload_n d_M_due_211 rfl ?_
        have hall : ∀ p, p < zn F → g3.2 78 p = lN (zPg F e a p) := fun p hp => by rw [hI.2.2 p hp, if_pos hp]
        replace hI := And.intro hI.1 (And.intro hI.2.1 hall)
        refine vq_callV (n := 0) (C := R_M) (T := T_M) _ _ d_M_due_212 (ct_M_descend l b id D hW (e := e) (hI.2.1.2.1.hm hm) hI.2.1.1.row (P := zPg F e a) (T := zTg F e a) (zPg_sum hW ha) hI.2.2 (fun p hp => hI.2.1.2.2.2.2 p (by omega))) w_809 w_811 sel_M_descend w_812 w_7 rfl ⟨by decide, by decide, by decide +kernel⟩ ⟨by decide, by decide⟩ (by decide) rfl rfl rfl rfl (Nat.le_of_ble_eq_true rfl) rfl rfl rfl ⟨by decide, by decide⟩ (fun _ _ h => h.elim) (fun v212 g212 h212 => ?_)
        obtain ⟨e1212, f1, f2, f3⟩ := h212
        rw [e1212]
        refine vq_vret d_M_due_215 rfl (by decide) (by decide) rfl rfl ?_
        have hS9 : zS F e a = zgs F e a := by unfold zS; rw [if_pos h9]
        exact ⟨rfl, hI.2.1.1.go f1 (by rw [f2 67 (by decide) (by decide)]), by rw [f2 67 (by decide) (by decide)]; exact hI.2.1.2.2.2.1, fun p hp => by rw [hS9]; exact f3 p hp, hI.2.1.2.1.go (fun q _ => by rw [f1]) (fun q _ h2 h3 => f2 q h2 h3)⟩
      · have hi : i < zn F := by
          rw [nI_leI (by omega) (by omega)] at h152
          omega
        refine vq_aload_n d_M_due_155 rfl ?_
        refine vq_getR (k := 13) (C := R_M) (T := T_M) d_M_due_156 rfl in_M w_668 (by decide) rfl (by decide) rfl rfl ?_
        refine vq_iload d_M_due_159 rfl ?_
        refine vq_aload_n d_M_due_161 rfl ?_
        refine vq_getR (k := 19) (C := R_M) (T := T_M) d_M_due_162 rfl in_M w_674 (by decide) rfl (by decide) rfl rfl ?_
        refine vq_iload d_M_due_165 rfl ?_
        refine vq_zald d_M_due_167 (by decide) rfl rfl (show _ < 20 by omega) ?_
        refine vq_int (y := bI (zgI F e a i)) (hI.2.1.2.2.1 i hi) ?_
        refine vq_if_eq (tgt := 203) d_M_due_168 (by decide) (fun h168 => ?_) (fun h168 => ?_)
        · rw [bI_0] at h168
          refine vq_lconst (v := 0) d_M_due_203 rfl ?_
          refine vq_last d_M_due_204 rfl (by decide) rfl rfl (show _ < 80 by omega) ?_
          refine vq_iinc (k := 0) (lv' := [(9, _), (7, _), (6, _), (4, _), (0, _), (1, _), (2, _)]) d_M_due_205 rfl (ip1 i) (by decide) rfl ?_
          refine vq_goto (tgt := 146) d_M_due_208 (by decide) ?_
          refine ih (zn F - (i + 1)) (by omega) (i + 1) _ rfl ⟨by omega, ⟨hI.2.1.1.go rfl (by rw [sJ_n (by decide)]), hI.2.1.2.1.go (fun q _ => rfl) (fun q _ h2 _ => by rw [sJ_n h2]), hI.2.1.2.2.1, by rw [sJ_n (by decide)]; exact hI.2.1.2.2.2.1, fun p hp => by rw [sJ_n (by decide)]; exact hI.2.1.2.2.2.2 p hp⟩, fun p hp => ?_⟩
          rw [sJ_s, vp_updL]
          by_cases e1 : p = i
          · rw [if_pos e1, e1, if_pos (by omega)]
            unfold zPg
            rw [if_neg (by rw [h168]; decide)]; rfl
          · rw [if_neg e1, hI.2.2 p hp]
            have h8 : (p < i) ↔ (p < i + 1) := by omega
            simp only [h8]
        · rw [bI_n0] at h168
          refine vq_lload d_M_due_171 rfl ?_
          refine vq_ldc2 d_M_due_173 w_803 ?_
          refine vq_iload d_M_due_176 rfl ?_
          refine vq_i2l d_M_due_178 (nI_l (by have := zsz_le (F := F) (zgI F e a); unfold zgz; omega)) ?_
          refine vq_lmul d_M_due_179 ?_
          rw [show (4 : Int64) = lN 4 from rfl, lN_mul]
          refine vq_aload_n d_M_due_180 rfl ?_
          refine vq_getR (k := 7) (C := R_M) (T := T_M) d_M_due_181 rfl in_M w_662 (by decide) rfl (by decide) rfl rfl ?_
          refine vq_bipush (v := 20) d_M_due_184 (by decide) ?_
          refine vq_iload d_M_due_186 rfl ?_
          refine vq_imul d_M_due_188 ?_
          refine vq_iload_n d_M_due_189 rfl ?_
          refine vq_iadd d_M_due_190 ?_
          rw [ix20m]
          refine vq_iald d_M_due_191 (by decide) rfl rfl (show _ < 400 by omega) ?_
          refine vq_int (y := nI (zg F i e)) ((hI.2.1.2.1.hm hm).2.2.2.2.2.2.1 i e (by omega) (by omega)) ?_
          refine vq_i2l d_M_due_192 (nI_l (by have := hW.2.2.2.2.2.2.2 i e; omega)) ?_
          refine vq_lmul d_M_due_193 ?_
          rw [lN_mul, m4]
          refine vq_lsub d_M_due_194 ?_
          rw [lN_sub (show zgz F e a * (4 * zg F i e) ≤ zam F e (zgc F e a) (zgI F e a) from zab1_none (zit_end hn) hi h168)]
          refine vq_aload_n d_M_due_195 rfl ?_
          refine vq_getJ (k := 15) (C := R_M) (T := T_M) d_M_due_196 rfl in_M w_670 (by decide) rfl (by decide) rfl ?_
          refine vq_long (y := lN (zpr F e)) hI.2.1.1.2.1 ?_
          refine vq_lmul d_M_due_199 ?_
          rw [lN_mul]
          refine vq_goto (tgt := 204) d_M_due_200 (by decide) ?_
          refine vq_last d_M_due_204 rfl (by decide) rfl rfl (show _ < 80 by omega) ?_
          refine vq_iinc (k := 0) (lv' := [(9, _), (7, _), (6, _), (4, _), (0, _), (1, _), (2, _)]) d_M_due_205 rfl (ip1 i) (by decide) rfl ?_
          refine vq_goto (tgt := 146) d_M_due_208 (by decide) ?_
          refine ih (zn F - (i + 1)) (by omega) (i + 1) _ rfl ⟨by omega, ⟨hI.2.1.1.go rfl (by rw [sJ_n (by decide)]), hI.2.1.2.1.go (fun q _ => rfl) (fun q _ h2 _ => by rw [sJ_n h2]), hI.2.1.2.2.1, by rw [sJ_n (by decide)]; exact hI.2.1.2.2.2.1, fun p hp => by rw [sJ_n (by decide)]; exact hI.2.1.2.2.2.2 p hp⟩, fun p hp => ?_⟩
          rw [sJ_s, vp_updL]
          by_cases e1 : p = i
          · rw [if_pos e1, e1, if_pos (by omega)]
            unfold zPg
            rw [if_pos h168]
          · rw [if_neg e1, hI.2.2 p hp]
            have h8 : (p < i) ↔ (p < i + 1) := by omega
            simp only [h8]
    have s143 : ∀ (g3 : Sg), (LM g3 F e ∧ FrG g g3 ∧ (∀ p, p < zn F → g3.1 80 p = bI (zgI F e a p)) ∧ g3.2 67 16 = lN (zdn F e a) ∧ (∀ k, k < 80 → g3.2 78 k = 0) ∧ (∀ p, p < 20 → g3.2 79 p = lN (zTg F e a p))) → Vq l b id D m_M_due false 85 kT (fun v' g' => v' = none ∧ LM g' F e ∧ g'.2 67 16 = lN (zdn F e a) ∧ (∀ p, p < zn F → g'.2 79 p = lN (zS F e a p)) ∧ FrG g g') 85 kT (fun _ _ => False) 85 kT 0 0 143 [(7, .long (lN (zam F e (zgc F e a) (zgI F e a)))), (6, .int (nI (zgz F e a))), (4, .long (lN (zgc F e a))), (0, .ref (b + 67)), (1, .int (nI e)), (2, .long (lN a))] [] g3 := by
      intro g3 hD
      refine vq_iconst (v := 0) d_M_due_143 (by decide) ?_
      refine vq_istore (lv' := [(9, _), (7, _), (6, _), (4, _), (0, _), (1, _), (2, _)]) d_M_due_144 (by decide) rfl ?_
      refine loopP (zn F) 0 _ rfl ⟨by omega, ⟨hD.1, hD.2.1, hD.2.2.1, hD.2.2.2.1, hD.2.2.2.2.2⟩, fun p hp => ?_⟩
      rw [hD.2.2.2.2.1 p (by omega), if_neg (by omega)]
      rfl
    have s72 : ∀ (x : Nat), x = zgc F e a → Vq l b id D m_M_due false 85 kT (fun v' g' => v' = none ∧ LM g' F e ∧ g'.2 67 16 = lN (zdn F e a) ∧ (∀ p, p < zn F → g'.2 79 p = lN (zS F e a p)) ∧ FrG g g') 85 kT (fun _ _ => False) 85 kT 0 0 72 [(0, .ref (b + 67)), (1, .int (nI e)), (2, .long (lN a))] [.long (lN x)] g2 := by
      intro x hx
      subst hx
      refine vq_lstore (lv' := [(4, _), (0, _), (1, _), (2, _)]) d_M_due_72 (by decide) rfl ?_
      refine vq_aload_n d_M_due_74 rfl ?_
      refine vq_lload d_M_due_75 rfl ?_
      refine vq_callV (n := 1) (C := R_M) (T := T_M) _ _ d_M_due_77 (ct_M_sift l b id D hW hm2 he a1.1 a1.row.2.2 (c := zgc F e a) (zgc_lt ha)) w_846 w_848 sel_M_sift w_849 w_7 rfl ⟨by decide, by decide, by decide +kernel⟩ ⟨by decide, by decide⟩ (by decide) rfl rfl rfl rfl (Nat.le_of_ble_eq_true rfl) rfl rfl rfl ⟨by decide, by decide⟩ (fun _ _ h => h.elim) (fun v77 g77 h77 => ?_)
      obtain ⟨e177, c1, c2, c3⟩ := h77
      rw [e177, show zsz F (zit F e (zgc F e a) 20) = zgz F e a from rfl]
      have hm77 : Hm g77 F := hm2.congr (by rw [c2 67 (by decide)]) (fun q _ _ => c2 q (by omega))
      have hL77 : LM g77 F e := a1.g8 c2 (by rw [c1])
      have hF77 : FrG g g77 := a2.e.g.go c2 (fun q _ _ _ => by rw [c1])
      refine vq_istore (lv' := [(6, _), (4, _), (0, _), (1, _), (2, _)]) d_M_due_80 (by decide) rfl ?_
      refine vq_lload d_M_due_82 rfl ?_
      refine vq_ldc2 d_M_due_84 w_803 ?_
      refine vq_aload_n d_M_due_87 rfl ?_
      refine vq_callV (n := 0) (C := R_M) (T := T_M) _ _ d_M_due_88 (ct_M_giftsIn l b id D hW hm77 he hL77.1 (In := zgI F e a) c3) w_850 w_852 sel_M_giftsIn w_853 w_7 rfl ⟨by decide, by decide, by decide +kernel⟩ ⟨by decide, by decide⟩ (by decide) rfl rfl rfl rfl (Nat.le_of_ble_eq_true rfl) rfl rfl rfl ⟨by decide, by decide⟩ (fun _ _ h => h.elim) (fun v88 g88 h88 => ?_)
      rw [h88.1, h88.2]
      refine vq_lmul d_M_due_91 ?_
      rw [show (4 : Int64) = lN 4 from rfl, lN_mul]
      refine vq_ladd d_M_due_92 ?_
      rw [lN_add, ← zam_gi]
      refine vq_lstore (lv' := [(7, _), (6, _), (4, _), (0, _), (1, _), (2, _)]) d_M_due_93 (by decide) rfl ?_
      refine vq_aload_n d_M_due_95 rfl ?_
      refine vq_callV (n := 0) (C := R_M) (T := T_M) _ _ d_M_due_96 (ct_M_clear l b id D) w_798 w_800 sel_M_clear w_801 w_7 rfl ⟨by decide, by decide, by decide +kernel⟩ ⟨by decide, by decide⟩ (by decide) rfl rfl rfl rfl (Nat.le_of_ble_eq_true rfl) rfl rfl rfl ⟨by decide, by decide⟩ (fun _ _ h => h.elim) (fun v96 g96 h96 => ?_)
      obtain ⟨e196, d1, d2, d3, d4⟩ := h96
      rw [e196]
      have hL96 : LM g96 F e := hL77.go d1 (by rw [d2 67 (by decide) (by decide)])
      have hF96 : FrG g g96 := hF77.go (fun q _ => by rw [d1]) (fun q _ h2 h3 => d2 q h2 h3)
      refine vq_aload_n d_M_due_99 rfl ?_
      refine vq_ldc2 d_M_due_100 w_803 ?_
      refine vq_iload d_M_due_103 rfl ?_
      refine vq_i2l d_M_due_105 (nI_l (by have := zsz_le (F := F) (zgI F e a); unfold zgz; omega)) ?_
      refine vq_lmul d_M_due_106 ?_
      rw [show (4 : Int64) = lN 4 from rfl, lN_mul]
      refine vq_aload_n d_M_due_107 rfl ?_
      refine vq_getJ (k := 15) (C := R_M) (T := T_M) d_M_due_108 rfl in_M w_670 (by decide) rfl (by decide) rfl ?_
      refine vq_long (y := lN (zpr F e)) hL96.2.1 ?_
      refine vq_lmul d_M_due_111 ?_
      rw [lN_mul, show 4 * zgz F e a * zpr F e = zdn F e a by unfold zdn; rw [if_pos h9, Nat.mul_assoc, Nat.mul_comm (zgz F e a)]]
      refine vq_putJ (k := 16) (C := R_M) (T := T_M) t_M d_M_due_112 rfl in_M w_671 ty_M nm_M (by decide) rfl (by decide) rfl (by decide +kernel) rfl ?_
      refine vq_aload_n d_M_due_115 rfl ?_
      refine vq_getI (k := 18) (C := R_M) (T := T_M) d_M_due_116 rfl in_M w_673 (by decide) rfl (by decide) rfl ?_
      refine vq_int (y := bI (zw F e).isSome) hL96.2.2.2.1 ?_
      refine vq_if_eq (tgt := 143) d_M_due_119 (by decide) (fun h119 => ?_) (fun h119 => ?_)
      · rw [bI_0] at h119
        obtain ⟨hq0, hw0⟩ := zq_w h119
        refine s143 _ ⟨hL96.w _, hF96.w _, fun p hp => by show g96.1 80 p = _; rw [d1]; exact c3 p hp, by rw [sJ_s]; exact vps _ _ _, fun k hk => by rw [sJ_n (by decide)]; exact d3 k hk, fun p hp => ?_⟩
        rw [sJ_n (by decide), d4 p hp]
        unfold zTg
        rw [hw0]
        rfl
      · rw [bI_n0] at h119
        obtain ⟨j, hj⟩ := Option.isSome_iff_exists.mp h119
        have hq1 := (zq_s hj).1
        rw [if_pos h9] at hq1
        have hjn := (zw_lt hW he hj).1
        refine vq_aload_n d_M_due_122 rfl ?_
        refine vq_getR (k := 14) (C := R_M) (T := T_M) d_M_due_123 rfl in_M w_669 (by decide) rfl (by decide) rfl rfl ?_
        refine vq_aload_n d_M_due_126 rfl ?_
        refine vq_getR (k := 4) (C := R_M) (T := T_M) d_M_due_127 rfl in_M w_659 (by decide) rfl (by decide) rfl rfl ?_
        refine vq_iload_n d_M_due_130 rfl ?_
        refine vq_iald d_M_due_131 (by decide) rfl rfl (show _ < 20 by omega) ?_
        refine vq_int (y := nI j) (by rw [← show eO (zs F e) = nI j by rw [zw_s hj]; rfl]; exact (hF96.hm hm).2.2.2.1 e he) ?_
        refine vq_lload_n d_M_due_132 rfl ?_
        refine vq_iload d_M_due_133 rfl ?_
        refine vq_i2l d_M_due_135 (nI_l (by have := zsz_le (F := F) (zgI F e a); unfold zgz; omega)) ?_
        refine vq_lmul d_M_due_136 ?_
        rw [lN_mul]
        refine vq_aload_n d_M_due_137 rfl ?_
        refine vq_getJ (k := 15) (C := R_M) (T := T_M) d_M_due_138 rfl in_M w_670 (by decide) rfl (by decide) rfl ?_
        refine vq_long (y := lN (zpr F e)) (hL96.w _).2.1 ?_
        refine vq_lmul d_M_due_141 ?_
        rw [lN_mul]
        refine vq_last d_M_due_142 rfl (by decide) rfl rfl (show _ < 20 by omega) ?_
        refine s143 _ ⟨(hL96.w _).go rfl (by rw [sJ_n (by decide)]), (hF96.w _).go (fun q _ => rfl) (fun q _ _ h3 => by rw [sJ_n h3]), fun p hp => by show g96.1 80 p = _; rw [d1]; exact c3 p hp, by rw [sJ_n (by decide), sJ_s]; exact vps _ _ _, fun k hk => by rw [sJ_n (by decide), sJ_n (by decide)]; exact d3 k hk, fun p hp => ?_⟩
        rw [sJ_s, vp_updL, sJ_n (by decide), d4 p hp]
        unfold zTg
        rw [hj, hq1]
        by_cases ep : p = j
        · rw [if_pos ep, ep, if_pos rfl, Nat.mul_one, Nat.mul_assoc, Nat.mul_comm (zgz F e a)]
        · rw [if_neg ep, if_neg (fun h => ep (Option.some.inj h).symm)]; rfl
    refine vq_aload_n d_M_due_52 rfl ?_
    refine vq_getI (k := 18) (C := R_M) (T := T_M) d_M_due_53 rfl in_M w_673 (by decide) rfl (by decide) rfl ?_
    refine vq_int (y := bI (zw F e).isSome) a1.2.2.2.1 ?_
    refine vq_if_eq (tgt := 67) d_M_due_56 (by decide) (fun h56 => ?_) (fun h56 => ?_)
    · rw [bI_0] at h56
      have hq0 := (zq_w h56).1
      refine vq_ldc2 d_M_due_67 w_803 ?_
      refine vq_lload_n d_M_due_70 rfl ?_
      refine vq_lmul d_M_due_71 ?_
      rw [show (4 : Int64) = lN 4 from rfl, lN_mul]
      first
        | (refine s72 _ ?_; unfold zgc; rw [hq1]; omega)
        | (refine s72 _ ?_; unfold zgc; rw [hq0]; omega)
    · rw [bI_n0] at h56
      obtain ⟨j, hj⟩ := Option.isSome_iff_exists.mp h56
      have hq1 := (zq_s hj).1
      rw [if_pos h9] at hq1
      refine vq_ldc2 d_M_due_59 w_845 ?_
      refine vq_lload_n d_M_due_62 rfl ?_
      refine vq_lmul d_M_due_63 ?_
      rw [show (3 : Int64) = lN 3 from rfl, lN_mul]
      refine vq_goto (tgt := 72) d_M_due_64 (by decide) ?_
      first
        | (refine s72 _ ?_; unfold zgc; rw [hq1]; omega)
        | (refine s72 _ ?_; unfold zgc; rw [hq0]; omega)
  · rw [show (0 : Int32) = nI 0 from rfl, nI_eq (by have := zt_le F e; omega) (by decide)] at h9
    refine vq_aload_n d_M_due_12 rfl ?_
    refine vq_iload_n d_M_due_13 rfl ?_
    refine vq_callV (n := 1) (C := R_M) (T := T_M) _ _ d_M_due_14 (ct_M_divide l b id D hW hm2 he hu) w_782 w_784 sel_M_divide w_785 w_7 rfl ⟨by decide, by decide, by decide +kernel⟩ ⟨by decide, by decide⟩ (by decide) rfl rfl rfl rfl (Nat.le_of_ble_eq_true rfl) rfl rfl rfl ⟨by decide, by decide⟩ (fun _ _ h => h.elim) (fun v14 g14 h14 => ?_)
    obtain ⟨e114, b1, b2, b3, b4⟩ := h14
    rw [e114]
    have hF14 : FrG g g14 := a2.e.g.trans b4.g
    have loopT : ∀ (n9 : Nat) (i : Nat) (g1 : Sg), zn F - i = n9 → (i ≤ zn F ∧ g1.1 = g14.1 ∧ (∀ q, q ≠ 79 → g1.2 q = g14.2 q) ∧ (∀ p, p < i → g1.2 79 p = lN (zsh F e a p)) ∧ (∀ p, i ≤ p → p < zn F → g1.2 79 p = lN (zsh F e 1 p))) → Vq l b id D m_M_due false 85 kT (fun v' g' => v' = none ∧ LM g' F e ∧ g'.2 67 16 = lN (zdn F e a) ∧ (∀ p, p < zn F → g'.2 79 p = lN (zS F e a p)) ∧ FrG g g') 85 kT (fun _ _ => False) 85 kT 0 0 20 [(4, .int (nI i)), (0, .ref (b + 67)), (1, .int (nI e)), (2, .long (lN a))] [] g1 := by
      intro n9
      induction n9 using Nat.strongRecOn with
      | ind n9 ih =>
      intro i g1 hm9 hI
      have hi0 := hI.1
      refine vq_iload d_M_due_20 rfl ?_
      refine vq_aload_n d_M_due_22 rfl ?_
      refine vq_getI (k := 1) (C := R_M) (T := T_M) d_M_due_23 rfl in_M w_656 (by decide) rfl (by decide) rfl ?_
      refine vq_int (y := nI (zn F)) (by rw [hI.2.1]; exact (b4.hm hm2).1) ?_
      refine vq_icmp_ge (tgt := 51) d_M_due_26 (by decide) (fun h26 => ?_) (fun h26 => ?_)
      · have hi : i = zn F := by
          rw [nI_leI (by omega) (by omega)] at h26
          omega
        subst hi
        refine vq_vret d_M_due_51 rfl (by decide) (by decide) rfl rfl ?_
        have hdn : zdn F e a = 4 * (8 * zpr F e) := by unfold zdn; rw [if_neg h9]
        have hS9 : zS F e a = zsh F e a := by unfold zS; rw [if_neg h9]
        exact ⟨rfl, b1.go hI.2.1 (by rw [hI.2.2.1 67 (by decide)]), by rw [hI.2.2.1 67 (by decide), hdn]; exact b2, fun p hp => by rw [hS9]; exact hI.2.2.2.1 p hp, hF14.go (fun q _ => by rw [hI.2.1]) (fun q _ _ h3 => hI.2.2.1 q h3)⟩
      · have hi : i < zn F := by
          rw [nI_leI (by omega) (by omega)] at h26
          omega
        refine vq_aload_n d_M_due_29 rfl ?_
        refine vq_getR (k := 14) (C := R_M) (T := T_M) d_M_due_30 rfl in_M w_669 (by decide) rfl (by decide) rfl rfl ?_
        refine vq_iload d_M_due_33 rfl ?_
        refine vq_aload_n d_M_due_35 rfl ?_
        refine vq_getR (k := 14) (C := R_M) (T := T_M) d_M_due_36 rfl in_M w_669 (by decide) rfl (by decide) rfl rfl ?_
        refine vq_iload d_M_due_39 rfl ?_
        refine vq_lald d_M_due_41 (by decide) rfl rfl (show _ < 20 by omega) ?_
        refine vq_long (y := lN (zsh F e 1 i)) (hI.2.2.2.2 i (Nat.le_refl i) hi) ?_
        refine vq_lload_n d_M_due_42 rfl ?_
        refine vq_lmul d_M_due_43 ?_
        rw [lN_mul, show zsh F e 1 i * a = zsh F e a i by rw [zsh_lin hW he a hi, Nat.mul_comm]]
        refine vq_last d_M_due_44 rfl (by decide) rfl rfl (show _ < 20 by omega) ?_
        refine vq_iinc (k := 0) (lv' := [(4, _), (0, _), (1, _), (2, _)]) d_M_due_45 rfl (ip1 i) (by decide) rfl ?_
        refine vq_goto (tgt := 20) d_M_due_48 (by decide) ?_
        refine ih (zn F - (i + 1)) (by omega) (i + 1) _ rfl ⟨by omega, (by exact hI.2.1), fun q hq => by rw [sJ_n hq]; exact hI.2.2.1 q hq, fun p hp => ?_, fun p h1 h2 => ?_⟩
        · rw [sJ_s, vp_updL]
          by_cases e1 : p = i
          · rw [if_pos e1, e1]
          · rw [if_neg e1]; exact hI.2.2.2.1 p (by omega)
        · rw [sJ_s, vp_updL, if_neg (by omega)]; exact hI.2.2.2.2 p (by omega) h2
    refine vq_iconst (v := 0) d_M_due_17 (by decide) ?_
    refine vq_istore (lv' := [(4, _), (0, _), (1, _), (2, _)]) d_M_due_18 (by decide) rfl ?_
    exact loopT (zn F) 0 _ rfl ⟨by omega, rfl, fun q _ => rfl, fun p hp => by omega, fun p _ hp => b3 p hp⟩
