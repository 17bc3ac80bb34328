/-! the reference divides: clear, climb, descend. Laid by wip/whole/specs/p44.py -/
theorem up20 (f : Nat → Int64) {r a : Nat} (ha : a < 20) (x : Nat) : (∀ j, j < 20 → vp_updL f (20 * r + a) (f (20 * r + a) + lN x) (20 * r + j) = f (20 * r + j) + lN (if a = j then x else 0)) ∧ (∀ r' j, r' ≠ r → j < 20 → vp_updL f (20 * r + a) (f (20 * r + a) + lN x) (20 * r' + j) = f (20 * r' + j)) := by
  refine ⟨fun j hj => ?_, fun r' j hr hj => ?_⟩
  · rw [up_at]
    by_cases e : a = j
    · rw [if_pos (by omega), if_pos e]
    · rw [if_neg (by omega), if_neg e]
  · rw [vp_updL, if_neg (by omega)]
theorem zca {o : Option Nat} {a : Nat} {Y : Nat → Bool} (h : o = some a) (hy : Y a = true) (x j : Nat) : (if o = some j ∧ Y j = true then x else 0) = (if a = j then x else 0) := by
  subst h
  by_cases e : a = j
  · subst e; rw [if_pos ⟨rfl, hy⟩, if_pos rfl]
  · rw [if_neg (fun h => e (Option.some.inj h.1)), if_neg e]
theorem zcb {o : Option Nat} {Y : Nat → Bool} (h : zoB o Y = false) (x j : Nat) : (if o = some j ∧ Y j = true then x else 0) = 0 := by
  rw [if_neg]
  rintro ⟨rfl, h2⟩
  rw [show zoB (some j) Y = Y j from rfl, h2] at h
  cases h
set_option maxRecDepth 100000 in
set_option maxHeartbeats 4000000 in
theorem ct_M_clear (l : Launch) (b : Nat) (id : Nat → ClassId) (D : va_G) {g : Sg} : qCT l b id D m_M_clear false [.ref (b + 67)] 85 kT g 85 kT (fun v' g' => v' = none ∧ g'.1 = g.1 ∧ (∀ q, q ≠ 78 → q ≠ 79 → g'.2 q = g.2 q) ∧ (∀ k, k < 80 → g'.2 78 k = 0) ∧ (∀ p, p < 20 → g'.2 79 p = 0)) (fun _ _ => False) := by
  refine qCT_of rfl (by decide) (Nat.le_of_ble_eq_true rfl) ?_
  show Vq l b id D m_M_clear false 85 kT _ 85 kT _ 85 kT 0 0 0 [(0, .ref (b + 67))] [] g
  have loopB : ∀ (n9 : Nat) (i : Nat) (g1 : Sg), 20 - i = n9 → (i ≤ 20 ∧ g1.1 = g.1 ∧ (∀ q, q ≠ 78 → q ≠ 79 → g1.2 q = g.2 q) ∧ (∀ k, k < 80 → g1.2 78 k = 0) ∧ (∀ p, p < i → g1.2 79 p = 0)) → Vq l b id D m_M_clear false 85 kT (fun v' g' => v' = none ∧ g'.1 = g.1 ∧ (∀ q, q ≠ 78 → q ≠ 79 → g'.2 q = g.2 q) ∧ (∀ k, k < 80 → g'.2 78 k = 0) ∧ (∀ p, p < 20 → g'.2 79 p = 0)) 85 kT (fun _ _ => False) 85 kT 0 0 23 [(1, .int (nI i)), (0, .ref (b + 67))] [] g1 := by
    intro n9
    induction n9 using Nat.strongRecOn with
    | ind n9 ih =>
    intro i g1 hm9 hI
    have hle := hI.1
    refine vq_iload_n d_M_clear_23 rfl ?_
    refine vq_bipush (v := 20) d_M_clear_24 (by decide) ?_
    refine vq_icmp_ge (tgt := 42) d_M_clear_26 (by decide) (fun h26 => ?_) (fun h26 => ?_)
    · have hi : i = 20 := by
        rw [show (20 : Int32) = nI 20 from rfl, nI_leI (by decide) (by omega)] at h26
        omega
      subst hi
      refine vq_vret d_M_clear_42 rfl (by decide) (by decide) rfl rfl ?_
      exact ⟨rfl, hI.2.1, hI.2.2.1, hI.2.2.2.1, hI.2.2.2.2⟩
    · have hi : i < 20 := by
        rw [show (20 : Int32) = nI 20 from rfl, nI_leI (by decide) (by omega)] at h26
        omega
      refine vq_aload_n d_M_clear_29 rfl ?_
      refine vq_getR (k := 14) (C := R_M) (T := T_M) d_M_clear_30 rfl in_M w_669 (by decide) rfl (by decide) rfl rfl ?_
      refine vq_iload_n d_M_clear_33 rfl ?_
      refine vq_lconst (v := 0) d_M_clear_34 rfl ?_
      refine vq_last d_M_clear_35 rfl (by decide) rfl rfl (show _ < 20 by omega) ?_
      refine vq_iinc (k := 0) (lv' := [(1, _), (0, _)]) d_M_clear_36 rfl (ip1 i) (by decide) rfl ?_
      refine vq_goto (tgt := 23) d_M_clear_39 (by decide) ?_
      refine ih (20 - (i + 1)) (by omega) (i + 1) _ rfl ⟨by omega, hI.2.1, fun q h1 h2 => ?_, fun k hk => ?_, fun k hk => ?_⟩
      · rw [sJ_n h2]; exact hI.2.2.1 q h1 h2
      · rw [sJ_n (by decide)]; exact hI.2.2.2.1 k hk
      · rw [sJ_s, vp_updL]
        by_cases e1 : k = i
        · rw [if_pos e1]
        · rw [if_neg e1]; exact hI.2.2.2.2 k (by omega)
  have loopA : ∀ (n9 : Nat) (i : Nat) (g1 : Sg), 80 - i = n9 → (i ≤ 80 ∧ g1.1 = g.1 ∧ (∀ q, q ≠ 78 → q ≠ 79 → g1.2 q = g.2 q) ∧ (∀ k, k < i → g1.2 78 k = 0)) → Vq l b id D m_M_clear false 85 kT (fun v' g' => v' = none ∧ g'.1 = g.1 ∧ (∀ q, q ≠ 78 → q ≠ 79 → g'.2 q = g.2 q) ∧ (∀ k, k < 80 → g'.2 78 k = 0) ∧ (∀ p, p < 20 → g'.2 79 p = 0)) 85 kT (fun _ _ => False) 85 kT 0 0 2 [(1, .int (nI i)), (0, .ref (b + 67))] [] g1 := by
    intro n9
    induction n9 using Nat.strongRecOn with
    | ind n9 ih =>
    intro i g1 hm9 hI
    have hle := hI.1
    refine vq_iload_n d_M_clear_2 rfl ?_
    refine vq_bipush (v := 80) d_M_clear_3 (by decide) ?_
    refine vq_icmp_ge (tgt := 21) d_M_clear_5 (by decide) (fun h5 => ?_) (fun h5 => ?_)
    · have hi : i = 80 := by
        rw [show (80 : Int32) = nI 80 from rfl, nI_leI (by decide) (by omega)] at h5
        omega
      subst hi
      refine vq_iconst (v := 0) d_M_clear_21 (by decide) ?_
      refine vq_istore_n (lv' := [(1, _), (0, _)]) d_M_clear_22 (by decide) rfl ?_
      exact loopB 20 0 _ rfl ⟨by decide, hI.2.1, hI.2.2.1, hI.2.2.2, fun k hk => by omega⟩
    · have hi : i < 80 := by
        rw [show (80 : Int32) = nI 80 from rfl, nI_leI (by decide) (by omega)] at h5
        omega
      refine vq_aload_n d_M_clear_8 rfl ?_
      refine vq_getR (k := 13) (C := R_M) (T := T_M) d_M_clear_9 rfl in_M w_668 (by decide) rfl (by decide) rfl rfl ?_
      refine vq_iload_n d_M_clear_12 rfl ?_
      refine vq_lconst (v := 0) d_M_clear_13 rfl ?_
      refine vq_last d_M_clear_14 rfl (by decide) rfl rfl (show _ < 80 by omega) ?_
      refine vq_iinc (k := 0) (lv' := [(1, _), (0, _)]) d_M_clear_15 rfl (ip1 i) (by decide) rfl ?_
      refine vq_goto (tgt := 2) d_M_clear_18 (by decide) ?_
      refine ih (80 - (i + 1)) (by omega) (i + 1) _ rfl ⟨by omega, hI.2.1, fun q h1 h2 => ?_, fun k hk => ?_⟩
      · rw [sJ_n h1]; exact hI.2.2.1 q h1 h2
      · rw [sJ_s, vp_updL]
        by_cases e1 : k = i
        · rw [if_pos e1]
        · rw [if_neg e1]; exact hI.2.2.2 k (by omega)
  refine vq_iconst (v := 0) d_M_clear_0 (by decide) ?_
  refine vq_istore_n (lv' := [(1, _), (0, _)]) d_M_clear_1 (by decide) rfl ?_
  exact loopA 80 0 _ rfl ⟨by decide, rfl, fun q _ _ => rfl, fun k hk => by omega⟩
set_option maxRecDepth 100000 in
set_option maxHeartbeats 4000000 in
theorem ct_M_climb (l : Launch) (b : Nat) (id : Nat → ClassId) (D : va_G) {g : Sg} {F : Fam} (hW : zW F) (hm : Hm g F) {e t : Nat} {v : Nat → Nat} (ht : t ≤ 3) (hY : ∀ i, i < 4 → ∀ p, p < zn F → g.1 77 (20 * i + p) = bI (zY F e i p)) (hv63 : zsum v (zn F) < 2 ^ 63) (hv : ∀ p, p < zn F → g.2 78 (20 * t + p) = lN (v p)) (hz0 : ∀ i, i < t → ∀ p, p < zn F → g.2 78 (20 * i + p) = 0) : qCT l b id D m_M_climb false [.ref (b + 67), .int (nI t)] 85 kT g 85 kT (fun v' g' => v' = none ∧ g'.1 = g.1 ∧ (∀ q, q ≠ 78 → g'.2 q = g.2 q) ∧ (∀ p, p < zn F → g'.2 78 p = lN (zup F e t v p))) (fun _ _ => False) := by
  have hn := hW.1
  refine qCT_of rfl (by decide) (Nat.le_of_ble_eq_true rfl) ?_
  show Vq l b id D m_M_climb false 85 kT _ 85 kT _ 85 kT 0 0 0 [(0, .ref (b + 67)), (1, .int (nI t))] [] g
  have loop : ∀ (n9 : Nat) (h : Nat) (V : Nat → Nat) (g1 : Sg), h = n9 → (h ≤ t ∧ g1.1 = g.1 ∧ (∀ q, q ≠ 78 → g1.2 q = g.2 q) ∧ zsum V (zn F) < 2 ^ 63 ∧ (∀ p, p < zn F → g1.2 78 (20 * h + p) = lN (V p)) ∧ (∀ i, i < h → ∀ p, p < zn F → g1.2 78 (20 * i + p) = 0) ∧ (∀ p, p < zn F → zup F e h V p = zup F e t v p)) → Vq l b id D m_M_climb false 85 kT (fun v' g' => v' = none ∧ g'.1 = g.1 ∧ (∀ q, q ≠ 78 → g'.2 q = g.2 q) ∧ (∀ p, p < zn F → g'.2 78 p = lN (zup F e t v p))) 85 kT (fun _ _ => False) 85 kT 0 0 2 [(2, .int (nI h)), (0, .ref (b + 67)), (1, .int (nI t))] [] g1 := by
    intro n9
    induction n9 using Nat.strongRecOn with
    | ind n9 ih =>
    intro h V g1 hm9 hI
    have hle := hI.1
    refine vq_iload_n d_M_climb_2 rfl ?_
    refine vq_if_le (tgt := 169) d_M_climb_3 (by decide) (fun h3 => ?_) (fun h3 => ?_)
    · have h0 : h = 0 := (nI_n0 (by omega)).mp h3
      subst h0
      refine vq_vret d_M_climb_169 rfl (by decide) (by decide) rfl rfl ?_
      exact ⟨rfl, hI.2.1, hI.2.2.1, fun p hp => by have h9 := hI.2.2.2.2.1 p hp; rw [Nat.mul_zero, Nat.zero_add] at h9; rw [h9, ← hI.2.2.2.2.2.2 p hp]; rfl⟩
    · have h0 : ¬ h = 0 := fun h9 => h3 ((nI_n0 (by omega)).mpr h9)
      obtain ⟨r, rfl⟩ : ∃ r, h = r + 1 := ⟨h - 1, by omega⟩
      have inner : ∀ (n8 : Nat) (i : Nat) (g2 : Sg), zn F - i = n8 → (i ≤ zn F ∧ (g2.1 = g.1 ∧ (∀ q, q ≠ 78 → g2.2 q = g.2 q) ∧ (∀ p, p < zn F → g2.2 78 (20 * (r + 1) + p) = lN (V p)) ∧ (∀ i, i < r → ∀ p, p < zn F → g2.2 78 (20 * i + p) = 0) ∧ (∀ j, j < zn F → g2.2 78 (20 * r + j) = lN (zsum (fun p => zc1 F e r V p j) i)))) → Vq l b id D m_M_climb false 85 kT (fun v' g' => v' = none ∧ g'.1 = g.1 ∧ (∀ q, q ≠ 78 → g'.2 q = g.2 q) ∧ (∀ p, p < zn F → g'.2 78 p = lN (zup F e t v p))) 85 kT (fun _ _ => False) 85 kT 0 0 8 [(3, .int (nI i)), (2, .int (nI (r + 1))), (0, .ref (b + 67)), (1, .int (nI t))] [] g2 := by
        intro n8
        induction n8 using Nat.strongRecOn with
        | ind n8 ih8 =>
        intro i g2 hm8 hJ
        have hj1 := hJ.1
        have hm2 : Hm g2 F := hm.congr (by rw [hJ.2.1]) (fun q a c => by rw [hJ.2.1])
        refine vq_iload_n d_M_climb_8 rfl ?_
        refine vq_aload_n d_M_climb_9 rfl ?_
        refine vq_getI (k := 1) (C := R_M) (T := T_M) d_M_climb_10 rfl in_M w_656 (by decide) rfl (by decide) rfl ?_
        refine vq_int (y := nI (zn F)) hm2.1 ?_
        refine vq_icmp_ge (tgt := 163) d_M_climb_13 (by decide) (fun h13 => ?_) (fun h13 => ?_)
        · have hi : i = zn F := by
            rw [nI_leI (by omega) (by omega)] at h13
            omega
          subst hi
          refine vq_iinc (k := 1) (lv' := [(2, _), (3, _), (0, _), (1, _)]) d_M_climb_163 rfl (by rw [im1, dn1]) (by decide) rfl ?_
          refine vq_goto (tgt := 2) d_M_climb_166 (by decide) ?_
          refine vq_pk [0, 2, 3] (lv' := [(2, _), (0, _), (1, _)]) rfl ?_
          refine ih r (by omega) r (zcl F e r V) _ rfl ⟨by omega, hJ.2.1, hJ.2.2.1, Nat.lt_of_le_of_lt (zcl_le hW V) hI.2.2.2.1, fun p hp => hJ.2.2.2.2.2 p hp, hJ.2.2.2.2.1, hI.2.2.2.2.2.2⟩
        · have hi : i < zn F := by
            rw [nI_leI (by omega) (by omega)] at h13
            omega
          have hv63 : V i < 2 ^ 63 := Nat.lt_of_le_of_lt (zsum_one hi) hI.2.2.2.1
          have s108 : ∀ (g3 : Sg), (g3.1 = g.1 ∧ (∀ q, q ≠ 78 → g3.2 q = g.2 q) ∧ (∀ p, p < zn F → g3.2 78 (20 * (r + 1) + p) = lN (V p)) ∧ (∀ i, i < r → ∀ p, p < zn F → g3.2 78 (20 * i + p) = 0) ∧ (∀ j, j < zn F → g3.2 78 (20 * r + j) = lN (zsum (fun p => zc1 F e r V p j) i + (if za F i = some j ∧ zY F e r j = true then (if zoB (zb F i) (zY F e r) = true then V i / 2 else V i) else 0)))) → Vq l b id D m_M_climb false 85 kT (fun v' g' => v' = none ∧ g'.1 = g.1 ∧ (∀ q, q ≠ 78 → g'.2 q = g.2 q) ∧ (∀ p, p < zn F → g'.2 78 p = lN (zup F e t v p))) 85 kT (fun _ _ => False) 85 kT 0 0 108 [(7, .int (bI (zoB (zb F i) (zY F e r)))), (6, .int (bI (zoB (za F i) (zY F e r)))), (4, .long (lN (V i))), (3, .int (nI i)), (2, .int (nI (r + 1))), (0, .ref (b + 67)), (1, .int (nI t))] [] g3 := by
            intro g3 hK
            have hm3 : Hm g3 F := hm.congr (by rw [hK.1]) (fun q a c => by rw [hK.1])
            refine vq_lload d_M_climb_108 rfl ?_
            refine vq_lconst (v := 0) d_M_climb_110 rfl ?_
            refine vq_lcmp d_M_climb_111 ?_
            refine vq_if_le (tgt := 157) d_M_climb_112 (by decide) (fun h112 => ?_) (fun h112 => ?_)
            · rw [lpos hv63] at h112
              refine vq_iinc (k := 3) (lv' := [(3, _), (7, _), (6, _), (4, _), (2, _), (0, _), (1, _)]) d_M_climb_157 rfl (ip1 i) (by decide) rfl ?_
              refine vq_goto (tgt := 8) d_M_climb_160 (by decide) ?_
              refine vq_pk [0, 4, 5, 6] (lv' := [(3, _), (2, _), (0, _), (1, _)]) rfl ?_
              refine ih8 (zn F - (i + 1)) (by omega) (i + 1) _ rfl ⟨by omega, hK.1, fun q hq => ?_, fun p hp => ?_, fun i9 hi9 p hp => ?_, fun j hj => ?_⟩
              · first | exact hK.2.1 q hq | (rw [sJ_n hq]; exact hK.2.1 q hq)
              · first | exact hK.2.2.1 p hp | (rw [sJ_s, (up20 _ (by omega) _).2 (r + 1) p (by omega) (by omega)]; exact hK.2.2.1 p hp)
              · first | exact hK.2.2.2.1 i9 hi9 p hp | (rw [sJ_s, (up20 _ (by omega) _).2 i9 p (by omega) (by omega)]; exact hK.2.2.2.1 i9 hi9 p hp)
              · show _ = lN (zsum (fun p => zc1 F e r V p j) i + zc1 F e r V i j)
                unfold zc1
                have h9 := hK.2.2.2.2 j hj
                unfold zc1 at h9
                first
                  | (rw [h9, h112]; simp; done)
                  | (rw [zcb hB, Nat.add_zero]; exact h9)
                  | (rw [sJ_s, (up20 _ (by omega) _).1 j (by omega), h9, lN_add, zca hb hya, hx9, Nat.add_assoc]; done)
            · rw [lpos hv63] at h112
              refine vq_iload d_M_climb_115 rfl ?_
              refine vq_if_eq (tgt := 157) d_M_climb_117 (by decide) (fun h117 => ?_) (fun h117 => ?_)
              · have hB := bI_0.mp h117
                refine vq_iinc (k := 3) (lv' := [(3, _), (7, _), (6, _), (4, _), (2, _), (0, _), (1, _)]) d_M_climb_157 rfl (ip1 i) (by decide) rfl ?_
                refine vq_goto (tgt := 8) d_M_climb_160 (by decide) ?_
                refine vq_pk [0, 4, 5, 6] (lv' := [(3, _), (2, _), (0, _), (1, _)]) rfl ?_
                refine ih8 (zn F - (i + 1)) (by omega) (i + 1) _ rfl ⟨by omega, hK.1, fun q hq => ?_, fun p hp => ?_, fun i9 hi9 p hp => ?_, fun j hj => ?_⟩
                · first | exact hK.2.1 q hq | (rw [sJ_n hq]; exact hK.2.1 q hq)
                · first | exact hK.2.2.1 p hp | (rw [sJ_s, (up20 _ (by omega) _).2 (r + 1) p (by omega) (by omega)]; exact hK.2.2.1 p hp)
                · first | exact hK.2.2.2.1 i9 hi9 p hp | (rw [sJ_s, (up20 _ (by omega) _).2 i9 p (by omega) (by omega)]; exact hK.2.2.2.1 i9 hi9 p hp)
                · show _ = lN (zsum (fun p => zc1 F e r V p j) i + zc1 F e r V i j)
                  unfold zc1
                  have h9 := hK.2.2.2.2 j hj
                  unfold zc1 at h9
                  first
                    | (rw [h9, h112]; simp; done)
                    | (rw [zcb hB, Nat.add_zero]; exact h9)
                    | (rw [sJ_s, (up20 _ (by omega) _).1 j (by omega), h9, lN_add, zca hb hya, hx9, Nat.add_assoc]; done)
              · have hB := bI_n0.mp h117
                obtain ⟨a, hb, hya⟩ := zoB_some hB
                have hai := hW.2.2.1 i a hi hb
                refine vq_aload_n d_M_climb_120 rfl ?_
                refine vq_getR (k := 13) (C := R_M) (T := T_M) d_M_climb_121 rfl in_M w_668 (by decide) rfl (by decide) rfl rfl ?_
                refine vq_bipush (v := 20) d_M_climb_124 (by decide) ?_
                refine vq_iload_n d_M_climb_126 rfl ?_
                refine vq_iconst (v := 1) d_M_climb_127 (by decide) ?_
                refine vq_isub d_M_climb_128 ?_
                rw [dn1]
                refine vq_imul d_M_climb_129 ?_
                refine vq_aload_n d_M_climb_130 rfl ?_
                refine vq_getR (k := 3) (C := R_M) (T := T_M) d_M_climb_131 rfl in_M w_658 (by decide) rfl (by decide) rfl rfl ?_
                refine vq_iload_n d_M_climb_134 rfl ?_
                refine vq_iald d_M_climb_135 (by decide) rfl rfl (show _ < 20 by omega) ?_
                refine vq_int (y := nI a) (by rw [← show eO (zb F i) = nI a by rw [hb]; rfl]; exact hm3.2.2.1 i hi) ?_
                refine vq_iadd d_M_climb_136 ?_
                rw [ix20m]
                refine vq_dup2_11 d_M_climb_137 rfl rfl ?_
                refine vq_lald d_M_climb_138 (by decide) rfl rfl (show _ < 80 by omega) ?_
                refine vq_iload d_M_climb_139 rfl ?_
                refine vq_if_eq (tgt := 153) d_M_climb_141 (by decide) (fun h141 => ?_) (fun h141 => ?_)
                · have hB9 := bI_0.mp h141
                  have hx9 : (if zoB (za F i) (zY F e r) = true then V i / 2 else V i) = V i := if_neg (by rw [hB9]; decide)
                  refine vq_lload d_M_climb_153 rfl ?_
                  refine vq_ladd d_M_climb_155 ?_
                  refine vq_last d_M_climb_156 rfl (by decide) rfl rfl (show _ < 80 by omega) ?_
                  refine vq_iinc (k := 3) (lv' := [(3, _), (7, _), (6, _), (4, _), (2, _), (0, _), (1, _)]) d_M_climb_157 rfl (ip1 i) (by decide) rfl ?_
                  refine vq_goto (tgt := 8) d_M_climb_160 (by decide) ?_
                  refine vq_pk [0, 4, 5, 6] (lv' := [(3, _), (2, _), (0, _), (1, _)]) rfl ?_
                  refine ih8 (zn F - (i + 1)) (by omega) (i + 1) _ rfl ⟨by omega, hK.1, fun q hq => ?_, fun p hp => ?_, fun i9 hi9 p hp => ?_, fun j hj => ?_⟩
                  · first | exact hK.2.1 q hq | (rw [sJ_n hq]; exact hK.2.1 q hq)
                  · first | exact hK.2.2.1 p hp | (rw [sJ_s, (up20 _ (by omega) _).2 (r + 1) p (by omega) (by omega)]; exact hK.2.2.1 p hp)
                  · first | exact hK.2.2.2.1 i9 hi9 p hp | (rw [sJ_s, (up20 _ (by omega) _).2 i9 p (by omega) (by omega)]; exact hK.2.2.2.1 i9 hi9 p hp)
                  · show _ = lN (zsum (fun p => zc1 F e r V p j) i + zc1 F e r V i j)
                    unfold zc1
                    have h9 := hK.2.2.2.2 j hj
                    unfold zc1 at h9
                    first
                      | (rw [h9, h112]; simp; done)
                      | (rw [zcb hB, Nat.add_zero]; exact h9)
                      | (rw [sJ_s, (up20 _ (by omega) _).1 j (by omega), h9, lN_add, zca hb hya, hx9, Nat.add_assoc]; done)
                · have hB9 := bI_n0.mp h141
                  have hx9 : (if zoB (za F i) (zY F e r) = true then V i / 2 else V i) = V i / 2 := if_pos hB9
                  refine vq_lload d_M_climb_144 rfl ?_
                  refine vq_ldc2 d_M_climb_146 w_804 ?_
                  refine vq_ldiv d_M_climb_149 (by decide) ?_
                  rw [show (2 : Int64) = lN 2 from rfl, pk_lDiv hv63 (by decide) (by decide)]
                  refine vq_goto (tgt := 155) d_M_climb_150 (by decide) ?_
                  refine vq_ladd d_M_climb_155 ?_
                  refine vq_last d_M_climb_156 rfl (by decide) rfl rfl (show _ < 80 by omega) ?_
                  refine vq_iinc (k := 3) (lv' := [(3, _), (7, _), (6, _), (4, _), (2, _), (0, _), (1, _)]) d_M_climb_157 rfl (ip1 i) (by decide) rfl ?_
                  refine vq_goto (tgt := 8) d_M_climb_160 (by decide) ?_
                  refine vq_pk [0, 4, 5, 6] (lv' := [(3, _), (2, _), (0, _), (1, _)]) rfl ?_
                  refine ih8 (zn F - (i + 1)) (by omega) (i + 1) _ rfl ⟨by omega, hK.1, fun q hq => ?_, fun p hp => ?_, fun i9 hi9 p hp => ?_, fun j hj => ?_⟩
                  · first | exact hK.2.1 q hq | (rw [sJ_n hq]; exact hK.2.1 q hq)
                  · first | exact hK.2.2.1 p hp | (rw [sJ_s, (up20 _ (by omega) _).2 (r + 1) p (by omega) (by omega)]; exact hK.2.2.1 p hp)
                  · first | exact hK.2.2.2.1 i9 hi9 p hp | (rw [sJ_s, (up20 _ (by omega) _).2 i9 p (by omega) (by omega)]; exact hK.2.2.2.1 i9 hi9 p hp)
                  · show _ = lN (zsum (fun p => zc1 F e r V p j) i + zc1 F e r V i j)
                    unfold zc1
                    have h9 := hK.2.2.2.2 j hj
                    unfold zc1 at h9
                    first
                      | (rw [h9, h112]; simp; done)
                      | (rw [zcb hB, Nat.add_zero]; exact h9)
                      | (rw [sJ_s, (up20 _ (by omega) _).1 j (by omega), h9, lN_add, zca hb hya, hx9, Nat.add_assoc]; done)
          refine vq_aload_n d_M_climb_16 rfl ?_
          refine vq_getR (k := 13) (C := R_M) (T := T_M) d_M_climb_17 rfl in_M w_668 (by decide) rfl (by decide) rfl rfl ?_
          refine vq_bipush (v := 20) d_M_climb_20 (by decide) ?_
          refine vq_iload_n d_M_climb_22 rfl ?_
          refine vq_imul d_M_climb_23 ?_
          refine vq_iload_n d_M_climb_24 rfl ?_
          refine vq_iadd d_M_climb_25 ?_
          rw [ix20m]
          refine vq_lald d_M_climb_26 (by decide) rfl rfl (show _ < 80 by omega) ?_
          refine vq_long (y := lN (V i)) (hJ.2.2.2.1 i hi) ?_
          refine vq_lstore (lv' := [(4, _), (3, _), (2, _), (0, _), (1, _)]) d_M_climb_27 (by decide) rfl ?_
          refine vq_aload_n d_M_climb_29 rfl ?_
          refine vq_iload_n d_M_climb_30 rfl ?_
          refine vq_iconst (v := 1) d_M_climb_31 (by decide) ?_
          refine vq_isub d_M_climb_32 ?_
          rw [dn1]
          refine vq_aload_n d_M_climb_33 rfl ?_
          refine vq_getR (k := 2) (C := R_M) (T := T_M) d_M_climb_34 rfl in_M w_657 (by decide) rfl (by decide) rfl rfl ?_
          refine vq_iload_n d_M_climb_37 rfl ?_
          refine vq_iald d_M_climb_38 (by decide) rfl rfl (show _ < 20 by omega) ?_
          refine vq_int (y := eO (za F i)) (hm2.2.1 i hi) ?_
          refine vq_callV (n := 2) (C := R_M) (T := T_M) _ _ d_M_climb_39 (ct_M_hasLine l b id D (g := g2) (h := r) (by omega) (o := za F i) (fun j hj => by have := hW.2.1 i j hi hj; omega) (Y := zY F e r) (fun j hj => by rw [hJ.2.1]; exact hY r (by omega) j (by have := hW.2.1 i j hi hj; omega))) w_794 w_796 sel_M_hasLine w_797 w_7 rfl ⟨by decide, by decide, by decide +kernel⟩ ⟨by decide, by decide⟩ (by decide) rfl rfl rfl rfl (Nat.le_of_ble_eq_true rfl) rfl rfl rfl ⟨by decide, by decide⟩ (fun _ _ h => h.elim) (fun v39 g39 h39 => ?_)
          rw [h39.1, h39.2]
          refine vq_istore (lv' := [(6, _), (4, _), (3, _), (2, _), (0, _), (1, _)]) d_M_climb_42 (by decide) rfl ?_
          refine vq_aload_n d_M_climb_44 rfl ?_
          refine vq_iload_n d_M_climb_45 rfl ?_
          refine vq_iconst (v := 1) d_M_climb_46 (by decide) ?_
          refine vq_isub d_M_climb_47 ?_
          rw [dn1]
          refine vq_aload_n d_M_climb_48 rfl ?_
          refine vq_getR (k := 3) (C := R_M) (T := T_M) d_M_climb_49 rfl in_M w_658 (by decide) rfl (by decide) rfl rfl ?_
          refine vq_iload_n d_M_climb_52 rfl ?_
          refine vq_iald d_M_climb_53 (by decide) rfl rfl (show _ < 20 by omega) ?_
          refine vq_int (y := eO (zb F i)) (hm2.2.2.1 i hi) ?_
          refine vq_callV (n := 2) (C := R_M) (T := T_M) _ _ d_M_climb_54 (ct_M_hasLine l b id D (g := g2) (h := r) (by omega) (o := zb F i) (fun j hj => by have := hW.2.2.1 i j hi hj; omega) (Y := zY F e r) (fun j hj => by rw [hJ.2.1]; exact hY r (by omega) j (by have := hW.2.2.1 i j hi hj; omega))) w_794 w_796 sel_M_hasLine w_797 w_7 rfl ⟨by decide, by decide, by decide +kernel⟩ ⟨by decide, by decide⟩ (by decide) rfl rfl rfl rfl (Nat.le_of_ble_eq_true rfl) rfl rfl rfl ⟨by decide, by decide⟩ (fun _ _ h => h.elim) (fun v54 g54 h54 => ?_)
          rw [h54.1, h54.2]
          refine vq_istore (lv' := [(7, _), (6, _), (4, _), (3, _), (2, _), (0, _), (1, _)]) d_M_climb_57 (by decide) rfl ?_
          refine vq_lload d_M_climb_59 rfl ?_
          refine vq_lconst (v := 0) d_M_climb_61 rfl ?_
          refine vq_lcmp d_M_climb_62 ?_
          refine vq_if_le (tgt := 108) d_M_climb_63 (by decide) (fun h63 => ?_) (fun h63 => ?_)
          · rw [lpos hv63] at h63
            refine s108 _ ⟨hJ.2.1, fun q hq => ?_, fun p hp => ?_, fun i9 hi9 p hp => ?_, fun j hj => ?_⟩
            · first | exact hJ.2.2.1 q hq | (rw [sJ_n hq]; exact hJ.2.2.1 q hq)
            · first | exact hJ.2.2.2.1 p hp | (rw [sJ_s, (up20 _ (by omega) _).2 (r + 1) p (by omega) (by omega)]; exact hJ.2.2.2.1 p hp)
            · first | exact hJ.2.2.2.2.1 i9 hi9 p hp | (rw [sJ_s, (up20 _ (by omega) _).2 i9 p (by omega) (by omega)]; exact hJ.2.2.2.2.1 i9 hi9 p hp)
            · have h9 := hJ.2.2.2.2.2 j hj
              first
                | (rw [h9, h63]; simp; done)
                | (rw [zcb hA, Nat.add_zero]; exact h9)
                | (rw [sJ_s, (up20 _ (by omega) _).1 j (by omega), h9, lN_add, zca ha hya, hx9]; done)
          · rw [lpos hv63] at h63
            refine vq_iload d_M_climb_66 rfl ?_
            refine vq_if_eq (tgt := 108) d_M_climb_68 (by decide) (fun h68 => ?_) (fun h68 => ?_)
            · have hA := bI_0.mp h68
              refine s108 _ ⟨hJ.2.1, fun q hq => ?_, fun p hp => ?_, fun i9 hi9 p hp => ?_, fun j hj => ?_⟩
              · first | exact hJ.2.2.1 q hq | (rw [sJ_n hq]; exact hJ.2.2.1 q hq)
              · first | exact hJ.2.2.2.1 p hp | (rw [sJ_s, (up20 _ (by omega) _).2 (r + 1) p (by omega) (by omega)]; exact hJ.2.2.2.1 p hp)
              · first | exact hJ.2.2.2.2.1 i9 hi9 p hp | (rw [sJ_s, (up20 _ (by omega) _).2 i9 p (by omega) (by omega)]; exact hJ.2.2.2.2.1 i9 hi9 p hp)
              · have h9 := hJ.2.2.2.2.2 j hj
                first
                  | (rw [h9, h63]; simp; done)
                  | (rw [zcb hA, Nat.add_zero]; exact h9)
                  | (rw [sJ_s, (up20 _ (by omega) _).1 j (by omega), h9, lN_add, zca ha hya, hx9]; done)
            · have hA := bI_n0.mp h68
              obtain ⟨a, ha, hya⟩ := zoB_some hA
              have hai := hW.2.1 i a hi ha
              refine vq_aload_n d_M_climb_71 rfl ?_
              refine vq_getR (k := 13) (C := R_M) (T := T_M) d_M_climb_72 rfl in_M w_668 (by decide) rfl (by decide) rfl rfl ?_
              refine vq_bipush (v := 20) d_M_climb_75 (by decide) ?_
              refine vq_iload_n d_M_climb_77 rfl ?_
              refine vq_iconst (v := 1) d_M_climb_78 (by decide) ?_
              refine vq_isub d_M_climb_79 ?_
              rw [dn1]
              refine vq_imul d_M_climb_80 ?_
              refine vq_aload_n d_M_climb_81 rfl ?_
              refine vq_getR (k := 2) (C := R_M) (T := T_M) d_M_climb_82 rfl in_M w_657 (by decide) rfl (by decide) rfl rfl ?_
              refine vq_iload_n d_M_climb_85 rfl ?_
              refine vq_iald d_M_climb_86 (by decide) rfl rfl (show _ < 20 by omega) ?_
              refine vq_int (y := nI a) (by rw [← show eO (za F i) = nI a by rw [ha]; rfl]; exact hm2.2.1 i hi) ?_
              refine vq_iadd d_M_climb_87 ?_
              rw [ix20m]
              refine vq_dup2_11 d_M_climb_88 rfl rfl ?_
              refine vq_lald d_M_climb_89 (by decide) rfl rfl (show _ < 80 by omega) ?_
              refine vq_iload d_M_climb_90 rfl ?_
              refine vq_if_eq (tgt := 104) d_M_climb_92 (by decide) (fun h92 => ?_) (fun h92 => ?_)
              · have hB9 := bI_0.mp h92
                have hx9 : (if zoB (zb F i) (zY F e r) = true then V i / 2 else V i) = V i := if_neg (by rw [hB9]; decide)
                refine vq_lload d_M_climb_104 rfl ?_
                refine vq_ladd d_M_climb_106 ?_
                refine vq_last d_M_climb_107 rfl (by decide) rfl rfl (show _ < 80 by omega) ?_
                refine s108 _ ⟨hJ.2.1, fun q hq => ?_, fun p hp => ?_, fun i9 hi9 p hp => ?_, fun j hj => ?_⟩
                · first | exact hJ.2.2.1 q hq | (rw [sJ_n hq]; exact hJ.2.2.1 q hq)
                · first | exact hJ.2.2.2.1 p hp | (rw [sJ_s, (up20 _ (by omega) _).2 (r + 1) p (by omega) (by omega)]; exact hJ.2.2.2.1 p hp)
                · first | exact hJ.2.2.2.2.1 i9 hi9 p hp | (rw [sJ_s, (up20 _ (by omega) _).2 i9 p (by omega) (by omega)]; exact hJ.2.2.2.2.1 i9 hi9 p hp)
                · have h9 := hJ.2.2.2.2.2 j hj
                  first
                    | (rw [h9, h63]; simp; done)
                    | (rw [zcb hA, Nat.add_zero]; exact h9)
                    | (rw [sJ_s, (up20 _ (by omega) _).1 j (by omega), h9, lN_add, zca ha hya, hx9]; done)
              · have hB9 := bI_n0.mp h92
                have hx9 : (if zoB (zb F i) (zY F e r) = true then V i / 2 else V i) = V i / 2 := if_pos hB9
                refine vq_lload d_M_climb_95 rfl ?_
                refine vq_ldc2 d_M_climb_97 w_804 ?_
                refine vq_ldiv d_M_climb_100 (by decide) ?_
                rw [show (2 : Int64) = lN 2 from rfl, pk_lDiv hv63 (by decide) (by decide)]
                refine vq_goto (tgt := 106) d_M_climb_101 (by decide) ?_
                refine vq_ladd d_M_climb_106 ?_
                refine vq_last d_M_climb_107 rfl (by decide) rfl rfl (show _ < 80 by omega) ?_
                refine s108 _ ⟨hJ.2.1, fun q hq => ?_, fun p hp => ?_, fun i9 hi9 p hp => ?_, fun j hj => ?_⟩
                · first | exact hJ.2.2.1 q hq | (rw [sJ_n hq]; exact hJ.2.2.1 q hq)
                · first | exact hJ.2.2.2.1 p hp | (rw [sJ_s, (up20 _ (by omega) _).2 (r + 1) p (by omega) (by omega)]; exact hJ.2.2.2.1 p hp)
                · first | exact hJ.2.2.2.2.1 i9 hi9 p hp | (rw [sJ_s, (up20 _ (by omega) _).2 i9 p (by omega) (by omega)]; exact hJ.2.2.2.2.1 i9 hi9 p hp)
                · have h9 := hJ.2.2.2.2.2 j hj
                  first
                    | (rw [h9, h63]; simp; done)
                    | (rw [zcb hA, Nat.add_zero]; exact h9)
                    | (rw [sJ_s, (up20 _ (by omega) _).1 j (by omega), h9, lN_add, zca ha hya, hx9]; done)
      refine vq_iconst (v := 0) d_M_climb_6 (by decide) ?_
      refine vq_istore_n (lv' := [(3, _), (2, _), (0, _), (1, _)]) d_M_climb_7 (by decide) rfl ?_
      refine inner (zn F) 0 _ rfl ⟨by omega, hI.2.1, hI.2.2.1, hI.2.2.2.2.1, fun i hi p hp => hI.2.2.2.2.2.1 i (by omega) p hp, fun j hj => ?_⟩
      rw [hI.2.2.2.2.2.1 r (by omega) j hj]
      rfl
  refine vq_iload_n d_M_climb_0 rfl ?_
  refine vq_istore_n (lv' := [(2, _), (0, _), (1, _)]) d_M_climb_1 (by decide) rfl ?_
  exact loop t t v _ rfl ⟨Nat.le_refl _, rfl, fun q _ => rfl, hv63, hv, hz0, fun p hp => rfl⟩
set_option maxRecDepth 100000 in
set_option maxHeartbeats 4000000 in
theorem ct_M_descend (l : Launch) (b : Nat) (id : Nat → ClassId) (D : va_G) {g : Sg} {F : Fam} (hW : zW F) (hm : Hm g F) {e : Nat} (hk : (∀ p, p < zn F → g.1 75 p = bI (zl F e p)) ∧ (∀ p, p < zn F → g.1 76 p = nI (zB F e p)) ∧ (∀ p, p < zn F → g.1 77 p = bI (zX F e p))) {P T : Nat → Nat} (hP63 : zsum P (zn F) < 2 ^ 63) (hP : ∀ p, p < zn F → g.2 78 p = lN (P p)) (hT : ∀ p, p < zn F → g.2 79 p = lN (T p)) : qCT l b id D m_M_descend false [.ref (b + 67)] 85 kT g 85 kT (fun v' g' => v' = none ∧ g'.1 = g.1 ∧ (∀ q, q ≠ 78 → q ≠ 79 → g'.2 q = g.2 q) ∧ (∀ p, p < zn F → g'.2 79 p = lN (zta F e P T p))) (fun _ _ => False) := by
  have hn := hW.1
  refine qCT_of rfl (by decide) (Nat.le_of_ble_eq_true rfl) ?_
  show Vq l b id D m_M_descend false 85 kT _ 85 kT _ 85 kT 0 0 0 [(0, .ref (b + 67))] [] g
  have loop : ∀ (n9 : Nat) (i : Nat) (g1 : Sg), zn F - i = n9 → (i ≤ zn F ∧ g1.1 = g.1 ∧ (∀ q, q ≠ 78 → q ≠ 79 → g1.2 q = g.2 q) ∧ (∀ c, c < zn F → g1.2 78 c = lN (ztb F e P i c)) ∧ (∀ p, p < zn F → g1.2 79 p = lN (T p + (if (decide (p < i) && zl F e p) = true then ztb F e P p p else 0)))) → Vq l b id D m_M_descend false 85 kT (fun v' g' => v' = none ∧ g'.1 = g.1 ∧ (∀ q, q ≠ 78 → q ≠ 79 → g'.2 q = g.2 q) ∧ (∀ p, p < zn F → g'.2 79 p = lN (zta F e P T p))) 85 kT (fun _ _ => False) 85 kT 0 0 2 [(1, .int (nI i)), (0, .ref (b + 67))] [] g1 := by
    intro n9
    induction n9 using Nat.strongRecOn with
    | ind n9 ih =>
    intro i g1 hm9 hI
    have hi1 := hI.1
    have hm1 : Hm g1 F := hm.congr (by rw [hI.2.1]) (fun q a c => by rw [hI.2.1])
    refine vq_iload_n d_M_descend_2 rfl ?_
    refine vq_aload_n d_M_descend_3 rfl ?_
    refine vq_getI (k := 1) (C := R_M) (T := T_M) d_M_descend_4 rfl in_M w_656 (by decide) rfl (by decide) rfl ?_
    refine vq_int (y := nI (zn F)) hm1.1 ?_
    refine vq_icmp_ge (tgt := 110) d_M_descend_7 (by decide) (fun h7 => ?_) (fun h7 => ?_)
    · have hi : i = zn F := by
        rw [nI_leI (by omega) (by omega)] at h7
        omega
      subst hi
      refine vq_vret d_M_descend_110 rfl (by decide) (by decide) rfl rfl ?_
      refine ⟨rfl, hI.2.1, hI.2.2.1, fun p hp => ?_⟩
      have h9 := hI.2.2.2.2 p hp
      simp only [hp, decide_true, Bool.true_and] at h9
      exact h9
    · have hi : i < zn F := by
        rw [nI_leI (by omega) (by omega)] at h7
        omega
      have hB := zB_le (F := F) (e := e) i
      have hb63 : ztb F e P i i < 2 ^ 63 := Nat.lt_of_le_of_lt (ztb_le (Nat.le_refl i) hi) hP63
      have ht0 : g1.2 79 i = lN (T i) := by
        have h9 := hI.2.2.2.2 i hi
        rw [if_neg (by simp)] at h9
        exact h9
      have hnext : ∀ (x : Nat), (∀ c, c < zn F → zk F e i c = true → zl F e i = false → x = ztb F e P i i / zB F e i) → ∀ c, c < zn F → ztb F e P (i + 1) c = ztb F e P i c + (if (!zl F e i && zk F e i c) = true then x else 0) := by
        intro x hx c hcn
        show ztb F e P i c + _ = _
        by_cases hz : (!zl F e i && zk F e i c) = true
        · simp only [Bool.and_eq_true, Bool.not_eq_true'] at hz
          rw [hx c hcn hz.2 hz.1]
          simp [hz.1, hz.2, hcn]
        · have hz2 : ¬ (!zl F e i && decide (c < zn F) && zk F e i c) = true := by
            intro h9; apply hz; simp only [Bool.and_eq_true] at h9 ⊢; exact ⟨h9.1.1, h9.2⟩
          rw [if_neg hz, if_neg hz2]
      have s104 : ∀ (g2 : Sg), (i + 1 ≤ zn F ∧ g2.1 = g.1 ∧ (∀ q, q ≠ 78 → q ≠ 79 → g2.2 q = g.2 q) ∧ (∀ c, c < zn F → g2.2 78 c = lN (ztb F e P (i + 1) c)) ∧ (∀ p, p < zn F → g2.2 79 p = lN (T p + (if (decide (p < i + 1) && zl F e p) = true then ztb F e P p p else 0)))) → Vq l b id D m_M_descend false 85 kT (fun v' g' => v' = none ∧ g'.1 = g.1 ∧ (∀ q, q ≠ 78 → q ≠ 79 → g'.2 q = g.2 q) ∧ (∀ p, p < zn F → g'.2 79 p = lN (zta F e P T p))) 85 kT (fun _ _ => False) 85 kT 0 0 104 [(1, .int (nI i)), (0, .ref (b + 67))] [] g2 := by
        intro g2 hI2
        refine vq_iinc (k := 0) (lv' := [(1, _), (0, _)]) d_M_descend_104 rfl (ip1 i) (by decide) rfl ?_
        refine vq_goto (tgt := 2) d_M_descend_107 (by decide) ?_
        exact ih (zn F - (i + 1)) (by omega) (i + 1) _ rfl hI2
      have htk : zl F e i = false → ∀ p, p < zn F → lN (T p + (if (decide (p < i + 1) && zl F e p) = true then ztb F e P p p else 0)) = lN (T p + (if (decide (p < i) && zl F e p) = true then ztb F e P p p else 0)) := by
        intro hl p hp
        by_cases e1 : p = i
        · rw [e1]; simp [hl]
        · have h8 : decide (p < i + 1) = decide (p < i) := by simp; omega
          rw [h8]
      refine vq_aload_n d_M_descend_10 rfl ?_
      refine vq_getR (k := 13) (C := R_M) (T := T_M) d_M_descend_11 rfl in_M w_668 (by decide) rfl (by decide) rfl rfl ?_
      refine vq_iload_n d_M_descend_14 rfl ?_
      refine vq_lald d_M_descend_15 (by decide) rfl rfl (show _ < 80 by omega) ?_
      refine vq_long (y := lN (ztb F e P i i)) (hI.2.2.2.1 i hi) ?_
      refine vq_lstore_n (lv' := [(2, _), (1, _), (0, _)]) d_M_descend_16 (by decide) rfl ?_
      refine vq_aload_n d_M_descend_17 rfl ?_
      refine vq_getR (k := 10) (C := R_M) (T := T_M) d_M_descend_18 rfl in_M w_665 (by decide) rfl (by decide) rfl rfl ?_
      refine vq_iload_n d_M_descend_21 rfl ?_
      refine vq_zald d_M_descend_22 (by decide) rfl rfl (show _ < 20 by omega) ?_
      refine vq_int (y := bI (zl F e i)) (by rw [hI.2.1]; exact hk.1 i hi) ?_
      refine vq_if_eq (tgt := 39) d_M_descend_23 (by decide) (fun h23 => ?_) (fun h23 => ?_)
      · have hl := bI_0.mp h23
        refine vq_lload_n d_M_descend_39 rfl ?_
        refine vq_lconst (v := 0) d_M_descend_40 rfl ?_
        refine vq_lcmp d_M_descend_41 ?_
        refine vq_if_le (tgt := 104) d_M_descend_42 (by decide) (fun h42 => ?_) (fun h42 => ?_)
        · rw [lpos hb63] at h42
          have hst : ∀ c, c < zn F → ztb F e P (i + 1) c = ztb F e P i c := fun c hcn => by
            rw [hnext 0 (fun _ _ _ _ => by rw [h42, Nat.zero_div]) c hcn]; split <;> rfl
          refine vq_pk [1, 2] (lv' := [(1, _), (0, _)]) rfl ?_
          first
            | exact s104 _ ⟨by omega, hI.2.1, hI.2.2.1, fun c hcn => by rw [hst c hcn]; exact hI.2.2.2.1 c hcn, fun p hp => by rw [htk hl p hp]; exact hI.2.2.2.2 p hp⟩
            | (refine s104 _ ⟨by omega, hI.2.1, fun q c1 c2 => by rw [sJ_n c2]; exact hI.2.2.1 q c1 c2, fun c hcn => ?_, fun p hp => ?_⟩
               · rw [sJ_n (by decide), hnext 0 (fun _ _ _ h9 => by rw [hl] at h9; cases h9) c hcn, hI.2.2.2.1 c hcn, hl]; simp
               · by_cases e1 : p = i
                 · rw [e1, sJ_s, vp_updL, if_pos rfl]; simp [hl]
                 · have h8 : decide (p < i + 1) = decide (p < i) := by simp; omega
                   rw [sJ_s, vp_updL, if_neg e1, h8]; exact hI.2.2.2.2 p hp)
        · have inner : ∀ (n8 : Nat) (c : Nat) (g2 : Sg), zn F - c = n8 → (i + 1 ≤ c ∧ c ≤ zn F ∧ g2.1 = g.1 ∧ (∀ q, q ≠ 78 → g2.2 q = g1.2 q) ∧ (∀ d, d < zn F → g2.2 78 d = g1.2 78 d + lN (if d < c ∧ zk F e i d = true then ztb F e P i i / zB F e i else 0))) → Vq l b id D m_M_descend false 85 kT (fun v' g' => v' = none ∧ g'.1 = g.1 ∧ (∀ q, q ≠ 78 → q ≠ 79 → g'.2 q = g.2 q) ∧ (∀ p, p < zn F → g'.2 79 p = lN (zta F e P T p))) 85 kT (fun _ _ => False) 85 kT 0 0 50 [(4, .int (nI c)), (2, .long (lN (ztb F e P i i))), (1, .int (nI i)), (0, .ref (b + 67))] [] g2 := by
            intro n8
            induction n8 using Nat.strongRecOn with
            | ind n8 ih8 =>
            intro c g2 hm8 hJ
            have hc1 := hJ.1
            have hc2 := hJ.2.1
            have hm2 : Hm g2 F := hm.congr (by rw [hJ.2.2.1]) (fun q a c => by rw [hJ.2.2.1])
            refine vq_iload d_M_descend_50 rfl ?_
            refine vq_aload_n d_M_descend_52 rfl ?_
            refine vq_getI (k := 1) (C := R_M) (T := T_M) d_M_descend_53 rfl in_M w_656 (by decide) rfl (by decide) rfl ?_
            refine vq_int (y := nI (zn F)) hm2.1 ?_
            refine vq_icmp_ge (tgt := 104) d_M_descend_56 (by decide) (fun h56 => ?_) (fun h56 => ?_)
            · have hcn : c = zn F := by
                rw [nI_leI (by omega) (by omega)] at h56
                omega
              subst hcn
              refine vq_pk [2, 3] (lv' := [(1, _), (0, _)]) rfl ?_
              refine s104 _ ⟨by omega, hJ.2.2.1, fun q c1 c2 => (hJ.2.2.2.1 q c1).trans (hI.2.2.1 q c1 c2), fun d hd => ?_, fun p hp => ?_⟩
              · rw [hJ.2.2.2.2 d hd, hI.2.2.2.1 d hd, lN_add, hnext _ (fun _ _ _ _ => rfl) d hd, hl]; simp [hd]
              · rw [htk hl p hp, hJ.2.2.2.1 79 (by decide)]; exact hI.2.2.2.2 p hp
            · have hcn : c < zn F := by
                rw [nI_leI (by omega) (by omega)] at h56
                omega
              refine vq_aload_n d_M_descend_59 rfl ?_
              refine vq_iload d_M_descend_60 rfl ?_
              refine vq_iload_n d_M_descend_62 rfl ?_
              refine vq_callV (n := 2) (C := R_M) (T := T_M) _ _ d_M_descend_63 (ct_M_isChild l b id D hW hm2 hcn hi) w_790 w_792 sel_M_isChild w_793 w_7 rfl ⟨by decide, by decide, by decide +kernel⟩ ⟨by decide, by decide⟩ (by decide) rfl rfl rfl rfl (Nat.le_of_ble_eq_true rfl) rfl rfl rfl ⟨by decide, by decide⟩ (fun _ _ h => h.elim) (fun v63 g63 h63 => ?_)
              rw [h63.1, h63.2]
              refine vq_if_eq (tgt := 98) d_M_descend_66 (by decide) (fun h66 => ?_) (fun h66 => ?_)
              · have hch := bI_0.mp h66
                have hz : zk F e i c = false := by unfold zk; rw [hch]; simp
                refine vq_iinc (k := 0) (lv' := [(4, _), (2, _), (1, _), (0, _)]) d_M_descend_98 rfl (ip1 c) (by decide) rfl ?_
                refine vq_goto (tgt := 50) d_M_descend_101 (by decide) ?_
                refine ih8 (zn F - (c + 1)) (by omega) (c + 1) _ rfl ⟨by omega, by omega, hJ.2.2.1, fun q hq => ?_, fun d hd => ?_⟩
                · first | exact hJ.2.2.2.1 q hq | (rw [sJ_n hq]; exact hJ.2.2.2.1 q hq)
                · by_cases ec : d = c
                  · subst ec
                    have h9 := hJ.2.2.2.2 d hd
                    rw [if_neg (by omega)] at h9
                    first | (rw [if_neg (by rw [hz]; simp)]; exact h9) | (rw [if_pos ⟨by omega, hz⟩, sJ_s, vp_updL, if_pos rfl, h9]; rw [show lN 0 = 0 from rfl, Int64.add_zero])
                  · have h9 := hJ.2.2.2.2 d hd
                    have h8 : (d < c + 1 ∧ zk F e i d = true) ↔ (d < c ∧ zk F e i d = true) := by
                      constructor
                      · rintro ⟨a, d9⟩; exact ⟨by omega, d9⟩
                      · rintro ⟨a, d9⟩; exact ⟨by omega, d9⟩
                    first | (simp only [h8]; exact h9) | (rw [sJ_s, vp_updL, if_neg ec]; simp only [h8]; exact h9)
              · have hch := bI_n0.mp h66
                refine vq_aload_n d_M_descend_69 rfl ?_
                refine vq_getR (k := 12) (C := R_M) (T := T_M) d_M_descend_70 rfl in_M w_667 (by decide) rfl (by decide) rfl rfl ?_
                refine vq_iload d_M_descend_73 rfl ?_
                refine vq_zald d_M_descend_75 (by decide) rfl rfl (show _ < 80 by omega) ?_
                refine vq_int (y := bI (zX F e c)) (by rw [hJ.2.2.1]; exact hk.2.2 c hcn) ?_
                refine vq_if_eq (tgt := 98) d_M_descend_76 (by decide) (fun h76 => ?_) (fun h76 => ?_)
                · have hx0 := bI_0.mp h76
                  have hz : zk F e i c = false := by unfold zk; rw [hch, show zX F e c = _ from hx0]; simp; try omega
                  refine vq_iinc (k := 0) (lv' := [(4, _), (2, _), (1, _), (0, _)]) d_M_descend_98 rfl (ip1 c) (by decide) rfl ?_
                  refine vq_goto (tgt := 50) d_M_descend_101 (by decide) ?_
                  refine ih8 (zn F - (c + 1)) (by omega) (c + 1) _ rfl ⟨by omega, by omega, hJ.2.2.1, fun q hq => ?_, fun d hd => ?_⟩
                  · first | exact hJ.2.2.2.1 q hq | (rw [sJ_n hq]; exact hJ.2.2.2.1 q hq)
                  · by_cases ec : d = c
                    · subst ec
                      have h9 := hJ.2.2.2.2 d hd
                      rw [if_neg (by omega)] at h9
                      first | (rw [if_neg (by rw [hz]; simp)]; exact h9) | (rw [if_pos ⟨by omega, hz⟩, sJ_s, vp_updL, if_pos rfl, h9]; rw [show lN 0 = 0 from rfl, Int64.add_zero])
                    · have h9 := hJ.2.2.2.2 d hd
                      have h8 : (d < c + 1 ∧ zk F e i d = true) ↔ (d < c ∧ zk F e i d = true) := by
                        constructor
                        · rintro ⟨a, d9⟩; exact ⟨by omega, d9⟩
                        · rintro ⟨a, d9⟩; exact ⟨by omega, d9⟩
                      first | (simp only [h8]; exact h9) | (rw [sJ_s, vp_updL, if_neg ec]; simp only [h8]; exact h9)
                · have hx0 := bI_n0.mp h76
                  have hz : zk F e i c = true := by unfold zk; rw [hch, show zX F e c = _ from hx0]; simp; try omega
                  have hBp := zB_pos hcn hz
                  refine vq_aload_n d_M_descend_79 rfl ?_
                  refine vq_getR (k := 13) (C := R_M) (T := T_M) d_M_descend_80 rfl in_M w_668 (by decide) rfl (by decide) rfl rfl ?_
                  refine vq_iload d_M_descend_83 rfl ?_
                  refine vq_dup2_11 d_M_descend_85 rfl rfl ?_
                  refine vq_lald d_M_descend_86 (by decide) rfl rfl (show _ < 80 by omega) ?_
                  refine vq_lload_n d_M_descend_87 rfl ?_
                  refine vq_aload_n d_M_descend_88 rfl ?_
                  refine vq_getR (k := 11) (C := R_M) (T := T_M) d_M_descend_89 rfl in_M w_666 (by decide) rfl (by decide) rfl rfl ?_
                  refine vq_iload_n d_M_descend_92 rfl ?_
                  refine vq_iald d_M_descend_93 (by decide) rfl rfl (show _ < 20 by omega) ?_
                  refine vq_int (y := nI (zB F e i)) (by rw [hJ.2.2.1]; exact hk.2.1 i hi) ?_
                  refine vq_i2l d_M_descend_94 (nI_l (by omega)) ?_
                  refine vq_ldiv d_M_descend_95 (lN_ne0 hBp (by omega)) ?_
                  rw [pk_lDiv hb63 hBp (by omega)]
                  refine vq_ladd d_M_descend_96 ?_
                  refine vq_last d_M_descend_97 rfl (by decide) rfl rfl (show _ < 80 by omega) ?_
                  refine vq_iinc (k := 0) (lv' := [(4, _), (2, _), (1, _), (0, _)]) d_M_descend_98 rfl (ip1 c) (by decide) rfl ?_
                  refine vq_goto (tgt := 50) d_M_descend_101 (by decide) ?_
                  refine ih8 (zn F - (c + 1)) (by omega) (c + 1) _ rfl ⟨by omega, by omega, hJ.2.2.1, fun q hq => ?_, fun d hd => ?_⟩
                  · first | exact hJ.2.2.2.1 q hq | (rw [sJ_n hq]; exact hJ.2.2.2.1 q hq)
                  · by_cases ec : d = c
                    · subst ec
                      have h9 := hJ.2.2.2.2 d hd
                      rw [if_neg (by omega)] at h9
                      first | (rw [if_neg (by rw [hz]; simp)]; exact h9) | (rw [if_pos ⟨by omega, hz⟩, sJ_s, vp_updL, if_pos rfl, h9]; rw [show lN 0 = 0 from rfl, Int64.add_zero])
                    · have h9 := hJ.2.2.2.2 d hd
                      have h8 : (d < c + 1 ∧ zk F e i d = true) ↔ (d < c ∧ zk F e i d = true) := by
                        constructor
                        · rintro ⟨a, d9⟩; exact ⟨by omega, d9⟩
                        · rintro ⟨a, d9⟩; exact ⟨by omega, d9⟩
                      first | (simp only [h8]; exact h9) | (rw [sJ_s, vp_updL, if_neg ec]; simp only [h8]; exact h9)
          refine vq_iload_n d_M_descend_45 rfl ?_
          refine vq_iconst (v := 1) d_M_descend_46 (by decide) ?_
          refine vq_iadd d_M_descend_47 ?_
          rw [nI_1]
          refine vq_istore (lv' := [(4, _), (2, _), (1, _), (0, _)]) d_M_descend_48 (by decide) rfl ?_
          refine inner (zn F - (i + 1)) (i + 1) _ rfl ⟨by omega, by omega, hI.2.1, fun q hq => rfl, fun d hd => ?_⟩
          have h8 : ¬ (d < i + 1 ∧ zk F e i d = true) := by rintro ⟨a, d9⟩; have := zk_lt d9; omega
          rw [if_neg h8, show lN 0 = 0 from rfl, Int64.add_zero]
      · have hl := bI_n0.mp h23
        refine vq_aload_n d_M_descend_26 rfl ?_
        refine vq_getR (k := 14) (C := R_M) (T := T_M) d_M_descend_27 rfl in_M w_669 (by decide) rfl (by decide) rfl rfl ?_
        refine vq_iload_n d_M_descend_30 rfl ?_
        refine vq_dup2_11 d_M_descend_31 rfl rfl ?_
        refine vq_lald d_M_descend_32 (by decide) rfl rfl (show _ < 20 by omega) ?_
        refine vq_long (y := lN (T i)) ht0 ?_
        refine vq_lload_n d_M_descend_33 rfl ?_
        refine vq_ladd d_M_descend_34 ?_
        rw [lN_add]
        refine vq_last d_M_descend_35 rfl (by decide) rfl rfl (show _ < 20 by omega) ?_
        refine vq_goto (tgt := 104) d_M_descend_36 (by decide) ?_
        refine vq_pk [1, 2] (lv' := [(1, _), (0, _)]) rfl ?_
        first
          | exact s104 _ ⟨by omega, hI.2.1, hI.2.2.1, fun c hcn => by rw [hst c hcn]; exact hI.2.2.2.1 c hcn, fun p hp => by rw [htk hl p hp]; exact hI.2.2.2.2 p hp⟩
          | (refine s104 _ ⟨by omega, hI.2.1, fun q c1 c2 => by rw [sJ_n c2]; exact hI.2.2.1 q c1 c2, fun c hcn => ?_, fun p hp => ?_⟩
             · rw [sJ_n (by decide), hnext 0 (fun _ _ _ h9 => by rw [hl] at h9; cases h9) c hcn, hI.2.2.2.1 c hcn, hl]; simp
             · by_cases e1 : p = i
               · rw [e1, sJ_s, vp_updL, if_pos rfl]; simp [hl]
               · have h8 : decide (p < i + 1) = decide (p < i) := by simp; omega
                 rw [sJ_s, vp_updL, if_neg e1, h8]; exact hI.2.2.2.2 p hp)
  refine vq_iconst (v := 0) d_M_descend_0 (by decide) ?_
  refine vq_istore_n (lv' := [(1, _), (0, _)]) d_M_descend_1 (by decide) rfl ?_
  exact loop (zn F) 0 _ rfl ⟨by omega, rfl, fun q c1 c2 => rfl, fun c hcn => hP c hcn, fun p hp => by rw [if_neg (by simp)]; exact hT p hp⟩
