/-! the reference's plain calls. Laid by wip/whole/specs/p42.py -/
theorem mF {C : Nat} (h : C = 0) {A Z : Option Value} : A = (if C = 0 then A else Z) := by rw [if_pos h]
theorem mZ {C : Nat} (h : C ≠ 0) {A Z : Option Value} : Z = (if C = 0 then A else Z) := by rw [if_neg h]
theorem k_amend_0 {F : Fam} {x y w : Int32} (hk : k_amend F x y w = 0) : zok F x ∧ zpa (zi x) y w := by
  unfold k_amend at hk
  by_cases h9 : zok F x ∧ zpa (zi x) y w
  · exact h9
  · rw [if_neg h9] at hk; cases hk
theorem zdv_d {F : Fam} {p : Nat} (h : zd F p ≠ none) : zdv F p = none := by
  unfold zdv
  split
  · rfl
  · exact if_neg (fun hh => h (by cases hq : zd F p with | none => rfl | some t => rw [hq] at hh; cases hh.1))
theorem Hm.thr {g : Sg} {F : Fam} (h : Hm g F) (x : Int32) : Hm (sI g 67 (upd (g.1 67) 0 x)) F := h.congr rfl (fun q h1 h2 => sI_n (by omega))
theorem Dn.thr {g : Sg} (x : Int32) : Dn g (sI g 67 (upd (g.1 67) 0 x)) := fun q hq => ⟨sI_n (by omega), rfl⟩
set_option maxRecDepth 100000 in
set_option maxHeartbeats 4000000 in
theorem ct_M_person (l : Launch) (b : Nat) (id : Nat → ClassId) (D : va_G) {g : Sg} {F : Fam} (hV : zV F) (hm : Hm g F) {k : Lg} (hl : Hn g k) (x y : Int32) : qCT l b id D m_M_person false [.ref (b + 67), .int x, .int y] 85 kT g 85 kT (mP (k_person F x y) (some (.int (nI (zn F)))) (some (.int 0)) g (f_person F x y) k) (fun _ _ => False) := by
  have hW := hV.1
  have hn := hW.1
  have h31 : zn F < 2 ^ 31 := by omega
  refine qCT_of rfl (by decide) (Nat.le_of_ble_eq_true rfl) ?_
  show Vq l b id D m_M_person false 85 kT _ 85 kT _ 85 kT 0 0 0 [(0, .ref (b + 67)), (1, .int x), (2, .int y)] [] g
  have s41 : ∀ (c : Bool), ((c = true → ¬ zpa (zn F) x y) ∧ (c = false → zpa (zn F) x y)) → Vq l b id D m_M_person false 85 kT (mP (k_person F x y) (some (.int (nI (zn F)))) (some (.int 0)) g (f_person F x y) k) 85 kT (fun _ _ => False) 85 kT 0 0 41 [(0, .ref (b + 67)), (1, .int x), (2, .int y)] [.int (bI c)] g := by
    intro c hw
    refine vq_istore_n (lv' := [(3, _), (0, _), (1, _), (2, _)]) d_M_person_41 (by decide) rfl ?_
    refine vq_aload_n d_M_person_42 rfl ?_
    refine vq_iload_n d_M_person_43 rfl ?_
    refine vq_if_eq (tgt := 51) d_M_person_44 (by decide) (fun h44 => ?_) (fun h44 => ?_)
    · rw [bI_0] at h44
      have hp := hw.2 h44
      refine vq_aload_n d_M_person_51 rfl ?_
      refine vq_getI (k := 1) (C := R_M) (T := T_M) d_M_person_52 rfl in_M w_656 (by decide) rfl (by decide) rfl ?_
      refine vq_int (y := nI (zn F)) hm.1 ?_
      refine vq_bipush (v := 20) d_M_person_55 (by decide) ?_
      refine vq_icmp_ne (tgt := 64) d_M_person_57 (by decide) (fun h57 => ?_) (fun h57 => ?_)
      · rw [show (20 : Int32) = nI 20 from rfl, nI_eq (by omega) (by decide)] at h57
        have hk : k_person F x y = 0 := by unfold k_person; rw [if_pos hp, if_neg h57]
        refine vq_iconst (v := 0) d_M_person_64 (by decide) ?_
        refine vq_putI (k := 0) (C := R_M) (T := T_M) (ty := .int) t_M d_M_person_65 rfl in_M w_655 ty_M nm_M (by decide) rfl (by decide) rfl (by decide +kernel) rfl rfl rfl ?_
        refine vq_aload_n d_M_person_68 rfl ?_
        refine vq_getI (k := 0) (C := R_M) (T := T_M) d_M_person_69 rfl in_M w_655 (by decide) rfl (by decide) rfl ?_
        refine vq_int (y := 0) rfl ?_
        refine vq_if_le (tgt := 77) d_M_person_72 (by decide) (fun h72 => ?_) (fun h72 => absurd h72 (by decide))
        refine vq_aload_n d_M_person_77 rfl ?_
        refine vq_getR (k := 2) (C := R_M) (T := T_M) d_M_person_78 rfl in_M w_657 (by decide) rfl (by decide) rfl rfl ?_
        refine vq_aload_n d_M_person_81 rfl ?_
        refine vq_getI (k := 1) (C := R_M) (T := T_M) d_M_person_82 rfl in_M w_656 (by decide) rfl (by decide) rfl ?_
        refine vq_int (y := nI (zn F)) hm.1 ?_
        refine vq_iload_n d_M_person_85 rfl ?_
        refine vq_iast d_M_person_86 rfl (by decide) rfl rfl (show _ < 20 by omega) ?_
        refine vq_aload_n d_M_person_87 rfl ?_
        refine vq_getR (k := 3) (C := R_M) (T := T_M) d_M_person_88 rfl in_M w_658 (by decide) rfl (by decide) rfl rfl ?_
        refine vq_aload_n d_M_person_91 rfl ?_
        refine vq_getI (k := 1) (C := R_M) (T := T_M) d_M_person_92 rfl in_M w_656 (by decide) rfl (by decide) rfl ?_
        refine vq_int (y := nI (zn F)) hm.1 ?_
        refine vq_iload_n d_M_person_95 rfl ?_
        refine vq_iast d_M_person_96 rfl (by decide) rfl rfl (show _ < 20 by omega) ?_
        refine vq_aload_n d_M_person_97 rfl ?_
        refine vq_getR (k := 4) (C := R_M) (T := T_M) d_M_person_98 rfl in_M w_659 (by decide) rfl (by decide) rfl rfl ?_
        refine vq_aload_n d_M_person_101 rfl ?_
        refine vq_getI (k := 1) (C := R_M) (T := T_M) d_M_person_102 rfl in_M w_656 (by decide) rfl (by decide) rfl ?_
        refine vq_int (y := nI (zn F)) hm.1 ?_
        refine vq_iconst (v := -1) d_M_person_105 (by decide) ?_
        refine vq_iast d_M_person_106 rfl (by decide) rfl rfl (show _ < 20 by omega) ?_
        refine vq_aload_n d_M_person_107 rfl ?_
        refine vq_getR (k := 5) (C := R_M) (T := T_M) d_M_person_108 rfl in_M w_660 (by decide) rfl (by decide) rfl rfl ?_
        refine vq_aload_n d_M_person_111 rfl ?_
        refine vq_getI (k := 1) (C := R_M) (T := T_M) d_M_person_112 rfl in_M w_656 (by decide) rfl (by decide) rfl ?_
        refine vq_int (y := nI (zn F)) hm.1 ?_
        refine vq_iconst (v := -1) d_M_person_115 (by decide) ?_
        refine vq_iast d_M_person_116 rfl (by decide) rfl rfl (show _ < 20 by omega) ?_
        refine vq_aload_n d_M_person_117 rfl ?_
        refine vq_getR (k := 6) (C := R_M) (T := T_M) d_M_person_118 rfl in_M w_661 (by decide) rfl (by decide) rfl rfl ?_
        refine vq_aload_n d_M_person_121 rfl ?_
        refine vq_getI (k := 1) (C := R_M) (T := T_M) d_M_person_122 rfl in_M w_656 (by decide) rfl (by decide) rfl ?_
        refine vq_int (y := nI (zn F)) hm.1 ?_
        refine vq_iconst (v := 0) d_M_person_125 (by decide) ?_
        refine vq_iast d_M_person_126 rfl (by decide) rfl rfl (show _ < 20 by omega) ?_
        refine vq_aload_n d_M_person_127 rfl ?_
        refine vq_dup d_M_person_128 rfl ?_
        refine vq_getI (k := 1) (C := R_M) (T := T_M) d_M_person_129 rfl in_M w_656 (by decide) rfl (by decide) rfl ?_
        refine vq_int (y := nI (zn F)) hm.1 ?_
        refine vq_iconst (v := 1) d_M_person_132 (by decide) ?_
        refine vq_iadd d_M_person_133 ?_
        rw [show nI (zn F) + 1 = nI (zn F + 1) from nI_1 _]
        refine vq_putI (k := 1) (C := R_M) (T := T_M) (ty := .int) t_M d_M_person_134 rfl in_M w_656 ty_M nm_M (by decide) rfl (by decide) rfl (by decide +kernel) rfl rfl rfl ?_
        refine vq_aload_n d_M_person_137 rfl ?_
        refine vq_getI (k := 1) (C := R_M) (T := T_M) d_M_person_138 rfl in_M w_656 (by decide) rfl (by decide) rfl ?_
        refine vq_int (y := nI (zn F + 1)) rfl ?_
        refine vq_iconst (v := 1) d_M_person_141 (by decide) ?_
        refine vq_isub d_M_person_142 ?_
        rw [show nI (zn F + 1) - 1 = nI (zn F) by rw [← nI_1, Int32.add_sub_cancel]]
        refine vq_iret d_M_person_143 rfl (by decide) (by decide) rfl rfl ?_
        obtain ⟨p1, p2, p3⟩ := zpa_u.mp hp
        obtain ⟨c1, c2, c3, c4, c5, c6, c7, c8⟩ := hm
        have hF : f_person F x y = (zn F + 1, zset (za F) (zn F) (zop x), zset (zb F) (zn F) (zop y), zset (zs F) (zn F) none, zset (zd F) (zn F) none, zo F, zg F, zx F) := if_pos hk
        rw [hF, hk]
        refine ⟨rfl, rfl, ⟨rfl, fun p hp => ?_, fun p hp => ?_, fun p hp => ?_, fun p hp => ?_, fun p hp => ?_, c7, c8⟩, hl, fun q hq => ⟨?_, rfl⟩⟩
        · show upd (g.1 68) (zn F) x p = eO (zset (za F) (zn F) (zop x) p)
          replace hp : p < zn F + 1 := hp
          rw [upd]
          by_cases e : p = zn F
          · rw [if_pos e, e, zset_s, zop_e p1]
          · rw [if_neg e, zset_n e]; exact c2 p (by omega)
        · show upd (g.1 69) (zn F) y p = eO (zset (zb F) (zn F) (zop y) p)
          replace hp : p < zn F + 1 := hp
          rw [upd]
          by_cases e : p = zn F
          · rw [if_pos e, e, zset_s, zop_e p2]
          · rw [if_neg e, zset_n e]; exact c3 p (by omega)
        · show upd (g.1 70) (zn F) (-1) p = eO (zset (zs F) (zn F) none p)
          replace hp : p < zn F + 1 := hp
          rw [upd]
          by_cases e : p = zn F
          · rw [if_pos e, e, zset_s]; rfl
          · rw [if_neg e, zset_n e]; exact c4 p (by omega)
        · show upd (g.1 71) (zn F) (-1) p = eO (zset (zd F) (zn F) none p)
          replace hp : p < zn F + 1 := hp
          rw [upd]
          by_cases e : p = zn F
          · rw [if_pos e, e, zset_s]; rfl
          · rw [if_neg e, zset_n e]; exact c5 p (by omega)
        · show upd (g.1 72) (zn F) 0 p = nI (zo F p)
          replace hp : p < zn F + 1 := hp
          rw [upd]
          by_cases e : p = zn F
          · rw [if_pos e, e, hV.2 (zn F) (Nat.le_refl _)]; rfl
          · rw [if_neg e]; exact c6 p (by omega)
        · rw [sI_n (by omega), sI_n (by omega), sI_n (by omega), sI_n (by omega), sI_n (by omega), sI_n (by omega), sI_n (by omega)]
      · rw [show (20 : Int32) = nI 20 from rfl, nI_eq (by omega) (by decide)] at h57
        have hk : k_person F x y = 2 := by unfold k_person; rw [if_pos hp, if_pos h57]
        refine vq_iconst (v := 2) d_M_person_60 (by decide) ?_
        refine vq_goto (tgt := 65) d_M_person_61 (by decide) ?_
        refine vq_putI (k := 0) (C := R_M) (T := T_M) (ty := .int) t_M d_M_person_65 rfl in_M w_655 ty_M nm_M (by decide) rfl (by decide) rfl (by decide +kernel) rfl rfl rfl ?_
        refine vq_aload_n d_M_person_68 rfl ?_
        refine vq_getI (k := 0) (C := R_M) (T := T_M) d_M_person_69 rfl in_M w_655 (by decide) rfl (by decide) rfl ?_
        refine vq_int (y := 2) rfl ?_
        refine vq_if_le (tgt := 77) d_M_person_72 (by decide) (fun h72 => absurd h72 (by decide)) (fun h72 => ?_)
        refine vq_iconst (v := 0) d_M_person_75 (by decide) ?_
        refine vq_iret d_M_person_76 rfl (by decide) (by decide) rfl rfl ?_
        have hk : k_person F x y = 2 := by first | assumption | omega
        have hF : f_person F x y = F := by unfold f_person; rw [if_neg (by rw [hk]; decide)]
        rw [hF, hk]
        exact ⟨rfl, rfl, hm.thr _, hl, Dn.thr _⟩
    · rw [bI_n0] at h44
      have hp := hw.1 h44
      have hk : k_person F x y = 1 := by unfold k_person; rw [if_neg hp]
      refine vq_iconst (v := 1) d_M_person_47 (by decide) ?_
      refine vq_goto (tgt := 65) d_M_person_48 (by decide) ?_
      refine vq_putI (k := 0) (C := R_M) (T := T_M) (ty := .int) t_M d_M_person_65 rfl in_M w_655 ty_M nm_M (by decide) rfl (by decide) rfl (by decide +kernel) rfl rfl rfl ?_
      refine vq_aload_n d_M_person_68 rfl ?_
      refine vq_getI (k := 0) (C := R_M) (T := T_M) d_M_person_69 rfl in_M w_655 (by decide) rfl (by decide) rfl ?_
      refine vq_int (y := 1) rfl ?_
      refine vq_if_le (tgt := 77) d_M_person_72 (by decide) (fun h72 => absurd h72 (by decide)) (fun h72 => ?_)
      refine vq_iconst (v := 0) d_M_person_75 (by decide) ?_
      refine vq_iret d_M_person_76 rfl (by decide) (by decide) rfl rfl ?_
      have hk : k_person F x y = 1 := by first | assumption | omega
      have hF : f_person F x y = F := by unfold f_person; rw [if_neg (by rw [hk]; decide)]
      rw [hF, hk]
      exact ⟨rfl, rfl, hm.thr _, hl, Dn.thr _⟩
  refine vq_iload_n d_M_person_0 rfl ?_
  refine vq_iconst (v := -1) d_M_person_1 (by decide) ?_
  refine vq_icmp_eq (tgt := 13) d_M_person_2 (by decide) (fun h2 => ?_) (fun h2 => ?_)
  · simp only [Int32.lt_iff_toInt_lt, Int32.le_iff_toInt_le, ← Int32.toInt_inj, tI0, tI1, tIm1, tI999, tIm, tI20] at h2
    refine vq_iload_n d_M_person_13 rfl ?_
    refine vq_iconst (v := -1) d_M_person_14 (by decide) ?_
    refine vq_icmp_eq (tgt := 26) d_M_person_15 (by decide) (fun h15 => ?_) (fun h15 => ?_)
    · simp only [Int32.lt_iff_toInt_lt, Int32.le_iff_toInt_le, ← Int32.toInt_inj, tI0, tI1, tIm1, tI999, tIm, tI20] at h15
      refine vq_iload_n d_M_person_26 rfl ?_
      refine vq_iload_n d_M_person_27 rfl ?_
      refine vq_icmp_ne (tgt := 40) d_M_person_28 (by decide) (fun h28 => ?_) (fun h28 => ?_)
      · simp only [Int32.lt_iff_toInt_lt, Int32.le_iff_toInt_le, ← Int32.toInt_inj, tI0, tI1, tIm1, tI999, tIm, tI20] at h28
        refine vq_iconst (v := 0) d_M_person_40 (by decide) ?_
        first
          | exact s41 true ⟨fun _ h => by have h9 := zpa_u.mp h; have h8 := zpo_u.mp h9.1; have h7 := zpo_u.mp h9.2.1; omega, (fun h => nomatch h)⟩
          | exact s41 false ⟨(fun h => nomatch h), fun _ => zpa_u.mpr ⟨zpo_u.mpr (by omega), zpo_u.mpr (by omega), by omega⟩⟩
      · simp only [Int32.lt_iff_toInt_lt, Int32.le_iff_toInt_le, ← Int32.toInt_inj, tI0, tI1, tIm1, tI999, tIm, tI20] at h28
        refine vq_iload_n d_M_person_31 rfl ?_
        refine vq_iconst (v := -1) d_M_person_32 (by decide) ?_
        refine vq_icmp_eq (tgt := 40) d_M_person_33 (by decide) (fun h33 => ?_) (fun h33 => ?_)
        · simp only [Int32.lt_iff_toInt_lt, Int32.le_iff_toInt_le, ← Int32.toInt_inj, tI0, tI1, tIm1, tI999, tIm, tI20] at h33
          refine vq_iconst (v := 0) d_M_person_40 (by decide) ?_
          first
            | exact s41 true ⟨fun _ h => by have h9 := zpa_u.mp h; have h8 := zpo_u.mp h9.1; have h7 := zpo_u.mp h9.2.1; omega, (fun h => nomatch h)⟩
            | exact s41 false ⟨(fun h => nomatch h), fun _ => zpa_u.mpr ⟨zpo_u.mpr (by omega), zpo_u.mpr (by omega), by omega⟩⟩
        · simp only [Int32.lt_iff_toInt_lt, Int32.le_iff_toInt_le, ← Int32.toInt_inj, tI0, tI1, tIm1, tI999, tIm, tI20] at h33
          refine vq_iconst (v := 1) d_M_person_36 (by decide) ?_
          refine vq_goto (tgt := 41) d_M_person_37 (by decide) ?_
          first
            | exact s41 true ⟨fun _ h => by have h9 := zpa_u.mp h; have h8 := zpo_u.mp h9.1; have h7 := zpo_u.mp h9.2.1; omega, (fun h => nomatch h)⟩
            | exact s41 false ⟨(fun h => nomatch h), fun _ => zpa_u.mpr ⟨zpo_u.mpr (by omega), zpo_u.mpr (by omega), by omega⟩⟩
    · simp only [Int32.lt_iff_toInt_lt, Int32.le_iff_toInt_le, ← Int32.toInt_inj, tI0, tI1, tIm1, tI999, tIm, tI20] at h15
      refine vq_aload_n d_M_person_18 rfl ?_
      refine vq_iload_n d_M_person_19 rfl ?_
      refine vq_callV (n := 1) (C := R_M) (T := T_M) _ _ d_M_person_20 (ct_M_no l b id D hn hm y) w_733 w_735 sel_M_no w_736 w_7 rfl ⟨by decide, by decide, by decide +kernel⟩ ⟨by decide, by decide⟩ (by decide) rfl rfl rfl rfl (Nat.le_of_ble_eq_true rfl) rfl rfl rfl ⟨by decide, by decide⟩ (fun _ _ h => h.elim) (fun v20 g20 h20 => ?_)
      rw [h20.1, h20.2]
      refine vq_if_ne (tgt := 36) d_M_person_23 (by decide) (fun h23 => ?_) (fun h23 => ?_)
      · rw [bI_n0, no_t] at h23
        refine vq_iconst (v := 1) d_M_person_36 (by decide) ?_
        refine vq_goto (tgt := 41) d_M_person_37 (by decide) ?_
        first
          | exact s41 true ⟨fun _ h => by have h9 := zpa_u.mp h; have h8 := zpo_u.mp h9.1; have h7 := zpo_u.mp h9.2.1; omega, (fun h => nomatch h)⟩
          | exact s41 false ⟨(fun h => nomatch h), fun _ => zpa_u.mpr ⟨zpo_u.mpr (by omega), zpo_u.mpr (by omega), by omega⟩⟩
      · rw [bI_0, no_f] at h23
        refine vq_iload_n d_M_person_26 rfl ?_
        refine vq_iload_n d_M_person_27 rfl ?_
        refine vq_icmp_ne (tgt := 40) d_M_person_28 (by decide) (fun h28 => ?_) (fun h28 => ?_)
        · simp only [Int32.lt_iff_toInt_lt, Int32.le_iff_toInt_le, ← Int32.toInt_inj, tI0, tI1, tIm1, tI999, tIm, tI20] at h28
          refine vq_iconst (v := 0) d_M_person_40 (by decide) ?_
          first
            | exact s41 true ⟨fun _ h => by have h9 := zpa_u.mp h; have h8 := zpo_u.mp h9.1; have h7 := zpo_u.mp h9.2.1; omega, (fun h => nomatch h)⟩
            | exact s41 false ⟨(fun h => nomatch h), fun _ => zpa_u.mpr ⟨zpo_u.mpr (by omega), zpo_u.mpr (by omega), by omega⟩⟩
        · simp only [Int32.lt_iff_toInt_lt, Int32.le_iff_toInt_le, ← Int32.toInt_inj, tI0, tI1, tIm1, tI999, tIm, tI20] at h28
          refine vq_iload_n d_M_person_31 rfl ?_
          refine vq_iconst (v := -1) d_M_person_32 (by decide) ?_
          refine vq_icmp_eq (tgt := 40) d_M_person_33 (by decide) (fun h33 => ?_) (fun h33 => ?_)
          · simp only [Int32.lt_iff_toInt_lt, Int32.le_iff_toInt_le, ← Int32.toInt_inj, tI0, tI1, tIm1, tI999, tIm, tI20] at h33
            refine vq_iconst (v := 0) d_M_person_40 (by decide) ?_
            first
              | exact s41 true ⟨fun _ h => by have h9 := zpa_u.mp h; have h8 := zpo_u.mp h9.1; have h7 := zpo_u.mp h9.2.1; omega, (fun h => nomatch h)⟩
              | exact s41 false ⟨(fun h => nomatch h), fun _ => zpa_u.mpr ⟨zpo_u.mpr (by omega), zpo_u.mpr (by omega), by omega⟩⟩
          · simp only [Int32.lt_iff_toInt_lt, Int32.le_iff_toInt_le, ← Int32.toInt_inj, tI0, tI1, tIm1, tI999, tIm, tI20] at h33
            refine vq_iconst (v := 1) d_M_person_36 (by decide) ?_
            refine vq_goto (tgt := 41) d_M_person_37 (by decide) ?_
            first
              | exact s41 true ⟨fun _ h => by have h9 := zpa_u.mp h; have h8 := zpo_u.mp h9.1; have h7 := zpo_u.mp h9.2.1; omega, (fun h => nomatch h)⟩
              | exact s41 false ⟨(fun h => nomatch h), fun _ => zpa_u.mpr ⟨zpo_u.mpr (by omega), zpo_u.mpr (by omega), by omega⟩⟩
  · simp only [Int32.lt_iff_toInt_lt, Int32.le_iff_toInt_le, ← Int32.toInt_inj, tI0, tI1, tIm1, tI999, tIm, tI20] at h2
    refine vq_aload_n d_M_person_5 rfl ?_
    refine vq_iload_n d_M_person_6 rfl ?_
    refine vq_callV (n := 1) (C := R_M) (T := T_M) _ _ d_M_person_7 (ct_M_no l b id D hn hm x) w_733 w_735 sel_M_no w_736 w_7 rfl ⟨by decide, by decide, by decide +kernel⟩ ⟨by decide, by decide⟩ (by decide) rfl rfl rfl rfl (Nat.le_of_ble_eq_true rfl) rfl rfl rfl ⟨by decide, by decide⟩ (fun _ _ h => h.elim) (fun v7 g7 h7 => ?_)
    rw [h7.1, h7.2]
    refine vq_if_ne (tgt := 36) d_M_person_10 (by decide) (fun h10 => ?_) (fun h10 => ?_)
    · rw [bI_n0, no_t] at h10
      refine vq_iconst (v := 1) d_M_person_36 (by decide) ?_
      refine vq_goto (tgt := 41) d_M_person_37 (by decide) ?_
      first
        | exact s41 true ⟨fun _ h => by have h9 := zpa_u.mp h; have h8 := zpo_u.mp h9.1; have h7 := zpo_u.mp h9.2.1; omega, (fun h => nomatch h)⟩
        | exact s41 false ⟨(fun h => nomatch h), fun _ => zpa_u.mpr ⟨zpo_u.mpr (by omega), zpo_u.mpr (by omega), by omega⟩⟩
    · rw [bI_0, no_f] at h10
      refine vq_iload_n d_M_person_13 rfl ?_
      refine vq_iconst (v := -1) d_M_person_14 (by decide) ?_
      refine vq_icmp_eq (tgt := 26) d_M_person_15 (by decide) (fun h15 => ?_) (fun h15 => ?_)
      · simp only [Int32.lt_iff_toInt_lt, Int32.le_iff_toInt_le, ← Int32.toInt_inj, tI0, tI1, tIm1, tI999, tIm, tI20] at h15
        refine vq_iload_n d_M_person_26 rfl ?_
        refine vq_iload_n d_M_person_27 rfl ?_
        refine vq_icmp_ne (tgt := 40) d_M_person_28 (by decide) (fun h28 => ?_) (fun h28 => ?_)
        · simp only [Int32.lt_iff_toInt_lt, Int32.le_iff_toInt_le, ← Int32.toInt_inj, tI0, tI1, tIm1, tI999, tIm, tI20] at h28
          refine vq_iconst (v := 0) d_M_person_40 (by decide) ?_
          first
            | exact s41 true ⟨fun _ h => by have h9 := zpa_u.mp h; have h8 := zpo_u.mp h9.1; have h7 := zpo_u.mp h9.2.1; omega, (fun h => nomatch h)⟩
            | exact s41 false ⟨(fun h => nomatch h), fun _ => zpa_u.mpr ⟨zpo_u.mpr (by omega), zpo_u.mpr (by omega), by omega⟩⟩
        · simp only [Int32.lt_iff_toInt_lt, Int32.le_iff_toInt_le, ← Int32.toInt_inj, tI0, tI1, tIm1, tI999, tIm, tI20] at h28
          refine vq_iload_n d_M_person_31 rfl ?_
          refine vq_iconst (v := -1) d_M_person_32 (by decide) ?_
          refine vq_icmp_eq (tgt := 40) d_M_person_33 (by decide) (fun h33 => ?_) (fun h33 => ?_)
          · simp only [Int32.lt_iff_toInt_lt, Int32.le_iff_toInt_le, ← Int32.toInt_inj, tI0, tI1, tIm1, tI999, tIm, tI20] at h33
            refine vq_iconst (v := 0) d_M_person_40 (by decide) ?_
            first
              | exact s41 true ⟨fun _ h => by have h9 := zpa_u.mp h; have h8 := zpo_u.mp h9.1; have h7 := zpo_u.mp h9.2.1; omega, (fun h => nomatch h)⟩
              | exact s41 false ⟨(fun h => nomatch h), fun _ => zpa_u.mpr ⟨zpo_u.mpr (by omega), zpo_u.mpr (by omega), by omega⟩⟩
          · simp only [Int32.lt_iff_toInt_lt, Int32.le_iff_toInt_le, ← Int32.toInt_inj, tI0, tI1, tIm1, tI999, tIm, tI20] at h33
            refine vq_iconst (v := 1) d_M_person_36 (by decide) ?_
            refine vq_goto (tgt := 41) d_M_person_37 (by decide) ?_
            first
              | exact s41 true ⟨fun _ h => by have h9 := zpa_u.mp h; have h8 := zpo_u.mp h9.1; have h7 := zpo_u.mp h9.2.1; omega, (fun h => nomatch h)⟩
              | exact s41 false ⟨(fun h => nomatch h), fun _ => zpa_u.mpr ⟨zpo_u.mpr (by omega), zpo_u.mpr (by omega), by omega⟩⟩
      · simp only [Int32.lt_iff_toInt_lt, Int32.le_iff_toInt_le, ← Int32.toInt_inj, tI0, tI1, tIm1, tI999, tIm, tI20] at h15
        refine vq_aload_n d_M_person_18 rfl ?_
        refine vq_iload_n d_M_person_19 rfl ?_
        refine vq_callV (n := 1) (C := R_M) (T := T_M) _ _ d_M_person_20 (ct_M_no l b id D hn hm y) w_733 w_735 sel_M_no w_736 w_7 rfl ⟨by decide, by decide, by decide +kernel⟩ ⟨by decide, by decide⟩ (by decide) rfl rfl rfl rfl (Nat.le_of_ble_eq_true rfl) rfl rfl rfl ⟨by decide, by decide⟩ (fun _ _ h => h.elim) (fun v20 g20 h20 => ?_)
        rw [h20.1, h20.2]
        refine vq_if_ne (tgt := 36) d_M_person_23 (by decide) (fun h23 => ?_) (fun h23 => ?_)
        · rw [bI_n0, no_t] at h23
          refine vq_iconst (v := 1) d_M_person_36 (by decide) ?_
          refine vq_goto (tgt := 41) d_M_person_37 (by decide) ?_
          first
            | exact s41 true ⟨fun _ h => by have h9 := zpa_u.mp h; have h8 := zpo_u.mp h9.1; have h7 := zpo_u.mp h9.2.1; omega, (fun h => nomatch h)⟩
            | exact s41 false ⟨(fun h => nomatch h), fun _ => zpa_u.mpr ⟨zpo_u.mpr (by omega), zpo_u.mpr (by omega), by omega⟩⟩
        · rw [bI_0, no_f] at h23
          refine vq_iload_n d_M_person_26 rfl ?_
          refine vq_iload_n d_M_person_27 rfl ?_
          refine vq_icmp_ne (tgt := 40) d_M_person_28 (by decide) (fun h28 => ?_) (fun h28 => ?_)
          · simp only [Int32.lt_iff_toInt_lt, Int32.le_iff_toInt_le, ← Int32.toInt_inj, tI0, tI1, tIm1, tI999, tIm, tI20] at h28
            refine vq_iconst (v := 0) d_M_person_40 (by decide) ?_
            first
              | exact s41 true ⟨fun _ h => by have h9 := zpa_u.mp h; have h8 := zpo_u.mp h9.1; have h7 := zpo_u.mp h9.2.1; omega, (fun h => nomatch h)⟩
              | exact s41 false ⟨(fun h => nomatch h), fun _ => zpa_u.mpr ⟨zpo_u.mpr (by omega), zpo_u.mpr (by omega), by omega⟩⟩
          · simp only [Int32.lt_iff_toInt_lt, Int32.le_iff_toInt_le, ← Int32.toInt_inj, tI0, tI1, tIm1, tI999, tIm, tI20] at h28
            refine vq_iload_n d_M_person_31 rfl ?_
            refine vq_iconst (v := -1) d_M_person_32 (by decide) ?_
            refine vq_icmp_eq (tgt := 40) d_M_person_33 (by decide) (fun h33 => ?_) (fun h33 => ?_)
            · simp only [Int32.lt_iff_toInt_lt, Int32.le_iff_toInt_le, ← Int32.toInt_inj, tI0, tI1, tIm1, tI999, tIm, tI20] at h33
              refine vq_iconst (v := 0) d_M_person_40 (by decide) ?_
              first
                | exact s41 true ⟨fun _ h => by have h9 := zpa_u.mp h; have h8 := zpo_u.mp h9.1; have h7 := zpo_u.mp h9.2.1; omega, (fun h => nomatch h)⟩
                | exact s41 false ⟨(fun h => nomatch h), fun _ => zpa_u.mpr ⟨zpo_u.mpr (by omega), zpo_u.mpr (by omega), by omega⟩⟩
            · simp only [Int32.lt_iff_toInt_lt, Int32.le_iff_toInt_le, ← Int32.toInt_inj, tI0, tI1, tIm1, tI999, tIm, tI20] at h33
              refine vq_iconst (v := 1) d_M_person_36 (by decide) ?_
              refine vq_goto (tgt := 41) d_M_person_37 (by decide) ?_
              first
                | exact s41 true ⟨fun _ h => by have h9 := zpa_u.mp h; have h8 := zpo_u.mp h9.1; have h7 := zpo_u.mp h9.2.1; omega, (fun h => nomatch h)⟩
                | exact s41 false ⟨(fun h => nomatch h), fun _ => zpa_u.mpr ⟨zpo_u.mpr (by omega), zpo_u.mpr (by omega), by omega⟩⟩
set_option maxRecDepth 100000 in
set_option maxHeartbeats 4000000 in
theorem ct_M_amend (l : Launch) (b : Nat) (id : Nat → ClassId) (D : va_G) {g : Sg} {F : Fam} (hV : zV F) (hm : Hm g F) {k : Lg} (hl : Hn g k) (x y w : Int32) : qCT l b id D m_M_amend false [.ref (b + 67), .int x, .int y, .int w] 85 kT g 85 kT (mP (k_amend F x y w) none none g (f_amend F x y w) k) (fun _ _ => False) := by
  have hW := hV.1
  have hn := hW.1
  have h31 : zn F < 2 ^ 31 := by omega
  refine qCT_of rfl (by decide) (Nat.le_of_ble_eq_true rfl) ?_
  show Vq l b id D m_M_amend false 85 kT _ 85 kT _ 85 kT 0 0 0 [(0, .ref (b + 67)), (1, .int x), (2, .int y), (3, .int w)] [] g
  have s72 : ∀ (c : Bool), ((c = true → k_amend F x y w = 1) ∧ (c = false → k_amend F x y w = 0)) → Vq l b id D m_M_amend false 85 kT (mP (k_amend F x y w) none none g (f_amend F x y w) k) 85 kT (fun _ _ => False) 85 kT 0 0 72 [(0, .ref (b + 67)), (1, .int x), (2, .int y), (3, .int w)] [.int (bI c), .ref (b + 67)] g := by
    intro c hw
    refine vq_putI (k := 0) (C := R_M) (T := T_M) (ty := .int) t_M d_M_amend_72 rfl in_M w_655 ty_M nm_M (by decide) rfl (by decide) rfl (by decide +kernel) rfl rfl rfl ?_
    refine vq_aload_n d_M_amend_75 rfl ?_
    refine vq_getI (k := 0) (C := R_M) (T := T_M) d_M_amend_76 rfl in_M w_655 (by decide) rfl (by decide) rfl ?_
    refine vq_int (y := bI c) rfl ?_
    refine vq_if_ne (tgt := 96) d_M_amend_79 (by decide) (fun h79 => ?_) (fun h79 => ?_)
    · refine vq_vret d_M_amend_96 rfl (by decide) (by decide) rfl rfl ?_
      have hk := hw.1 (show c = true by cases c <;> first | rfl | exact absurd rfl h79)
      have hF : f_amend F x y w = F := by unfold f_amend; rw [if_neg (by rw [hk]; decide)]
      rw [hF, hk]
      refine ⟨rfl, ?_, hm.thr _, hl, Dn.thr _⟩
      rw [show c = true by cases c <;> first | rfl | exact absurd rfl h79]
      rfl
    · have hk := hw.2 (bI_0.mp h79)
      have hq := k_amend_0 hk
      obtain ⟨hx, hpa⟩ := hq
      obtain ⟨p, hp, rfl⟩ := zok_p hx
      have hzp : zi (nI p) = p := zi_nI (by omega)
      rw [hzp] at hpa
      obtain ⟨p1, p2, p3⟩ := zpa_u.mp hpa
      refine vq_aload_n d_M_amend_82 rfl ?_
      refine vq_getR (k := 2) (C := R_M) (T := T_M) d_M_amend_83 rfl in_M w_657 (by decide) rfl (by decide) rfl rfl ?_
      refine vq_iload_n d_M_amend_86 rfl ?_
      refine vq_iload_n d_M_amend_87 rfl ?_
      refine vq_iast d_M_amend_88 rfl (by decide) rfl rfl (show _ < 20 by omega) ?_
      refine vq_aload_n d_M_amend_89 rfl ?_
      refine vq_getR (k := 3) (C := R_M) (T := T_M) d_M_amend_90 rfl in_M w_658 (by decide) rfl (by decide) rfl rfl ?_
      refine vq_iload_n d_M_amend_93 rfl ?_
      refine vq_iload_n d_M_amend_94 rfl ?_
      refine vq_iast d_M_amend_95 rfl (by decide) rfl rfl (show _ < 20 by omega) ?_
      refine vq_vret d_M_amend_96 rfl (by decide) (by decide) rfl rfl ?_
      obtain ⟨c1, c2, c3, c4, c5, c6, c7, c8⟩ := hm
      have hF : f_amend F (nI p) y w = (zn F, zset (za F) p (zop y), zset (zb F) p (zop w), zs F, zd F, zo F, zg F, zx F) := by unfold f_amend; rw [if_pos hk, hzp]
      rw [hF, hk]
      refine ⟨rfl, h79, ⟨c1, fun i hi => ?_, fun i hi => ?_, c4, c5, c6, c7, c8⟩, hl, fun q hq => ⟨?_, rfl⟩⟩
      · show upd (g.1 68) p y i = eO (zset (za F) p (zop y) i)
        rw [upd]
        by_cases e : i = p
        · rw [if_pos e, e, zset_s, zop_e p1]
        · rw [if_neg e, zset_n e]; exact c2 i hi
      · show upd (g.1 69) p w i = eO (zset (zb F) p (zop w) i)
        rw [upd]
        by_cases e : i = p
        · rw [if_pos e, e, zset_s, zop_e p2]
        · rw [if_neg e, zset_n e]; exact c3 i hi
      · rw [sI_n (by omega), sI_n (by omega), sI_n (by omega)]
  have s49 : ∀ (c : Bool), ((c = true → ¬ (zok F x ∧ zpo (zi x) y ∧ zpo (zi x) w)) ∧ (c = false → (zok F x ∧ zpo (zi x) y ∧ zpo (zi x) w))) → Vq l b id D m_M_amend false 85 kT (mP (k_amend F x y w) none none g (f_amend F x y w) k) 85 kT (fun _ _ => False) 85 kT 0 0 49 [(0, .ref (b + 67)), (1, .int x), (2, .int y), (3, .int w)] [.int (bI c)] g := by
    intro c hw
    refine vq_istore (lv' := [(4, _), (0, _), (1, _), (2, _), (3, _)]) d_M_amend_49 (by decide) rfl ?_
    refine vq_aload_n d_M_amend_51 rfl ?_
    refine vq_iload d_M_amend_52 rfl ?_
    refine vq_if_ne (tgt := 67) d_M_amend_54 (by decide) (fun h54 => ?_) (fun h54 => ?_)
    · rw [bI_n0] at h54
      have hq := hw.1 h54
      refine vq_iconst (v := 1) d_M_amend_67 (by decide) ?_
      refine vq_goto (tgt := 72) d_M_amend_68 (by decide) ?_
      refine vq_pk [1, 2, 3, 4] (lv' := [(0, _), (1, _), (2, _), (3, _)]) rfl ?_
      first
        | exact s72 true ⟨fun _ => by unfold k_amend; rw [if_neg (fun h => hq ⟨h.1, (zpa_u.mp h.2).1, (zpa_u.mp h.2).2.1⟩)], (fun h => nomatch h)⟩
        | exact s72 true ⟨fun _ => by unfold k_amend; rw [if_neg (fun h => (zpa_u.mp h.2).2.2 (by omega))], (fun h => nomatch h)⟩
        | exact s72 false ⟨(fun h => nomatch h), fun _ => by unfold k_amend; rw [if_pos ⟨hq.1, zpa_u.mpr ⟨hq.2.1, hq.2.2, by omega⟩⟩]⟩
    · rw [bI_0] at h54
      have hq := hw.2 h54
      refine vq_iload_n d_M_amend_57 rfl ?_
      refine vq_iload_n d_M_amend_58 rfl ?_
      refine vq_icmp_ne (tgt := 71) d_M_amend_59 (by decide) (fun h59 => ?_) (fun h59 => ?_)
      · simp only [Int32.lt_iff_toInt_lt, Int32.le_iff_toInt_le, ← Int32.toInt_inj, tI0, tI1, tIm1, tI999, tIm, tI20] at h59
        refine vq_iconst (v := 0) d_M_amend_71 (by decide) ?_
        refine vq_pk [1, 2, 3, 4] (lv' := [(0, _), (1, _), (2, _), (3, _)]) rfl ?_
        first
          | exact s72 true ⟨fun _ => by unfold k_amend; rw [if_neg (fun h => hq ⟨h.1, (zpa_u.mp h.2).1, (zpa_u.mp h.2).2.1⟩)], (fun h => nomatch h)⟩
          | exact s72 true ⟨fun _ => by unfold k_amend; rw [if_neg (fun h => (zpa_u.mp h.2).2.2 (by omega))], (fun h => nomatch h)⟩
          | exact s72 false ⟨(fun h => nomatch h), fun _ => by unfold k_amend; rw [if_pos ⟨hq.1, zpa_u.mpr ⟨hq.2.1, hq.2.2, by omega⟩⟩]⟩
      · simp only [Int32.lt_iff_toInt_lt, Int32.le_iff_toInt_le, ← Int32.toInt_inj, tI0, tI1, tIm1, tI999, tIm, tI20] at h59
        refine vq_iload_n d_M_amend_62 rfl ?_
        refine vq_iconst (v := -1) d_M_amend_63 (by decide) ?_
        refine vq_icmp_eq (tgt := 71) d_M_amend_64 (by decide) (fun h64 => ?_) (fun h64 => ?_)
        · simp only [Int32.lt_iff_toInt_lt, Int32.le_iff_toInt_le, ← Int32.toInt_inj, tI0, tI1, tIm1, tI999, tIm, tI20] at h64
          refine vq_iconst (v := 0) d_M_amend_71 (by decide) ?_
          refine vq_pk [1, 2, 3, 4] (lv' := [(0, _), (1, _), (2, _), (3, _)]) rfl ?_
          first
            | exact s72 true ⟨fun _ => by unfold k_amend; rw [if_neg (fun h => hq ⟨h.1, (zpa_u.mp h.2).1, (zpa_u.mp h.2).2.1⟩)], (fun h => nomatch h)⟩
            | exact s72 true ⟨fun _ => by unfold k_amend; rw [if_neg (fun h => (zpa_u.mp h.2).2.2 (by omega))], (fun h => nomatch h)⟩
            | exact s72 false ⟨(fun h => nomatch h), fun _ => by unfold k_amend; rw [if_pos ⟨hq.1, zpa_u.mpr ⟨hq.2.1, hq.2.2, by omega⟩⟩]⟩
        · simp only [Int32.lt_iff_toInt_lt, Int32.le_iff_toInt_le, ← Int32.toInt_inj, tI0, tI1, tIm1, tI999, tIm, tI20] at h64
          refine vq_iconst (v := 1) d_M_amend_67 (by decide) ?_
          refine vq_goto (tgt := 72) d_M_amend_68 (by decide) ?_
          refine vq_pk [1, 2, 3, 4] (lv' := [(0, _), (1, _), (2, _), (3, _)]) rfl ?_
          first
            | exact s72 true ⟨fun _ => by unfold k_amend; rw [if_neg (fun h => hq ⟨h.1, (zpa_u.mp h.2).1, (zpa_u.mp h.2).2.1⟩)], (fun h => nomatch h)⟩
            | exact s72 true ⟨fun _ => by unfold k_amend; rw [if_neg (fun h => (zpa_u.mp h.2).2.2 (by omega))], (fun h => nomatch h)⟩
            | exact s72 false ⟨(fun h => nomatch h), fun _ => by unfold k_amend; rw [if_pos ⟨hq.1, zpa_u.mpr ⟨hq.2.1, hq.2.2, by omega⟩⟩]⟩
  refine vq_aload_n d_M_amend_0 rfl ?_
  refine vq_iload_n d_M_amend_1 rfl ?_
  refine vq_callV (n := 1) (C := R_M) (T := T_M) _ _ d_M_amend_2 (ct_M_no l b id D hn hm x) w_733 w_735 sel_M_no w_736 w_7 rfl ⟨by decide, by decide, by decide +kernel⟩ ⟨by decide, by decide⟩ (by decide) rfl rfl rfl rfl (Nat.le_of_ble_eq_true rfl) rfl rfl rfl ⟨by decide, by decide⟩ (fun _ _ h => h.elim) (fun v2 g2 h2 => ?_)
  rw [h2.1, h2.2]
  refine vq_if_ne (tgt := 44) d_M_amend_5 (by decide) (fun h5 => ?_) (fun h5 => ?_)
  · rw [bI_n0, no_t] at h5
    refine vq_iconst (v := 1) d_M_amend_44 (by decide) ?_
    refine vq_goto (tgt := 49) d_M_amend_45 (by decide) ?_
    first
      | exact s49 true ⟨fun _ h => by have h9 := zok_u.mp h.1; have h8 := zpo_u.mp h.2.1; have h7 := zpo_u.mp h.2.2; unfold zi at h8 h7; omega, (fun h => nomatch h)⟩
      | exact s49 false ⟨(fun h => nomatch h), fun _ => ⟨zok_u.mpr (by omega), zpo_u.mpr (by unfold zi; omega), zpo_u.mpr (by unfold zi; omega)⟩⟩
  · rw [bI_0, no_f] at h5
    refine vq_iload_n d_M_amend_8 rfl ?_
    refine vq_iconst (v := -1) d_M_amend_9 (by decide) ?_
    refine vq_icmp_eq (tgt := 26) d_M_amend_10 (by decide) (fun h10 => ?_) (fun h10 => ?_)
    · simp only [Int32.lt_iff_toInt_lt, Int32.le_iff_toInt_le, ← Int32.toInt_inj, tI0, tI1, tIm1, tI999, tIm, tI20] at h10
      refine vq_iload_n d_M_amend_26 rfl ?_
      refine vq_iconst (v := -1) d_M_amend_27 (by decide) ?_
      refine vq_icmp_eq (tgt := 48) d_M_amend_28 (by decide) (fun h28 => ?_) (fun h28 => ?_)
      · simp only [Int32.lt_iff_toInt_lt, Int32.le_iff_toInt_le, ← Int32.toInt_inj, tI0, tI1, tIm1, tI999, tIm, tI20] at h28
        refine vq_iconst (v := 0) d_M_amend_48 (by decide) ?_
        first
          | exact s49 true ⟨fun _ h => by have h9 := zok_u.mp h.1; have h8 := zpo_u.mp h.2.1; have h7 := zpo_u.mp h.2.2; unfold zi at h8 h7; omega, (fun h => nomatch h)⟩
          | exact s49 false ⟨(fun h => nomatch h), fun _ => ⟨zok_u.mpr (by omega), zpo_u.mpr (by unfold zi; omega), zpo_u.mpr (by unfold zi; omega)⟩⟩
      · simp only [Int32.lt_iff_toInt_lt, Int32.le_iff_toInt_le, ← Int32.toInt_inj, tI0, tI1, tIm1, tI999, tIm, tI20] at h28
        refine vq_aload_n d_M_amend_31 rfl ?_
        refine vq_iload_n d_M_amend_32 rfl ?_
        refine vq_callV (n := 1) (C := R_M) (T := T_M) _ _ d_M_amend_33 (ct_M_no l b id D hn hm w) w_733 w_735 sel_M_no w_736 w_7 rfl ⟨by decide, by decide, by decide +kernel⟩ ⟨by decide, by decide⟩ (by decide) rfl rfl rfl rfl (Nat.le_of_ble_eq_true rfl) rfl rfl rfl ⟨by decide, by decide⟩ (fun _ _ h => h.elim) (fun v33 g33 h33 => ?_)
        rw [h33.1, h33.2]
        refine vq_if_ne (tgt := 44) d_M_amend_36 (by decide) (fun h36 => ?_) (fun h36 => ?_)
        · rw [bI_n0, no_t] at h36
          refine vq_iconst (v := 1) d_M_amend_44 (by decide) ?_
          refine vq_goto (tgt := 49) d_M_amend_45 (by decide) ?_
          first
            | exact s49 true ⟨fun _ h => by have h9 := zok_u.mp h.1; have h8 := zpo_u.mp h.2.1; have h7 := zpo_u.mp h.2.2; unfold zi at h8 h7; omega, (fun h => nomatch h)⟩
            | exact s49 false ⟨(fun h => nomatch h), fun _ => ⟨zok_u.mpr (by omega), zpo_u.mpr (by unfold zi; omega), zpo_u.mpr (by unfold zi; omega)⟩⟩
        · rw [bI_0, no_f] at h36
          refine vq_iload_n d_M_amend_39 rfl ?_
          refine vq_iload_n d_M_amend_40 rfl ?_
          refine vq_icmp_lt (tgt := 48) d_M_amend_41 (by decide) (fun h41 => ?_) (fun h41 => ?_)
          · simp only [Int32.lt_iff_toInt_lt, Int32.le_iff_toInt_le, ← Int32.toInt_inj, tI0, tI1, tIm1, tI999, tIm, tI20] at h41
            refine vq_iconst (v := 0) d_M_amend_48 (by decide) ?_
            first
              | exact s49 true ⟨fun _ h => by have h9 := zok_u.mp h.1; have h8 := zpo_u.mp h.2.1; have h7 := zpo_u.mp h.2.2; unfold zi at h8 h7; omega, (fun h => nomatch h)⟩
              | exact s49 false ⟨(fun h => nomatch h), fun _ => ⟨zok_u.mpr (by omega), zpo_u.mpr (by unfold zi; omega), zpo_u.mpr (by unfold zi; omega)⟩⟩
          · simp only [Int32.lt_iff_toInt_lt, Int32.le_iff_toInt_le, ← Int32.toInt_inj, tI0, tI1, tIm1, tI999, tIm, tI20] at h41
            refine vq_iconst (v := 1) d_M_amend_44 (by decide) ?_
            refine vq_goto (tgt := 49) d_M_amend_45 (by decide) ?_
            first
              | exact s49 true ⟨fun _ h => by have h9 := zok_u.mp h.1; have h8 := zpo_u.mp h.2.1; have h7 := zpo_u.mp h.2.2; unfold zi at h8 h7; omega, (fun h => nomatch h)⟩
              | exact s49 false ⟨(fun h => nomatch h), fun _ => ⟨zok_u.mpr (by omega), zpo_u.mpr (by unfold zi; omega), zpo_u.mpr (by unfold zi; omega)⟩⟩
    · simp only [Int32.lt_iff_toInt_lt, Int32.le_iff_toInt_le, ← Int32.toInt_inj, tI0, tI1, tIm1, tI999, tIm, tI20] at h10
      refine vq_aload_n d_M_amend_13 rfl ?_
      refine vq_iload_n d_M_amend_14 rfl ?_
      refine vq_callV (n := 1) (C := R_M) (T := T_M) _ _ d_M_amend_15 (ct_M_no l b id D hn hm y) w_733 w_735 sel_M_no w_736 w_7 rfl ⟨by decide, by decide, by decide +kernel⟩ ⟨by decide, by decide⟩ (by decide) rfl rfl rfl rfl (Nat.le_of_ble_eq_true rfl) rfl rfl rfl ⟨by decide, by decide⟩ (fun _ _ h => h.elim) (fun v15 g15 h15 => ?_)
      rw [h15.1, h15.2]
      refine vq_if_ne (tgt := 44) d_M_amend_18 (by decide) (fun h18 => ?_) (fun h18 => ?_)
      · rw [bI_n0, no_t] at h18
        refine vq_iconst (v := 1) d_M_amend_44 (by decide) ?_
        refine vq_goto (tgt := 49) d_M_amend_45 (by decide) ?_
        first
          | exact s49 true ⟨fun _ h => by have h9 := zok_u.mp h.1; have h8 := zpo_u.mp h.2.1; have h7 := zpo_u.mp h.2.2; unfold zi at h8 h7; omega, (fun h => nomatch h)⟩
          | exact s49 false ⟨(fun h => nomatch h), fun _ => ⟨zok_u.mpr (by omega), zpo_u.mpr (by unfold zi; omega), zpo_u.mpr (by unfold zi; omega)⟩⟩
      · rw [bI_0, no_f] at h18
        refine vq_iload_n d_M_amend_21 rfl ?_
        refine vq_iload_n d_M_amend_22 rfl ?_
        refine vq_icmp_ge (tgt := 44) d_M_amend_23 (by decide) (fun h23 => ?_) (fun h23 => ?_)
        · simp only [Int32.lt_iff_toInt_lt, Int32.le_iff_toInt_le, ← Int32.toInt_inj, tI0, tI1, tIm1, tI999, tIm, tI20] at h23
          refine vq_iconst (v := 1) d_M_amend_44 (by decide) ?_
          refine vq_goto (tgt := 49) d_M_amend_45 (by decide) ?_
          first
            | exact s49 true ⟨fun _ h => by have h9 := zok_u.mp h.1; have h8 := zpo_u.mp h.2.1; have h7 := zpo_u.mp h.2.2; unfold zi at h8 h7; omega, (fun h => nomatch h)⟩
            | exact s49 false ⟨(fun h => nomatch h), fun _ => ⟨zok_u.mpr (by omega), zpo_u.mpr (by unfold zi; omega), zpo_u.mpr (by unfold zi; omega)⟩⟩
        · simp only [Int32.lt_iff_toInt_lt, Int32.le_iff_toInt_le, ← Int32.toInt_inj, tI0, tI1, tIm1, tI999, tIm, tI20] at h23
          refine vq_iload_n d_M_amend_26 rfl ?_
          refine vq_iconst (v := -1) d_M_amend_27 (by decide) ?_
          refine vq_icmp_eq (tgt := 48) d_M_amend_28 (by decide) (fun h28 => ?_) (fun h28 => ?_)
          · simp only [Int32.lt_iff_toInt_lt, Int32.le_iff_toInt_le, ← Int32.toInt_inj, tI0, tI1, tIm1, tI999, tIm, tI20] at h28
            refine vq_iconst (v := 0) d_M_amend_48 (by decide) ?_
            first
              | exact s49 true ⟨fun _ h => by have h9 := zok_u.mp h.1; have h8 := zpo_u.mp h.2.1; have h7 := zpo_u.mp h.2.2; unfold zi at h8 h7; omega, (fun h => nomatch h)⟩
              | exact s49 false ⟨(fun h => nomatch h), fun _ => ⟨zok_u.mpr (by omega), zpo_u.mpr (by unfold zi; omega), zpo_u.mpr (by unfold zi; omega)⟩⟩
          · simp only [Int32.lt_iff_toInt_lt, Int32.le_iff_toInt_le, ← Int32.toInt_inj, tI0, tI1, tIm1, tI999, tIm, tI20] at h28
            refine vq_aload_n d_M_amend_31 rfl ?_
            refine vq_iload_n d_M_amend_32 rfl ?_
            refine vq_callV (n := 1) (C := R_M) (T := T_M) _ _ d_M_amend_33 (ct_M_no l b id D hn hm w) w_733 w_735 sel_M_no w_736 w_7 rfl ⟨by decide, by decide, by decide +kernel⟩ ⟨by decide, by decide⟩ (by decide) rfl rfl rfl rfl (Nat.le_of_ble_eq_true rfl) rfl rfl rfl ⟨by decide, by decide⟩ (fun _ _ h => h.elim) (fun v33 g33 h33 => ?_)
            rw [h33.1, h33.2]
            refine vq_if_ne (tgt := 44) d_M_amend_36 (by decide) (fun h36 => ?_) (fun h36 => ?_)
            · rw [bI_n0, no_t] at h36
              refine vq_iconst (v := 1) d_M_amend_44 (by decide) ?_
              refine vq_goto (tgt := 49) d_M_amend_45 (by decide) ?_
              first
                | exact s49 true ⟨fun _ h => by have h9 := zok_u.mp h.1; have h8 := zpo_u.mp h.2.1; have h7 := zpo_u.mp h.2.2; unfold zi at h8 h7; omega, (fun h => nomatch h)⟩
                | exact s49 false ⟨(fun h => nomatch h), fun _ => ⟨zok_u.mpr (by omega), zpo_u.mpr (by unfold zi; omega), zpo_u.mpr (by unfold zi; omega)⟩⟩
            · rw [bI_0, no_f] at h36
              refine vq_iload_n d_M_amend_39 rfl ?_
              refine vq_iload_n d_M_amend_40 rfl ?_
              refine vq_icmp_lt (tgt := 48) d_M_amend_41 (by decide) (fun h41 => ?_) (fun h41 => ?_)
              · simp only [Int32.lt_iff_toInt_lt, Int32.le_iff_toInt_le, ← Int32.toInt_inj, tI0, tI1, tIm1, tI999, tIm, tI20] at h41
                refine vq_iconst (v := 0) d_M_amend_48 (by decide) ?_
                first
                  | exact s49 true ⟨fun _ h => by have h9 := zok_u.mp h.1; have h8 := zpo_u.mp h.2.1; have h7 := zpo_u.mp h.2.2; unfold zi at h8 h7; omega, (fun h => nomatch h)⟩
                  | exact s49 false ⟨(fun h => nomatch h), fun _ => ⟨zok_u.mpr (by omega), zpo_u.mpr (by unfold zi; omega), zpo_u.mpr (by unfold zi; omega)⟩⟩
              · simp only [Int32.lt_iff_toInt_lt, Int32.le_iff_toInt_le, ← Int32.toInt_inj, tI0, tI1, tIm1, tI999, tIm, tI20] at h41
                refine vq_iconst (v := 1) d_M_amend_44 (by decide) ?_
                refine vq_goto (tgt := 49) d_M_amend_45 (by decide) ?_
                first
                  | exact s49 true ⟨fun _ h => by have h9 := zok_u.mp h.1; have h8 := zpo_u.mp h.2.1; have h7 := zpo_u.mp h.2.2; unfold zi at h8 h7; omega, (fun h => nomatch h)⟩
                  | exact s49 false ⟨(fun h => nomatch h), fun _ => ⟨zok_u.mpr (by omega), zpo_u.mpr (by unfold zi; omega), zpo_u.mpr (by unfold zi; omega)⟩⟩
set_option maxRecDepth 100000 in
set_option maxHeartbeats 4000000 in
theorem ct_M_spouse (l : Launch) (b : Nat) (id : Nat → ClassId) (D : va_G) {g : Sg} {F : Fam} (hV : zV F) (hm : Hm g F) {k : Lg} (hl : Hn g k) (x : Int32) : qCT l b id D m_M_spouse false [.ref (b + 67), .int x] 85 kT g 85 kT (mP (k_one F x) (some (.int (eO (zs F (zi x))))) (some (.int 0)) g F k) (fun _ _ => False) := by
  have hW := hV.1
  have hn := hW.1
  have h31 : zn F < 2 ^ 31 := by omega
  refine qCT_of rfl (by decide) (Nat.le_of_ble_eq_true rfl) ?_
  show Vq l b id D m_M_spouse false 85 kT _ 85 kT _ 85 kT 0 0 0 [(0, .ref (b + 67)), (1, .int x)] [] g
  refine vq_aload_n d_M_spouse_0 rfl ?_
  refine vq_aload_n d_M_spouse_1 rfl ?_
  refine vq_iload_n d_M_spouse_2 rfl ?_
  refine vq_callV (n := 1) (C := R_M) (T := T_M) _ _ d_M_spouse_3 (ct_M_no l b id D hn hm x) w_733 w_735 sel_M_no w_736 w_7 rfl ⟨by decide, by decide, by decide +kernel⟩ ⟨by decide, by decide⟩ (by decide) rfl rfl rfl rfl (Nat.le_of_ble_eq_true rfl) rfl rfl rfl ⟨by decide, by decide⟩ (fun _ _ h => h.elim) (fun v3 g3 h3 => ?_)
  rw [h3.1, h3.2]
  refine vq_if_eq (tgt := 13) d_M_spouse_6 (by decide) (fun h6 => ?_) (fun h6 => ?_)
  · rw [bI_0, no_f, ← zok_u] at h6
    obtain ⟨p, hp, rfl⟩ := zok_p h6
    have hzp : zi (nI p) = p := zi_nI (by omega)
    have hk : k_one F (nI p) = 0 := if_pos h6
    refine vq_iconst (v := 0) d_M_spouse_13 (by decide) ?_
    refine vq_putI (k := 0) (C := R_M) (T := T_M) (ty := .int) t_M d_M_spouse_14 rfl in_M w_655 ty_M nm_M (by decide) rfl (by decide) rfl (by decide +kernel) rfl rfl rfl ?_
    refine vq_aload_n d_M_spouse_17 rfl ?_
    refine vq_getI (k := 0) (C := R_M) (T := T_M) d_M_spouse_18 rfl in_M w_655 (by decide) rfl (by decide) rfl ?_
    refine vq_int (y := 0) rfl ?_
    refine vq_if_le (tgt := 28) d_M_spouse_21 (by decide) (fun h21 => ?_) (fun h21 => absurd h21 (by decide))
    refine vq_aload_n d_M_spouse_28 rfl ?_
    refine vq_getR (k := 4) (C := R_M) (T := T_M) d_M_spouse_29 rfl in_M w_659 (by decide) rfl (by decide) rfl rfl ?_
    refine vq_iload_n d_M_spouse_32 rfl ?_
    refine vq_iald d_M_spouse_33 (by decide) rfl rfl (show _ < 20 by omega) ?_
    refine vq_int (y := eO (zs F p)) (hm.2.2.2.1 p hp) ?_
    refine vq_iret d_M_spouse_34 rfl (by decide) (by decide) rfl rfl ?_
    rw [hk, hzp]
    exact ⟨rfl, rfl, hm.thr _, hl, Dn.thr _⟩
  · rw [bI_n0, no_t, ← zok_u] at h6
    have hk : k_one F x = 1 := if_neg h6
    refine vq_iconst (v := 1) d_M_spouse_9 (by decide) ?_
    refine vq_goto (tgt := 14) d_M_spouse_10 (by decide) ?_
    refine vq_putI (k := 0) (C := R_M) (T := T_M) (ty := .int) t_M d_M_spouse_14 rfl in_M w_655 ty_M nm_M (by decide) rfl (by decide) rfl (by decide +kernel) rfl rfl rfl ?_
    refine vq_aload_n d_M_spouse_17 rfl ?_
    refine vq_getI (k := 0) (C := R_M) (T := T_M) d_M_spouse_18 rfl in_M w_655 (by decide) rfl (by decide) rfl ?_
    refine vq_int (y := 1) rfl ?_
    refine vq_if_le (tgt := 28) d_M_spouse_21 (by decide) (fun h21 => absurd h21 (by decide)) (fun h21 => ?_)
    refine vq_iconst (v := 0) d_M_spouse_24 (by decide) ?_
    refine vq_goto (tgt := 34) d_M_spouse_25 (by decide) ?_
    refine vq_iret d_M_spouse_34 rfl (by decide) (by decide) rfl rfl ?_
    rw [hk]
    exact ⟨rfl, rfl, hm.thr _, hl, Dn.thr _⟩
set_option maxRecDepth 100000 in
set_option maxHeartbeats 4000000 in
theorem ct_M_total (l : Launch) (b : Nat) (id : Nat → ClassId) (D : va_G) {g : Sg} {F : Fam} (hV : zV F) (hm : Hm g F) {k : Lg} (hl : Hn g k) (x : Int32) : qCT l b id D m_M_total false [.ref (b + 67), .int x] 85 kT g 85 kT (mP (k_one F x) (some (.long (lN (k.2.2 (zi x))))) (some (.long 0)) g F k) (fun _ _ => False) := by
  have hW := hV.1
  have hn := hW.1
  have h31 : zn F < 2 ^ 31 := by omega
  refine qCT_of rfl (by decide) (Nat.le_of_ble_eq_true rfl) ?_
  show Vq l b id D m_M_total false 85 kT _ 85 kT _ 85 kT 0 0 0 [(0, .ref (b + 67)), (1, .int x)] [] g
  refine vq_aload_n d_M_total_0 rfl ?_
  refine vq_aload_n d_M_total_1 rfl ?_
  refine vq_iload_n d_M_total_2 rfl ?_
  refine vq_callV (n := 1) (C := R_M) (T := T_M) _ _ d_M_total_3 (ct_M_no l b id D hn hm x) w_733 w_735 sel_M_no w_736 w_7 rfl ⟨by decide, by decide, by decide +kernel⟩ ⟨by decide, by decide⟩ (by decide) rfl rfl rfl rfl (Nat.le_of_ble_eq_true rfl) rfl rfl rfl ⟨by decide, by decide⟩ (fun _ _ h => h.elim) (fun v3 g3 h3 => ?_)
  rw [h3.1, h3.2]
  refine vq_if_eq (tgt := 13) d_M_total_6 (by decide) (fun h6 => ?_) (fun h6 => ?_)
  · rw [bI_0, no_f, ← zok_u] at h6
    obtain ⟨p, hp, rfl⟩ := zok_p h6
    have hzp : zi (nI p) = p := zi_nI (by omega)
    have hk : k_one F (nI p) = 0 := if_pos h6
    refine vq_iconst (v := 0) d_M_total_13 (by decide) ?_
    refine vq_putI (k := 0) (C := R_M) (T := T_M) (ty := .int) t_M d_M_total_14 rfl in_M w_655 ty_M nm_M (by decide) rfl (by decide) rfl (by decide +kernel) rfl rfl rfl ?_
    refine vq_aload_n d_M_total_17 rfl ?_
    refine vq_getI (k := 0) (C := R_M) (T := T_M) d_M_total_18 rfl in_M w_655 (by decide) rfl (by decide) rfl ?_
    refine vq_int (y := 0) rfl ?_
    refine vq_if_le (tgt := 28) d_M_total_21 (by decide) (fun h21 => ?_) (fun h21 => absurd h21 (by decide))
    refine vq_aload_n d_M_total_28 rfl ?_
    refine vq_getR (k := 21) (C := R_M) (T := T_M) d_M_total_29 rfl in_M w_676 (by decide) rfl (by decide) rfl rfl ?_
    refine vq_iload_n d_M_total_32 rfl ?_
    refine vq_lald d_M_total_33 (by decide) rfl rfl (show _ < 20 by omega) ?_
    refine vq_long (y := lN (k.2.2 p)) (hl.2.2 p (by omega)) ?_
    refine vq_lret d_M_total_34 rfl (by decide) (by decide) rfl rfl ?_
    rw [hk, hzp]
    exact ⟨rfl, rfl, hm.thr _, hl, Dn.thr _⟩
  · rw [bI_n0, no_t, ← zok_u] at h6
    have hk : k_one F x = 1 := if_neg h6
    refine vq_iconst (v := 1) d_M_total_9 (by decide) ?_
    refine vq_goto (tgt := 14) d_M_total_10 (by decide) ?_
    refine vq_putI (k := 0) (C := R_M) (T := T_M) (ty := .int) t_M d_M_total_14 rfl in_M w_655 ty_M nm_M (by decide) rfl (by decide) rfl (by decide +kernel) rfl rfl rfl ?_
    refine vq_aload_n d_M_total_17 rfl ?_
    refine vq_getI (k := 0) (C := R_M) (T := T_M) d_M_total_18 rfl in_M w_655 (by decide) rfl (by decide) rfl ?_
    refine vq_int (y := 1) rfl ?_
    refine vq_if_le (tgt := 28) d_M_total_21 (by decide) (fun h21 => absurd h21 (by decide)) (fun h21 => ?_)
    refine vq_lconst (v := 0) d_M_total_24 rfl ?_
    refine vq_goto (tgt := 34) d_M_total_25 (by decide) ?_
    refine vq_lret d_M_total_34 rfl (by decide) (by decide) rfl rfl ?_
    rw [hk]
    exact ⟨rfl, rfl, hm.thr _, hl, Dn.thr _⟩
set_option maxRecDepth 100000 in
set_option maxHeartbeats 4000000 in
theorem ct_M_divorce (l : Launch) (b : Nat) (id : Nat → ClassId) (D : va_G) {g : Sg} {F : Fam} (hV : zV F) (hm : Hm g F) {k : Lg} (hl : Hn g k) (x : Int32) : qCT l b id D m_M_divorce false [.ref (b + 67), .int x] 85 kT g 85 kT (mP (k_one F x) (some (.int (bI (zdv F (zi x)).isSome))) (some (.int 0)) g (f_divorce F x) k) (fun _ _ => False) := by
  have hW := hV.1
  have hn := hW.1
  have h31 : zn F < 2 ^ 31 := by omega
  refine qCT_of rfl (by decide) (Nat.le_of_ble_eq_true rfl) ?_
  show Vq l b id D m_M_divorce false 85 kT _ 85 kT _ 85 kT 0 0 0 [(0, .ref (b + 67)), (1, .int x)] [] g
  refine vq_aload_n d_M_divorce_0 rfl ?_
  refine vq_aload_n d_M_divorce_1 rfl ?_
  refine vq_iload_n d_M_divorce_2 rfl ?_
  refine vq_callV (n := 1) (C := R_M) (T := T_M) _ _ d_M_divorce_3 (ct_M_no l b id D hn hm x) w_733 w_735 sel_M_no w_736 w_7 rfl ⟨by decide, by decide, by decide +kernel⟩ ⟨by decide, by decide⟩ (by decide) rfl rfl rfl rfl (Nat.le_of_ble_eq_true rfl) rfl rfl rfl ⟨by decide, by decide⟩ (fun _ _ h => h.elim) (fun v3 g3 h3 => ?_)
  rw [h3.1, h3.2]
  refine vq_if_eq (tgt := 13) d_M_divorce_6 (by decide) (fun h6 => ?_) (fun h6 => ?_)
  · rw [bI_0, no_f, ← zok_u] at h6
    obtain ⟨p, hp, rfl⟩ := zok_p h6
    have hzp : zi (nI p) = p := zi_nI (by omega)
    have hk : k_one F (nI p) = 0 := if_pos h6
    refine vq_iconst (v := 0) d_M_divorce_13 (by decide) ?_
    refine vq_putI (k := 0) (C := R_M) (T := T_M) (ty := .int) t_M d_M_divorce_14 rfl in_M w_655 ty_M nm_M (by decide) rfl (by decide) rfl (by decide +kernel) rfl rfl rfl ?_
    refine vq_aload_n d_M_divorce_17 rfl ?_
    refine vq_getI (k := 0) (C := R_M) (T := T_M) d_M_divorce_18 rfl in_M w_655 (by decide) rfl (by decide) rfl ?_
    refine vq_int (y := 0) rfl ?_
    refine vq_if_gt (tgt := 41) d_M_divorce_21 (by decide) (fun h21 => absurd h21 (by decide)) (fun h21 => ?_)
    refine vq_aload_n d_M_divorce_24 rfl ?_
    refine vq_getR (k := 5) (C := R_M) (T := T_M) d_M_divorce_25 rfl in_M w_660 (by decide) rfl (by decide) rfl rfl ?_
    refine vq_iload_n d_M_divorce_28 rfl ?_
    refine vq_iald d_M_divorce_29 (by decide) rfl rfl (show _ < 20 by omega) ?_
    refine vq_int (y := eO (zd F p)) (hm.2.2.2.2.1 p hp) ?_
    refine vq_if_ge (tgt := 41) d_M_divorce_30 (by decide) (fun h30 => ?_) (fun h30 => ?_)
    · rw [eO_nn (zd_lt hW hp)] at h30
      have hv : zdv F p = none := zdv_d h30
      refine vq_iconst (v := 0) d_M_divorce_41 (by decide) ?_
      refine vq_zret d_M_divorce_42 rfl (by first | exact Or.inl rfl | exact Or.inr rfl | assumption) (by decide) (by decide) rfl rfl ?_
      have hF : f_divorce F (nI p) = F := by unfold f_divorce; rw [if_pos hk, hzp, hv]
      rw [hF, hk, hzp, hv]
      exact ⟨rfl, rfl, hm.thr _, hl, Dn.thr _⟩
    · rw [eO_nn (zd_lt hW hp)] at h30
      have hd0 : zd F p = none := Decidable.not_not.mp h30
      refine vq_aload_n d_M_divorce_33 rfl ?_
      refine vq_iload_n d_M_divorce_34 rfl ?_
      refine vq_callV (n := 1) (C := R_M) (T := T_M) _ _ d_M_divorce_35 (ct_M_isMarried l b id D hW (hm.thr 0) hp) w_745 w_747 sel_M_isMarried w_748 w_7 rfl ⟨by decide, by decide, by decide +kernel⟩ ⟨by decide, by decide⟩ (by decide) rfl rfl rfl rfl (Nat.le_of_ble_eq_true rfl) rfl rfl rfl ⟨by decide, by decide⟩ (fun _ _ h => h.elim) (fun v35 g35 h35 => ?_)
      rw [h35.1, h35.2]
      refine vq_if_ne (tgt := 43) d_M_divorce_38 (by decide) (fun h38 => ?_) (fun h38 => ?_)
      · rw [bI_n0] at h38
        unfold zmr at h38
        obtain ⟨j, hj⟩ : ∃ j, zs F p = some j := by cases hq : zs F p with | none => rw [hq] at h38; cases h38 | some j => exact ⟨j, rfl⟩
        rw [hj] at h38
        have hjn := hW.2.2.2.2.1 p j hp hj
        have hv : zdv F p = some j := by unfold zdv; rw [hj]; exact if_pos ⟨by rw [hd0]; rfl, h38⟩
        refine vq_aload_n d_M_divorce_43 rfl ?_
        refine vq_getR (k := 4) (C := R_M) (T := T_M) d_M_divorce_44 rfl in_M w_659 (by decide) rfl (by decide) rfl rfl ?_
        refine vq_aload_n d_M_divorce_47 rfl ?_
        refine vq_getR (k := 4) (C := R_M) (T := T_M) d_M_divorce_48 rfl in_M w_659 (by decide) rfl (by decide) rfl rfl ?_
        refine vq_iload_n d_M_divorce_51 rfl ?_
        refine vq_iald d_M_divorce_52 (by decide) rfl rfl (show _ < 20 by omega) ?_
        refine vq_int (y := nI j) (by rw [← show eO (zs F p) = nI j by rw [hj]; rfl]; exact hm.2.2.2.1 p hp) ?_
        refine vq_iconst (v := -1) d_M_divorce_53 (by decide) ?_
        refine vq_iast d_M_divorce_54 rfl (by decide) rfl rfl (show _ < 20 by omega) ?_
        refine vq_aload_n d_M_divorce_55 rfl ?_
        refine vq_getR (k := 4) (C := R_M) (T := T_M) d_M_divorce_56 rfl in_M w_659 (by decide) rfl (by decide) rfl rfl ?_
        refine vq_iload_n d_M_divorce_59 rfl ?_
        refine vq_iconst (v := -1) d_M_divorce_60 (by decide) ?_
        refine vq_iast d_M_divorce_61 rfl (by decide) rfl rfl (show _ < 20 by omega) ?_
        refine vq_iconst (v := 1) d_M_divorce_62 (by decide) ?_
        refine vq_zret d_M_divorce_63 rfl (by first | exact Or.inl rfl | exact Or.inr rfl | assumption) (by decide) (by decide) rfl rfl ?_
        obtain ⟨c1, c2, c3, c4, c5, c6, c7, c8⟩ := hm
        have hF : f_divorce F (nI p) = (zn F, za F, zb F, zset (zset (zs F) p none) j none, zd F, zo F, zg F, zx F) := by unfold f_divorce; rw [if_pos hk, hzp, hv]
        rw [hF, hk, hzp, hv]
        refine ⟨rfl, rfl, ⟨c1, c2, c3, fun i hi => ?_, c5, c6, c7, c8⟩, hl, fun q hq => ⟨?_, rfl⟩⟩
        · show upd (upd (g.1 70) j (-1)) p (-1) i = eO (zset (zset (zs F) p none) j none i)
          rw [upd]
          by_cases e : i = p
          · rw [if_pos e]
            by_cases e2 : i = j
            · rw [e2, zset_s]; rfl
            · rw [zset_n e2, e, zset_s]; rfl
          · rw [if_neg e, upd]
            by_cases e2 : i = j
            · rw [if_pos e2, e2, zset_s]; rfl
            · rw [if_neg e2, zset_n e2, zset_n e]; exact c4 i hi
        · rw [sI_n (by omega), sI_n (by omega), sI_n (by omega)]
      · rw [bI_0] at h38
        unfold zmr at h38
        have hv : zdv F p = none := by unfold zdv; cases hq : zs F p with | none => rfl | some j => rw [hq] at h38; exact if_neg (fun hh => by have h39 : (zd F j).isNone = false := h38; rw [hh.2] at h39; cases h39)
        refine vq_iconst (v := 0) d_M_divorce_41 (by decide) ?_
        refine vq_zret d_M_divorce_42 rfl (by first | exact Or.inl rfl | exact Or.inr rfl | assumption) (by decide) (by decide) rfl rfl ?_
        have hF : f_divorce F (nI p) = F := by unfold f_divorce; rw [if_pos hk, hzp, hv]
        rw [hF, hk, hzp, hv]
        exact ⟨rfl, rfl, hm.thr _, hl, Dn.thr _⟩
  · rw [bI_n0, no_t, ← zok_u] at h6
    have hk : k_one F x = 1 := if_neg h6
    refine vq_iconst (v := 1) d_M_divorce_9 (by decide) ?_
    refine vq_goto (tgt := 14) d_M_divorce_10 (by decide) ?_
    refine vq_putI (k := 0) (C := R_M) (T := T_M) (ty := .int) t_M d_M_divorce_14 rfl in_M w_655 ty_M nm_M (by decide) rfl (by decide) rfl (by decide +kernel) rfl rfl rfl ?_
    refine vq_aload_n d_M_divorce_17 rfl ?_
    refine vq_getI (k := 0) (C := R_M) (T := T_M) d_M_divorce_18 rfl in_M w_655 (by decide) rfl (by decide) rfl ?_
    refine vq_int (y := 1) rfl ?_
    refine vq_if_gt (tgt := 41) d_M_divorce_21 (by decide) (fun h21 => ?_) (fun h21 => absurd h21 (by decide))
    refine vq_iconst (v := 0) d_M_divorce_41 (by decide) ?_
    refine vq_zret d_M_divorce_42 rfl (by first | exact Or.inl rfl | exact Or.inr rfl | assumption) (by decide) (by decide) rfl rfl ?_
    have hF : f_divorce F x = F := by unfold f_divorce; rw [if_neg (by rw [hk]; decide)]
    rw [hF, hk]
    exact ⟨rfl, rfl, hm.thr _, hl, Dn.thr _⟩
set_option maxRecDepth 100000 in
set_option maxHeartbeats 4000000 in
theorem ct_M_dies (l : Launch) (b : Nat) (id : Nat → ClassId) (D : va_G) {g : Sg} {F : Fam} (hV : zV F) (hm : Hm g F) {k : Lg} (hl : Hn g k) (x y : Int32) : qCT l b id D m_M_dies false [.ref (b + 67), .int x, .int y] 85 kT g 85 kT (mP (k_dies F x y) none none g (f_dies F x y) k) (fun _ _ => False) := by
  have hW := hV.1
  have hn := hW.1
  have h31 : zn F < 2 ^ 31 := by omega
  refine qCT_of rfl (by decide) (Nat.le_of_ble_eq_true rfl) ?_
  show Vq l b id D m_M_dies false 85 kT _ 85 kT _ 85 kT 0 0 0 [(0, .ref (b + 67)), (1, .int x), (2, .int y)] [] g
  refine vq_aload_n d_M_dies_0 rfl ?_
  refine vq_aload_n d_M_dies_1 rfl ?_
  refine vq_iload_n d_M_dies_2 rfl ?_
  refine vq_callV (n := 1) (C := R_M) (T := T_M) _ _ d_M_dies_3 (ct_M_no l b id D hn hm x) w_733 w_735 sel_M_no w_736 w_7 rfl ⟨by decide, by decide, by decide +kernel⟩ ⟨by decide, by decide⟩ (by decide) rfl rfl rfl rfl (Nat.le_of_ble_eq_true rfl) rfl rfl rfl ⟨by decide, by decide⟩ (fun _ _ h => h.elim) (fun v3 g3 h3 => ?_)
  rw [h3.1, h3.2]
  refine vq_if_ne (tgt := 20) d_M_dies_6 (by decide) (fun h6 => ?_) (fun h6 => ?_)
  · rw [bI_n0, no_t, ← zok_u] at h6
    have hk : k_dies F x y = 1 := by unfold k_dies; rw [if_neg (fun hh => h6 hh.1)]
    refine vq_iconst (v := 1) d_M_dies_20 (by decide) ?_
    refine vq_goto (tgt := 38) d_M_dies_21 (by decide) ?_
    refine vq_putI (k := 0) (C := R_M) (T := T_M) (ty := .int) t_M d_M_dies_38 rfl in_M w_655 ty_M nm_M (by decide) rfl (by decide) rfl (by decide +kernel) rfl rfl rfl ?_
    refine vq_aload_n d_M_dies_41 rfl ?_
    refine vq_getI (k := 0) (C := R_M) (T := T_M) d_M_dies_42 rfl in_M w_655 (by decide) rfl (by decide) rfl ?_
    refine vq_int (y := 1) rfl ?_
    refine vq_if_ne (tgt := 55) d_M_dies_45 (by decide) (fun h45 => ?_) (fun h45 => absurd h45 (by decide))
    refine vq_vret d_M_dies_55 rfl (by decide) (by decide) rfl rfl ?_
    have hk : k_dies F x y = 1 := by first | assumption | omega
    have hF : f_dies F x y = F := by unfold f_dies; rw [if_neg (by rw [hk]; decide)]
    rw [hF, hk]
    exact ⟨rfl, rfl, hm.thr _, hl, Dn.thr _⟩
  · rw [bI_0, no_f, ← zok_u] at h6
    refine vq_iload_n d_M_dies_9 rfl ?_
    refine vq_if_lt (tgt := 20) d_M_dies_10 (by decide) (fun h10 => ?_) (fun h10 => ?_)
    · simp only [Int32.lt_iff_toInt_lt, Int32.le_iff_toInt_le, ← Int32.toInt_inj, tI0, tI1, tIm1, tI999, tIm, tI20] at h10
      have hk : k_dies F x y = 1 := by unfold k_dies; rw [if_neg (fun hh => by omega)]
      refine vq_iconst (v := 1) d_M_dies_20 (by decide) ?_
      refine vq_goto (tgt := 38) d_M_dies_21 (by decide) ?_
      refine vq_putI (k := 0) (C := R_M) (T := T_M) (ty := .int) t_M d_M_dies_38 rfl in_M w_655 ty_M nm_M (by decide) rfl (by decide) rfl (by decide +kernel) rfl rfl rfl ?_
      refine vq_aload_n d_M_dies_41 rfl ?_
      refine vq_getI (k := 0) (C := R_M) (T := T_M) d_M_dies_42 rfl in_M w_655 (by decide) rfl (by decide) rfl ?_
      refine vq_int (y := 1) rfl ?_
      refine vq_if_ne (tgt := 55) d_M_dies_45 (by decide) (fun h45 => ?_) (fun h45 => absurd h45 (by decide))
      refine vq_vret d_M_dies_55 rfl (by decide) (by decide) rfl rfl ?_
      have hk : k_dies F x y = 1 := by first | assumption | omega
      have hF : f_dies F x y = F := by unfold f_dies; rw [if_neg (by rw [hk]; decide)]
      rw [hF, hk]
      exact ⟨rfl, rfl, hm.thr _, hl, Dn.thr _⟩
    · simp only [Int32.lt_iff_toInt_lt, Int32.le_iff_toInt_le, ← Int32.toInt_inj, tI0, tI1, tIm1, tI999, tIm, tI20] at h10
      refine vq_iload_n d_M_dies_13 rfl ?_
      refine vq_sipush (v := 999) d_M_dies_14 (by decide) ?_
      refine vq_icmp_le (tgt := 24) d_M_dies_17 (by decide) (fun h17 => ?_) (fun h17 => ?_)
      · simp only [Int32.lt_iff_toInt_lt, Int32.le_iff_toInt_le, ← Int32.toInt_inj, tI0, tI1, tIm1, tI999, tIm, tI20] at h17
        obtain ⟨p, hp, rfl⟩ := zok_p h6
        have hzp : zi (nI p) = p := zi_nI (by omega)
        refine vq_aload_n d_M_dies_24 rfl ?_
        refine vq_getR (k := 5) (C := R_M) (T := T_M) d_M_dies_25 rfl in_M w_660 (by decide) rfl (by decide) rfl rfl ?_
        refine vq_iload_n d_M_dies_28 rfl ?_
        refine vq_iald d_M_dies_29 (by decide) rfl rfl (show _ < 20 by omega) ?_
        refine vq_int (y := eO (zd F p)) (hm.2.2.2.2.1 p hp) ?_
        refine vq_if_lt (tgt := 37) d_M_dies_30 (by decide) (fun h30 => ?_) (fun h30 => ?_)
        · rw [eO_neg (zd_lt hW hp)] at h30
          have hk : k_dies F (nI p) y = 0 := by unfold k_dies; rw [if_pos ⟨h6, by omega, by omega⟩, hzp, if_neg (by rw [h30]; decide)]
          refine vq_iconst (v := 0) d_M_dies_37 (by decide) ?_
          refine vq_putI (k := 0) (C := R_M) (T := T_M) (ty := .int) t_M d_M_dies_38 rfl in_M w_655 ty_M nm_M (by decide) rfl (by decide) rfl (by decide +kernel) rfl rfl rfl ?_
          refine vq_aload_n d_M_dies_41 rfl ?_
          refine vq_getI (k := 0) (C := R_M) (T := T_M) d_M_dies_42 rfl in_M w_655 (by decide) rfl (by decide) rfl ?_
          refine vq_int (y := 0) rfl ?_
          refine vq_if_ne (tgt := 55) d_M_dies_45 (by decide) (fun h45 => absurd h45 (by decide)) (fun h45 => ?_)
          refine vq_aload_n d_M_dies_48 rfl ?_
          refine vq_getR (k := 5) (C := R_M) (T := T_M) d_M_dies_49 rfl in_M w_660 (by decide) rfl (by decide) rfl rfl ?_
          refine vq_iload_n d_M_dies_52 rfl ?_
          refine vq_iload_n d_M_dies_53 rfl ?_
          refine vq_iast d_M_dies_54 rfl (by decide) rfl rfl (show _ < 20 by omega) ?_
          refine vq_vret d_M_dies_55 rfl (by decide) (by decide) rfl rfl ?_
          obtain ⟨c1, c2, c3, c4, c5, c6, c7, c8⟩ := hm
          have hF : f_dies F (nI p) y = (zn F, za F, zb F, zs F, zset (zd F) p (some (zi y)), zo F, zg F, zx F) := by unfold f_dies; rw [if_pos hk, hzp]
          rw [hF, hk]
          refine ⟨rfl, rfl, ⟨c1, c2, c3, c4, fun i hi => ?_, c6, c7, c8⟩, hl, fun q hq => ⟨?_, rfl⟩⟩
          · show upd (g.1 71) p y i = eO (zset (zd F) p (some (zi y)) i)
            rw [upd]
            by_cases e : i = p
            · rw [if_pos e, e, zset_s]; exact nI_zi (by omega)
            · rw [if_neg e, zset_n e]; exact c5 i hi
          · rw [sI_n (by omega), sI_n (by omega)]
        · rw [eO_neg (zd_lt hW hp)] at h30
          have hk : k_dies F (nI p) y = 2 := by unfold k_dies; rw [if_pos ⟨h6, by omega, by omega⟩, hzp, if_pos (by cases hq : zd F p with | none => exact absurd hq h30 | some t => rfl)]
          refine vq_iconst (v := 2) d_M_dies_33 (by decide) ?_
          refine vq_goto (tgt := 38) d_M_dies_34 (by decide) ?_
          refine vq_putI (k := 0) (C := R_M) (T := T_M) (ty := .int) t_M d_M_dies_38 rfl in_M w_655 ty_M nm_M (by decide) rfl (by decide) rfl (by decide +kernel) rfl rfl rfl ?_
          refine vq_aload_n d_M_dies_41 rfl ?_
          refine vq_getI (k := 0) (C := R_M) (T := T_M) d_M_dies_42 rfl in_M w_655 (by decide) rfl (by decide) rfl ?_
          refine vq_int (y := 2) rfl ?_
          refine vq_if_ne (tgt := 55) d_M_dies_45 (by decide) (fun h45 => ?_) (fun h45 => absurd h45 (by decide))
          refine vq_vret d_M_dies_55 rfl (by decide) (by decide) rfl rfl ?_
          have hk : k_dies F (nI p) y = 2 := by first | assumption | omega
          have hF : f_dies F (nI p) y = F := by unfold f_dies; rw [if_neg (by rw [hk]; decide)]
          rw [hF, hk]
          exact ⟨rfl, rfl, hm.thr _, hl, Dn.thr _⟩
      · simp only [Int32.lt_iff_toInt_lt, Int32.le_iff_toInt_le, ← Int32.toInt_inj, tI0, tI1, tIm1, tI999, tIm, tI20] at h17
        have hk : k_dies F x y = 1 := by unfold k_dies; rw [if_neg (fun hh => by omega)]
        refine vq_iconst (v := 1) d_M_dies_20 (by decide) ?_
        refine vq_goto (tgt := 38) d_M_dies_21 (by decide) ?_
        refine vq_putI (k := 0) (C := R_M) (T := T_M) (ty := .int) t_M d_M_dies_38 rfl in_M w_655 ty_M nm_M (by decide) rfl (by decide) rfl (by decide +kernel) rfl rfl rfl ?_
        refine vq_aload_n d_M_dies_41 rfl ?_
        refine vq_getI (k := 0) (C := R_M) (T := T_M) d_M_dies_42 rfl in_M w_655 (by decide) rfl (by decide) rfl ?_
        refine vq_int (y := 1) rfl ?_
        refine vq_if_ne (tgt := 55) d_M_dies_45 (by decide) (fun h45 => ?_) (fun h45 => absurd h45 (by decide))
        refine vq_vret d_M_dies_55 rfl (by decide) (by decide) rfl rfl ?_
        have hk : k_dies F x y = 1 := by first | assumption | omega
        have hF : f_dies F x y = F := by unfold f_dies; rw [if_neg (by rw [hk]; decide)]
        rw [hF, hk]
        exact ⟨rfl, rfl, hm.thr _, hl, Dn.thr _⟩
set_option maxRecDepth 100000 in
set_option maxHeartbeats 4000000 in
theorem ct_M_estate (l : Launch) (b : Nat) (id : Nat → ClassId) (D : va_G) {g : Sg} {F : Fam} (hV : zV F) (hm : Hm g F) {k : Lg} (hl : Hn g k) (x y : Int32) : qCT l b id D m_M_estate false [.ref (b + 67), .int x, .int y] 85 kT g 85 kT (mP (k_estate F x y) none none g (f_estate F x y) k) (fun _ _ => False) := by
  have hW := hV.1
  have hn := hW.1
  have h31 : zn F < 2 ^ 31 := by omega
  refine qCT_of rfl (by decide) (Nat.le_of_ble_eq_true rfl) ?_
  show Vq l b id D m_M_estate false 85 kT _ 85 kT _ 85 kT 0 0 0 [(0, .ref (b + 67)), (1, .int x), (2, .int y)] [] g
  refine vq_aload_n d_M_estate_0 rfl ?_
  refine vq_aload_n d_M_estate_1 rfl ?_
  refine vq_iload_n d_M_estate_2 rfl ?_
  refine vq_callV (n := 1) (C := R_M) (T := T_M) _ _ d_M_estate_3 (ct_M_no l b id D hn hm x) w_733 w_735 sel_M_no w_736 w_7 rfl ⟨by decide, by decide, by decide +kernel⟩ ⟨by decide, by decide⟩ (by decide) rfl rfl rfl rfl (Nat.le_of_ble_eq_true rfl) rfl rfl rfl ⟨by decide, by decide⟩ (fun _ _ h => h.elim) (fun v3 g3 h3 => ?_)
  rw [h3.1, h3.2]
  refine vq_if_ne (tgt := 19) d_M_estate_6 (by decide) (fun h6 => ?_) (fun h6 => ?_)
  · rw [bI_n0, no_t, ← zok_u] at h6
    have hk : k_estate F x y = 1 := by unfold k_estate; rw [if_neg (fun hh => h6 hh.1)]
    refine vq_iconst (v := 1) d_M_estate_19 (by decide) ?_
    refine vq_goto (tgt := 24) d_M_estate_20 (by decide) ?_
    refine vq_putI (k := 0) (C := R_M) (T := T_M) (ty := .int) t_M d_M_estate_24 rfl in_M w_655 ty_M nm_M (by decide) rfl (by decide) rfl (by decide +kernel) rfl rfl rfl ?_
    refine vq_aload_n d_M_estate_27 rfl ?_
    refine vq_getI (k := 0) (C := R_M) (T := T_M) d_M_estate_28 rfl in_M w_655 (by decide) rfl (by decide) rfl ?_
    refine vq_int (y := 1) rfl ?_
    refine vq_if_ne (tgt := 41) d_M_estate_31 (by decide) (fun h31 => ?_) (fun h31 => absurd h31 (by decide))
    refine vq_vret d_M_estate_41 rfl (by decide) (by decide) rfl rfl ?_
    have hk : k_estate F x y = 1 := by first | assumption | omega
    have hF : f_estate F x y = F := by unfold f_estate; rw [if_neg (by rw [hk]; decide)]
    rw [hF, hk]
    exact ⟨rfl, rfl, hm.thr _, hl, Dn.thr _⟩
  · rw [bI_0, no_f, ← zok_u] at h6
    refine vq_iload_n d_M_estate_9 rfl ?_
    refine vq_if_lt (tgt := 19) d_M_estate_10 (by decide) (fun h10 => ?_) (fun h10 => ?_)
    · simp only [Int32.lt_iff_toInt_lt, Int32.le_iff_toInt_le, ← Int32.toInt_inj, tI0, tI1, tIm1, tI999, tIm, tI20] at h10
      have hk : k_estate F x y = 1 := by unfold k_estate; rw [if_neg (fun hh => by omega)]
      refine vq_iconst (v := 1) d_M_estate_19 (by decide) ?_
      refine vq_goto (tgt := 24) d_M_estate_20 (by decide) ?_
      refine vq_putI (k := 0) (C := R_M) (T := T_M) (ty := .int) t_M d_M_estate_24 rfl in_M w_655 ty_M nm_M (by decide) rfl (by decide) rfl (by decide +kernel) rfl rfl rfl ?_
      refine vq_aload_n d_M_estate_27 rfl ?_
      refine vq_getI (k := 0) (C := R_M) (T := T_M) d_M_estate_28 rfl in_M w_655 (by decide) rfl (by decide) rfl ?_
      refine vq_int (y := 1) rfl ?_
      refine vq_if_ne (tgt := 41) d_M_estate_31 (by decide) (fun h31 => ?_) (fun h31 => absurd h31 (by decide))
      refine vq_vret d_M_estate_41 rfl (by decide) (by decide) rfl rfl ?_
      have hk : k_estate F x y = 1 := by first | assumption | omega
      have hF : f_estate F x y = F := by unfold f_estate; rw [if_neg (by rw [hk]; decide)]
      rw [hF, hk]
      exact ⟨rfl, rfl, hm.thr _, hl, Dn.thr _⟩
    · simp only [Int32.lt_iff_toInt_lt, Int32.le_iff_toInt_le, ← Int32.toInt_inj, tI0, tI1, tIm1, tI999, tIm, tI20] at h10
      refine vq_iload_n d_M_estate_13 rfl ?_
      refine vq_ldc d_M_estate_14 w_769 ?_
      refine vq_icmp_le (tgt := 23) d_M_estate_16 (by decide) (fun h16 => ?_) (fun h16 => ?_)
      · simp only [Int32.lt_iff_toInt_lt, Int32.le_iff_toInt_le, ← Int32.toInt_inj, tI0, tI1, tIm1, tI999, tIm, tI20] at h16
        obtain ⟨p, hp, rfl⟩ := zok_p h6
        have hzp : zi (nI p) = p := zi_nI (by omega)
        have hk : k_estate F (nI p) y = 0 := by unfold k_estate; rw [if_pos ⟨h6, by omega, by omega⟩]
        refine vq_iconst (v := 0) d_M_estate_23 (by decide) ?_
        refine vq_putI (k := 0) (C := R_M) (T := T_M) (ty := .int) t_M d_M_estate_24 rfl in_M w_655 ty_M nm_M (by decide) rfl (by decide) rfl (by decide +kernel) rfl rfl rfl ?_
        refine vq_aload_n d_M_estate_27 rfl ?_
        refine vq_getI (k := 0) (C := R_M) (T := T_M) d_M_estate_28 rfl in_M w_655 (by decide) rfl (by decide) rfl ?_
        refine vq_int (y := 0) rfl ?_
        refine vq_if_ne (tgt := 41) d_M_estate_31 (by decide) (fun h31 => absurd h31 (by decide)) (fun h31 => ?_)
        refine vq_aload_n d_M_estate_34 rfl ?_
        refine vq_getR (k := 6) (C := R_M) (T := T_M) d_M_estate_35 rfl in_M w_661 (by decide) rfl (by decide) rfl rfl ?_
        refine vq_iload_n d_M_estate_38 rfl ?_
        refine vq_iload_n d_M_estate_39 rfl ?_
        refine vq_iast d_M_estate_40 rfl (by decide) rfl rfl (show _ < 20 by omega) ?_
        refine vq_vret d_M_estate_41 rfl (by decide) (by decide) rfl rfl ?_
        obtain ⟨c1, c2, c3, c4, c5, c6, c7, c8⟩ := hm
        have hF : f_estate F (nI p) y = (zn F, za F, zb F, zs F, zd F, zset (zo F) p (zi y), zg F, zx F) := by unfold f_estate; rw [if_pos hk, hzp]
        rw [hF, hk]
        refine ⟨rfl, rfl, ⟨c1, c2, c3, c4, c5, fun i hi => ?_, c7, c8⟩, hl, fun q hq => ⟨?_, rfl⟩⟩
        · show upd (g.1 72) p y i = nI (zset (zo F) p (zi y) i)
          rw [upd]
          by_cases e : i = p
          · rw [if_pos e, e, zset_s]; exact nI_zi (by omega)
          · rw [if_neg e, zset_n e]; exact c6 i hi
        · rw [sI_n (by omega), sI_n (by omega)]
      · simp only [Int32.lt_iff_toInt_lt, Int32.le_iff_toInt_le, ← Int32.toInt_inj, tI0, tI1, tIm1, tI999, tIm, tI20] at h16
        have hk : k_estate F x y = 1 := by unfold k_estate; rw [if_neg (fun hh => by omega)]
        refine vq_iconst (v := 1) d_M_estate_19 (by decide) ?_
        refine vq_goto (tgt := 24) d_M_estate_20 (by decide) ?_
        refine vq_putI (k := 0) (C := R_M) (T := T_M) (ty := .int) t_M d_M_estate_24 rfl in_M w_655 ty_M nm_M (by decide) rfl (by decide) rfl (by decide +kernel) rfl rfl rfl ?_
        refine vq_aload_n d_M_estate_27 rfl ?_
        refine vq_getI (k := 0) (C := R_M) (T := T_M) d_M_estate_28 rfl in_M w_655 (by decide) rfl (by decide) rfl ?_
        refine vq_int (y := 1) rfl ?_
        refine vq_if_ne (tgt := 41) d_M_estate_31 (by decide) (fun h31 => ?_) (fun h31 => absurd h31 (by decide))
        refine vq_vret d_M_estate_41 rfl (by decide) (by decide) rfl rfl ?_
        have hk : k_estate F x y = 1 := by first | assumption | omega
        have hF : f_estate F x y = F := by unfold f_estate; rw [if_neg (by rw [hk]; decide)]
        rw [hF, hk]
        exact ⟨rfl, rfl, hm.thr _, hl, Dn.thr _⟩
set_option maxRecDepth 100000 in
set_option maxHeartbeats 4000000 in
theorem ct_M_exclude (l : Launch) (b : Nat) (id : Nat → ClassId) (D : va_G) {g : Sg} {F : Fam} (hV : zV F) (hm : Hm g F) {k : Lg} (hl : Hn g k) (x y : Int32) (is : Bool) : qCT l b id D m_M_exclude false [.ref (b + 67), .int x, .int y, .int (bI is)] 85 kT g 85 kT (mP (k_two F x y) (some (.int (bI (!(zx F (zi x) (zi y) == is))))) (some (.int 0)) g (f_exclude F x y is) k) (fun _ _ => False) := by
  have hW := hV.1
  have hn := hW.1
  have h31 : zn F < 2 ^ 31 := by omega
  refine qCT_of rfl (by decide) (Nat.le_of_ble_eq_true rfl) ?_
  show Vq l b id D m_M_exclude false 85 kT _ 85 kT _ 85 kT 0 0 0 [(0, .ref (b + 67)), (1, .int x), (2, .int y), (3, .int (bI is))] [] g
  refine vq_aload_n d_M_exclude_0 rfl ?_
  refine vq_aload_n d_M_exclude_1 rfl ?_
  refine vq_iload_n d_M_exclude_2 rfl ?_
  refine vq_callV (n := 1) (C := R_M) (T := T_M) _ _ d_M_exclude_3 (ct_M_no l b id D hn hm x) w_733 w_735 sel_M_no w_736 w_7 rfl ⟨by decide, by decide, by decide +kernel⟩ ⟨by decide, by decide⟩ (by decide) rfl rfl rfl rfl (Nat.le_of_ble_eq_true rfl) rfl rfl rfl ⟨by decide, by decide⟩ (fun _ _ h => h.elim) (fun v3 g3 h3 => ?_)
  rw [h3.1, h3.2]
  refine vq_if_ne (tgt := 17) d_M_exclude_6 (by decide) (fun h6 => ?_) (fun h6 => ?_)
  · rw [bI_n0, no_t, ← zok_u] at h6
    have hk : k_two F x y = 1 := by unfold k_two; rw [if_neg (fun hh => h6 hh.1)]
    refine vq_iconst (v := 1) d_M_exclude_17 (by decide) ?_
    refine vq_goto (tgt := 22) d_M_exclude_18 (by decide) ?_
    refine vq_putI (k := 0) (C := R_M) (T := T_M) (ty := .int) t_M d_M_exclude_22 rfl in_M w_655 ty_M nm_M (by decide) rfl (by decide) rfl (by decide +kernel) rfl rfl rfl ?_
    refine vq_aload_n d_M_exclude_25 rfl ?_
    refine vq_getI (k := 0) (C := R_M) (T := T_M) d_M_exclude_26 rfl in_M w_655 (by decide) rfl (by decide) rfl ?_
    refine vq_int (y := 1) rfl ?_
    refine vq_if_le (tgt := 34) d_M_exclude_29 (by decide) (fun h29 => absurd h29 (by decide)) (fun h29 => ?_)
    refine vq_iconst (v := 0) d_M_exclude_32 (by decide) ?_
    refine vq_zret d_M_exclude_33 rfl (by first | exact Or.inl rfl | exact Or.inr rfl | assumption) (by decide) (by decide) rfl rfl ?_
    have hk : k_two F x y = 1 := by first | assumption | omega
    have hF : f_exclude F x y is = F := by unfold f_exclude; rw [if_neg (by rw [hk]; decide)]
    rw [hF, hk]
    exact ⟨rfl, rfl, hm.thr _, hl, Dn.thr _⟩
  · rw [bI_0, no_f, ← zok_u] at h6
    refine vq_aload_n d_M_exclude_9 rfl ?_
    refine vq_iload_n d_M_exclude_10 rfl ?_
    refine vq_callV (n := 1) (C := R_M) (T := T_M) _ _ d_M_exclude_11 (ct_M_no l b id D hn hm y) w_733 w_735 sel_M_no w_736 w_7 rfl ⟨by decide, by decide, by decide +kernel⟩ ⟨by decide, by decide⟩ (by decide) rfl rfl rfl rfl (Nat.le_of_ble_eq_true rfl) rfl rfl rfl ⟨by decide, by decide⟩ (fun _ _ h => h.elim) (fun v11 g11 h11 => ?_)
    rw [h11.1, h11.2]
    refine vq_if_eq (tgt := 21) d_M_exclude_14 (by decide) (fun h14 => ?_) (fun h14 => ?_)
    · rw [bI_0, no_f, ← zok_u] at h14
      obtain ⟨p, hp, rfl⟩ := zok_p h6
      have hzp : zi (nI p) = p := zi_nI (by omega)
      obtain ⟨r, hr, rfl⟩ := zok_p h14
      have hzr : zi (nI r) = r := zi_nI (by omega)
      have hk : k_two F (nI p) (nI r) = 0 := by unfold k_two; rw [if_pos ⟨h6, h14⟩]
      refine vq_iconst (v := 0) d_M_exclude_21 (by decide) ?_
      refine vq_putI (k := 0) (C := R_M) (T := T_M) (ty := .int) t_M d_M_exclude_22 rfl in_M w_655 ty_M nm_M (by decide) rfl (by decide) rfl (by decide +kernel) rfl rfl rfl ?_
      refine vq_aload_n d_M_exclude_25 rfl ?_
      refine vq_getI (k := 0) (C := R_M) (T := T_M) d_M_exclude_26 rfl in_M w_655 (by decide) rfl (by decide) rfl ?_
      refine vq_int (y := 0) rfl ?_
      refine vq_if_le (tgt := 34) d_M_exclude_29 (by decide) (fun h29 => ?_) (fun h29 => absurd h29 (by decide))
      refine vq_aload_n d_M_exclude_34 rfl ?_
      refine vq_getR (k := 8) (C := R_M) (T := T_M) d_M_exclude_35 rfl in_M w_663 (by decide) rfl (by decide) rfl rfl ?_
      refine vq_bipush (v := 20) d_M_exclude_38 (by decide) ?_
      refine vq_iload_n d_M_exclude_40 rfl ?_
      refine vq_imul d_M_exclude_41 ?_
      refine vq_iload_n d_M_exclude_42 rfl ?_
      refine vq_iadd d_M_exclude_43 ?_
      rw [ix20m]
      refine vq_zald d_M_exclude_44 (by decide) rfl rfl (show _ < 400 by omega) ?_
      refine vq_int (y := bI (zx F p r)) (hm.2.2.2.2.2.2.2 p r (by omega) (by omega)) ?_
      refine vq_istore (lv' := [(4, _), (0, _), (1, _), (2, _), (3, _)]) d_M_exclude_45 (by decide) rfl ?_
      refine vq_aload_n d_M_exclude_47 rfl ?_
      refine vq_getR (k := 8) (C := R_M) (T := T_M) d_M_exclude_48 rfl in_M w_663 (by decide) rfl (by decide) rfl rfl ?_
      refine vq_bipush (v := 20) d_M_exclude_51 (by decide) ?_
      refine vq_iload_n d_M_exclude_53 rfl ?_
      refine vq_imul d_M_exclude_54 ?_
      refine vq_iload_n d_M_exclude_55 rfl ?_
      refine vq_iadd d_M_exclude_56 ?_
      rw [ix20m]
      refine vq_iload_n d_M_exclude_57 rfl ?_
      refine vq_zast d_M_exclude_58 rfl (by decide) rfl rfl (show _ < 400 by omega) (bI_01 is) ?_
      refine vq_iload d_M_exclude_59 rfl ?_
      refine vq_iload_n d_M_exclude_61 rfl ?_
      refine vq_icmp_eq (tgt := 69) d_M_exclude_62 (by decide) (fun h62 => ?_) (fun h62 => ?_)
      · have e1 : zx F p r = is := by cases h1 : zx F p r <;> cases h2 : is <;> rw [h1, h2] at h62 <;> first | rfl | cases h62
        have e9 : (zx F p r == is) = true := by rw [e1]; exact beq_self_eq_true is
        refine vq_iconst (v := 0) d_M_exclude_69 (by decide) ?_
        refine vq_zret d_M_exclude_70 rfl (by first | exact Or.inl rfl | exact Or.inr rfl | assumption) (by decide) (by decide) rfl rfl ?_
        obtain ⟨c1, c2, c3, c4, c5, c6, c7, c8⟩ := hm
        have hF : f_exclude F (nI p) (nI r) is = (zn F, za F, zb F, zs F, zd F, zo F, zg F, zset (zx F) p (zset (zx F p) r is)) := by unfold f_exclude; rw [if_pos hk, hzp, hzr]
        rw [hF, hk, hzp, hzr, e9]
        refine ⟨rfl, rfl, ⟨c1, c2, c3, c4, c5, c6, c7, fun w f h1 h2 => ?_⟩, hl, fun q hq => ⟨?_, rfl⟩⟩
        · show upd (g.1 74) (20 * p + r) (bI is) (20 * w + f) = bI (zset (zx F) p (zset (zx F p) r is) w f)
          rw [upd]
          by_cases e : 20 * w + f = 20 * p + r
          · have e2 : w = p := by omega
            have e3 : f = r := by omega
            rw [if_pos e, e2, zset_s, e3, zset_s]
          · rw [if_neg e, c8 w f h1 h2]
            by_cases e2 : w = p
            · rw [e2, zset_s, zset_n (by omega)]
            · rw [zset_n e2]
        · rw [sI_n (by omega), sI_n (by omega)]
      · have e1 : ¬ zx F p r = is := fun h => h62 (by rw [h])
        have e9 : (zx F p r == is) = false := by simp [e1]
        refine vq_iconst (v := 1) d_M_exclude_65 (by decide) ?_
        refine vq_goto (tgt := 70) d_M_exclude_66 (by decide) ?_
        refine vq_zret d_M_exclude_70 rfl (by first | exact Or.inl rfl | exact Or.inr rfl | assumption) (by decide) (by decide) rfl rfl ?_
        obtain ⟨c1, c2, c3, c4, c5, c6, c7, c8⟩ := hm
        have hF : f_exclude F (nI p) (nI r) is = (zn F, za F, zb F, zs F, zd F, zo F, zg F, zset (zx F) p (zset (zx F p) r is)) := by unfold f_exclude; rw [if_pos hk, hzp, hzr]
        rw [hF, hk, hzp, hzr, e9]
        refine ⟨rfl, rfl, ⟨c1, c2, c3, c4, c5, c6, c7, fun w f h1 h2 => ?_⟩, hl, fun q hq => ⟨?_, rfl⟩⟩
        · show upd (g.1 74) (20 * p + r) (bI is) (20 * w + f) = bI (zset (zx F) p (zset (zx F p) r is) w f)
          rw [upd]
          by_cases e : 20 * w + f = 20 * p + r
          · have e2 : w = p := by omega
            have e3 : f = r := by omega
            rw [if_pos e, e2, zset_s, e3, zset_s]
          · rw [if_neg e, c8 w f h1 h2]
            by_cases e2 : w = p
            · rw [e2, zset_s, zset_n (by omega)]
            · rw [zset_n e2]
        · rw [sI_n (by omega), sI_n (by omega)]
    · rw [bI_n0, no_t, ← zok_u] at h14
      have hk : k_two F x y = 1 := by unfold k_two; rw [if_neg (fun hh => h14 hh.2)]
      refine vq_iconst (v := 1) d_M_exclude_17 (by decide) ?_
      refine vq_goto (tgt := 22) d_M_exclude_18 (by decide) ?_
      refine vq_putI (k := 0) (C := R_M) (T := T_M) (ty := .int) t_M d_M_exclude_22 rfl in_M w_655 ty_M nm_M (by decide) rfl (by decide) rfl (by decide +kernel) rfl rfl rfl ?_
      refine vq_aload_n d_M_exclude_25 rfl ?_
      refine vq_getI (k := 0) (C := R_M) (T := T_M) d_M_exclude_26 rfl in_M w_655 (by decide) rfl (by decide) rfl ?_
      refine vq_int (y := 1) rfl ?_
      refine vq_if_le (tgt := 34) d_M_exclude_29 (by decide) (fun h29 => absurd h29 (by decide)) (fun h29 => ?_)
      refine vq_iconst (v := 0) d_M_exclude_32 (by decide) ?_
      refine vq_zret d_M_exclude_33 rfl (by first | exact Or.inl rfl | exact Or.inr rfl | assumption) (by decide) (by decide) rfl rfl ?_
      have hk : k_two F x y = 1 := by first | assumption | omega
      have hF : f_exclude F x y is = F := by unfold f_exclude; rw [if_neg (by rw [hk]; decide)]
      rw [hF, hk]
      exact ⟨rfl, rfl, hm.thr _, hl, Dn.thr _⟩
theorem zfree_m {F : Fam} {p : Nat} : zfree F p = true ↔ (zd F p = none ∧ zmr F p = false) := by
  unfold zfree zmr
  cases zd F p with
  | some t => simp
  | none => cases zs F p with
    | none => simp
    | some j => cases hq : zd F j <;> simp [hq]
theorem km2 {F : Fam} {p r : Nat} (h1 : zok F (nI p)) (h2 : zok F (nI r)) (h3 : ¬ (nI p).toInt = (nI r).toInt) (hzp : zi (nI p) = p) (hzr : zi (nI r) = r) (h : ¬ (zd F p = none ∧ zmr F p = false) ∨ ¬ (zd F r = none ∧ zmr F r = false)) : k_marry F (nI p) (nI r) = 2 := by
  unfold k_marry
  rw [if_pos ⟨h1, h2, h3⟩, hzp, hzr, if_neg]
  rw [zfree_m, zfree_m]
  rcases h with h | h
  · exact fun hh => h hh.1
  · exact fun hh => h hh.2
theorem km0 {F : Fam} {p r : Nat} (h1 : zok F (nI p)) (h2 : zok F (nI r)) (h3 : ¬ (nI p).toInt = (nI r).toInt) (hzp : zi (nI p) = p) (hzr : zi (nI r) = r) (h4 : zd F p = none ∧ zmr F p = false) (h5 : zd F r = none ∧ zmr F r = false) : k_marry F (nI p) (nI r) = 0 := by
  unfold k_marry
  rw [if_pos ⟨h1, h2, h3⟩, hzp, hzr, if_pos ⟨zfree_m.mpr h4, zfree_m.mpr h5⟩]
set_option maxRecDepth 100000 in
set_option maxHeartbeats 4000000 in
theorem ct_M_marry (l : Launch) (b : Nat) (id : Nat → ClassId) (D : va_G) {g : Sg} {F : Fam} (hV : zV F) (hm : Hm g F) {k : Lg} (hl : Hn g k) (x y : Int32) : qCT l b id D m_M_marry false [.ref (b + 67), .int x, .int y] 85 kT g 85 kT (mP (k_marry F x y) none none g (f_marry F x y) k) (fun _ _ => False) := by
  have hW := hV.1
  have hn := hW.1
  have h31 : zn F < 2 ^ 31 := by omega
  refine qCT_of rfl (by decide) (Nat.le_of_ble_eq_true rfl) ?_
  show Vq l b id D m_M_marry false 85 kT _ 85 kT _ 85 kT 0 0 0 [(0, .ref (b + 67)), (1, .int x), (2, .int y)] [] g
  refine vq_aload_n d_M_marry_0 rfl ?_
  refine vq_aload_n d_M_marry_1 rfl ?_
  refine vq_iload_n d_M_marry_2 rfl ?_
  refine vq_callV (n := 1) (C := R_M) (T := T_M) _ _ d_M_marry_3 (ct_M_no l b id D hn hm x) w_733 w_735 sel_M_no w_736 w_7 rfl ⟨by decide, by decide, by decide +kernel⟩ ⟨by decide, by decide⟩ (by decide) rfl rfl rfl rfl (Nat.le_of_ble_eq_true rfl) rfl rfl rfl ⟨by decide, by decide⟩ (fun _ _ h => h.elim) (fun v3 g3 h3 => ?_)
  rw [h3.1, h3.2]
  refine vq_if_ne (tgt := 22) d_M_marry_6 (by decide) (fun h6 => ?_) (fun h6 => ?_)
  · rw [bI_n0, no_t, ← zok_u] at h6
    have hk : k_marry F x y = 1 := by unfold k_marry; rw [if_neg (fun hh => h6 hh.1)]
    refine vq_iconst (v := 1) d_M_marry_22 (by decide) ?_
    refine vq_goto (tgt := 65) d_M_marry_23 (by decide) ?_
    refine vq_putI (k := 0) (C := R_M) (T := T_M) (ty := .int) t_M d_M_marry_65 rfl in_M w_655 ty_M nm_M (by decide) rfl (by decide) rfl (by decide +kernel) rfl rfl rfl ?_
    refine vq_aload_n d_M_marry_68 rfl ?_
    refine vq_getI (k := 0) (C := R_M) (T := T_M) d_M_marry_69 rfl in_M w_655 (by decide) rfl (by decide) rfl ?_
    refine vq_int (y := 1) rfl ?_
    refine vq_if_ne (tgt := 89) d_M_marry_72 (by decide) (fun h72 => ?_) (fun h72 => absurd h72 (by decide))
    refine vq_vret d_M_marry_89 rfl (by decide) (by decide) rfl rfl ?_
    have hk : k_marry F x y = 1 := by first | assumption | omega
    have hF : f_marry F x y = F := by unfold f_marry; rw [if_neg (by rw [hk]; decide)]
    rw [hF, hk]
    exact ⟨rfl, rfl, hm.thr _, hl, Dn.thr _⟩
  · rw [bI_0, no_f, ← zok_u] at h6
    refine vq_aload_n d_M_marry_9 rfl ?_
    refine vq_iload_n d_M_marry_10 rfl ?_
    refine vq_callV (n := 1) (C := R_M) (T := T_M) _ _ d_M_marry_11 (ct_M_no l b id D hn hm y) w_733 w_735 sel_M_no w_736 w_7 rfl ⟨by decide, by decide, by decide +kernel⟩ ⟨by decide, by decide⟩ (by decide) rfl rfl rfl rfl (Nat.le_of_ble_eq_true rfl) rfl rfl rfl ⟨by decide, by decide⟩ (fun _ _ h => h.elim) (fun v11 g11 h11 => ?_)
    rw [h11.1, h11.2]
    refine vq_if_ne (tgt := 22) d_M_marry_14 (by decide) (fun h14 => ?_) (fun h14 => ?_)
    · rw [bI_n0, no_t, ← zok_u] at h14
      have hk : k_marry F x y = 1 := by unfold k_marry; rw [if_neg (fun hh => h14 hh.2.1)]
      refine vq_iconst (v := 1) d_M_marry_22 (by decide) ?_
      refine vq_goto (tgt := 65) d_M_marry_23 (by decide) ?_
      refine vq_putI (k := 0) (C := R_M) (T := T_M) (ty := .int) t_M d_M_marry_65 rfl in_M w_655 ty_M nm_M (by decide) rfl (by decide) rfl (by decide +kernel) rfl rfl rfl ?_
      refine vq_aload_n d_M_marry_68 rfl ?_
      refine vq_getI (k := 0) (C := R_M) (T := T_M) d_M_marry_69 rfl in_M w_655 (by decide) rfl (by decide) rfl ?_
      refine vq_int (y := 1) rfl ?_
      refine vq_if_ne (tgt := 89) d_M_marry_72 (by decide) (fun h72 => ?_) (fun h72 => absurd h72 (by decide))
      refine vq_vret d_M_marry_89 rfl (by decide) (by decide) rfl rfl ?_
      have hk : k_marry F x y = 1 := by first | assumption | omega
      have hF : f_marry F x y = F := by unfold f_marry; rw [if_neg (by rw [hk]; decide)]
      rw [hF, hk]
      exact ⟨rfl, rfl, hm.thr _, hl, Dn.thr _⟩
    · rw [bI_0, no_f, ← zok_u] at h14
      refine vq_iload_n d_M_marry_17 rfl ?_
      refine vq_iload_n d_M_marry_18 rfl ?_
      refine vq_icmp_ne (tgt := 26) d_M_marry_19 (by decide) (fun h19 => ?_) (fun h19 => ?_)
      · rw [← Int32.toInt_inj] at h19
        obtain ⟨p, hp, rfl⟩ := zok_p h6
        have hzp : zi (nI p) = p := zi_nI (by omega)
        obtain ⟨r, hr, rfl⟩ := zok_p h14
        have hzr : zi (nI r) = r := zi_nI (by omega)
        refine vq_aload_n d_M_marry_26 rfl ?_
        refine vq_getR (k := 5) (C := R_M) (T := T_M) d_M_marry_27 rfl in_M w_660 (by decide) rfl (by decide) rfl rfl ?_
        refine vq_iload_n d_M_marry_30 rfl ?_
        refine vq_iald d_M_marry_31 (by decide) rfl rfl (show _ < 20 by omega) ?_
        refine vq_int (y := eO (zd F p)) (hm.2.2.2.2.1 p hp) ?_
        refine vq_if_ge (tgt := 60) d_M_marry_32 (by decide) (fun h32 => ?_) (fun h32 => ?_)
        · rw [eO_nn (zd_lt hW hp)] at h32
          have hk := km2 h6 h14 h19 hzp hzr (Or.inl (fun h => h32 h.1))
          refine vq_iconst (v := 2) d_M_marry_60 (by decide) ?_
          refine vq_goto (tgt := 65) d_M_marry_61 (by decide) ?_
          refine vq_putI (k := 0) (C := R_M) (T := T_M) (ty := .int) t_M d_M_marry_65 rfl in_M w_655 ty_M nm_M (by decide) rfl (by decide) rfl (by decide +kernel) rfl rfl rfl ?_
          refine vq_aload_n d_M_marry_68 rfl ?_
          refine vq_getI (k := 0) (C := R_M) (T := T_M) d_M_marry_69 rfl in_M w_655 (by decide) rfl (by decide) rfl ?_
          refine vq_int (y := 2) rfl ?_
          refine vq_if_ne (tgt := 89) d_M_marry_72 (by decide) (fun h72 => ?_) (fun h72 => absurd h72 (by decide))
          refine vq_vret d_M_marry_89 rfl (by decide) (by decide) rfl rfl ?_
          have hk : k_marry F (nI p) (nI r) = 2 := by first | assumption | omega
          have hF : f_marry F (nI p) (nI r) = F := by unfold f_marry; rw [if_neg (by rw [hk]; decide)]
          rw [hF, hk]
          exact ⟨rfl, rfl, hm.thr _, hl, Dn.thr _⟩
        · rw [eO_nn (zd_lt hW hp)] at h32
          have d1 : zd F p = none := Decidable.not_not.mp h32
          refine vq_aload_n d_M_marry_35 rfl ?_
          refine vq_getR (k := 5) (C := R_M) (T := T_M) d_M_marry_36 rfl in_M w_660 (by decide) rfl (by decide) rfl rfl ?_
          refine vq_iload_n d_M_marry_39 rfl ?_
          refine vq_iald d_M_marry_40 (by decide) rfl rfl (show _ < 20 by omega) ?_
          refine vq_int (y := eO (zd F r)) (hm.2.2.2.2.1 r hr) ?_
          refine vq_if_ge (tgt := 60) d_M_marry_41 (by decide) (fun h41 => ?_) (fun h41 => ?_)
          · rw [eO_nn (zd_lt hW hr)] at h41
            have hk := km2 h6 h14 h19 hzp hzr (Or.inr (fun h => h41 h.1))
            refine vq_iconst (v := 2) d_M_marry_60 (by decide) ?_
            refine vq_goto (tgt := 65) d_M_marry_61 (by decide) ?_
            refine vq_putI (k := 0) (C := R_M) (T := T_M) (ty := .int) t_M d_M_marry_65 rfl in_M w_655 ty_M nm_M (by decide) rfl (by decide) rfl (by decide +kernel) rfl rfl rfl ?_
            refine vq_aload_n d_M_marry_68 rfl ?_
            refine vq_getI (k := 0) (C := R_M) (T := T_M) d_M_marry_69 rfl in_M w_655 (by decide) rfl (by decide) rfl ?_
            refine vq_int (y := 2) rfl ?_
            refine vq_if_ne (tgt := 89) d_M_marry_72 (by decide) (fun h72 => ?_) (fun h72 => absurd h72 (by decide))
            refine vq_vret d_M_marry_89 rfl (by decide) (by decide) rfl rfl ?_
            have hk : k_marry F (nI p) (nI r) = 2 := by first | assumption | omega
            have hF : f_marry F (nI p) (nI r) = F := by unfold f_marry; rw [if_neg (by rw [hk]; decide)]
            rw [hF, hk]
            exact ⟨rfl, rfl, hm.thr _, hl, Dn.thr _⟩
          · rw [eO_nn (zd_lt hW hr)] at h41
            have d2 : zd F r = none := Decidable.not_not.mp h41
            refine vq_aload_n d_M_marry_44 rfl ?_
            refine vq_iload_n d_M_marry_45 rfl ?_
            refine vq_callV (n := 1) (C := R_M) (T := T_M) _ _ d_M_marry_46 (ct_M_isMarried l b id D hW hm hp) w_745 w_747 sel_M_isMarried w_748 w_7 rfl ⟨by decide, by decide, by decide +kernel⟩ ⟨by decide, by decide⟩ (by decide) rfl rfl rfl rfl (Nat.le_of_ble_eq_true rfl) rfl rfl rfl ⟨by decide, by decide⟩ (fun _ _ h => h.elim) (fun v46 g46 h46 => ?_)
            rw [h46.1, h46.2]
            refine vq_if_ne (tgt := 60) d_M_marry_49 (by decide) (fun h49 => ?_) (fun h49 => ?_)
            · rw [bI_n0] at h49
              have hk := km2 h6 h14 h19 hzp hzr (Or.inl (fun h => by rw [h.2] at h49; cases h49))
              refine vq_iconst (v := 2) d_M_marry_60 (by decide) ?_
              refine vq_goto (tgt := 65) d_M_marry_61 (by decide) ?_
              refine vq_putI (k := 0) (C := R_M) (T := T_M) (ty := .int) t_M d_M_marry_65 rfl in_M w_655 ty_M nm_M (by decide) rfl (by decide) rfl (by decide +kernel) rfl rfl rfl ?_
              refine vq_aload_n d_M_marry_68 rfl ?_
              refine vq_getI (k := 0) (C := R_M) (T := T_M) d_M_marry_69 rfl in_M w_655 (by decide) rfl (by decide) rfl ?_
              refine vq_int (y := 2) rfl ?_
              refine vq_if_ne (tgt := 89) d_M_marry_72 (by decide) (fun h72 => ?_) (fun h72 => absurd h72 (by decide))
              refine vq_vret d_M_marry_89 rfl (by decide) (by decide) rfl rfl ?_
              have hk : k_marry F (nI p) (nI r) = 2 := by first | assumption | omega
              have hF : f_marry F (nI p) (nI r) = F := by unfold f_marry; rw [if_neg (by rw [hk]; decide)]
              rw [hF, hk]
              exact ⟨rfl, rfl, hm.thr _, hl, Dn.thr _⟩
            · rw [bI_0] at h49
              refine vq_aload_n d_M_marry_52 rfl ?_
              refine vq_iload_n d_M_marry_53 rfl ?_
              refine vq_callV (n := 1) (C := R_M) (T := T_M) _ _ d_M_marry_54 (ct_M_isMarried l b id D hW hm hr) w_745 w_747 sel_M_isMarried w_748 w_7 rfl ⟨by decide, by decide, by decide +kernel⟩ ⟨by decide, by decide⟩ (by decide) rfl rfl rfl rfl (Nat.le_of_ble_eq_true rfl) rfl rfl rfl ⟨by decide, by decide⟩ (fun _ _ h => h.elim) (fun v54 g54 h54 => ?_)
              rw [h54.1, h54.2]
              refine vq_if_eq (tgt := 64) d_M_marry_57 (by decide) (fun h57 => ?_) (fun h57 => ?_)
              · rw [bI_0] at h57
                have hk := km0 h6 h14 h19 hzp hzr ⟨d1, h49⟩ ⟨d2, h57⟩
                refine vq_iconst (v := 0) d_M_marry_64 (by decide) ?_
                refine vq_putI (k := 0) (C := R_M) (T := T_M) (ty := .int) t_M d_M_marry_65 rfl in_M w_655 ty_M nm_M (by decide) rfl (by decide) rfl (by decide +kernel) rfl rfl rfl ?_
                refine vq_aload_n d_M_marry_68 rfl ?_
                refine vq_getI (k := 0) (C := R_M) (T := T_M) d_M_marry_69 rfl in_M w_655 (by decide) rfl (by decide) rfl ?_
                refine vq_int (y := 0) rfl ?_
                refine vq_if_ne (tgt := 89) d_M_marry_72 (by decide) (fun h72 => absurd h72 (by decide)) (fun h72 => ?_)
                refine vq_aload_n d_M_marry_75 rfl ?_
                refine vq_getR (k := 4) (C := R_M) (T := T_M) d_M_marry_76 rfl in_M w_659 (by decide) rfl (by decide) rfl rfl ?_
                refine vq_iload_n d_M_marry_79 rfl ?_
                refine vq_iload_n d_M_marry_80 rfl ?_
                refine vq_iast d_M_marry_81 rfl (by decide) rfl rfl (show _ < 20 by omega) ?_
                refine vq_aload_n d_M_marry_82 rfl ?_
                refine vq_getR (k := 4) (C := R_M) (T := T_M) d_M_marry_83 rfl in_M w_659 (by decide) rfl (by decide) rfl rfl ?_
                refine vq_iload_n d_M_marry_86 rfl ?_
                refine vq_iload_n d_M_marry_87 rfl ?_
                refine vq_iast d_M_marry_88 rfl (by decide) rfl rfl (show _ < 20 by omega) ?_
                refine vq_vret d_M_marry_89 rfl (by decide) (by decide) rfl rfl ?_
                obtain ⟨c1, c2, c3, c4, c5, c6, c7, c8⟩ := hm
                have hF : f_marry F (nI p) (nI r) = (zn F, za F, zb F, zset (zset (zs F) p (some r)) r (some p), zd F, zo F, zg F, zx F) := by unfold f_marry; rw [if_pos hk, hzp, hzr]
                rw [hF, hk]
                refine ⟨rfl, rfl, ⟨c1, c2, c3, fun i hi => ?_, c5, c6, c7, c8⟩, hl, fun q hq => ⟨?_, rfl⟩⟩
                · show upd (upd (g.1 70) p (nI r)) r (nI p) i = eO (zset (zset (zs F) p (some r)) r (some p) i)
                  rw [upd]
                  by_cases e : i = r
                  · rw [if_pos e, e, zset_s]; rfl
                  · rw [if_neg e, zset_n e, upd]
                    by_cases e2 : i = p
                    · rw [if_pos e2, e2, zset_s]; rfl
                    · rw [if_neg e2, zset_n e2]; exact c4 i hi
                · rw [sI_n (by omega), sI_n (by omega), sI_n (by omega)]
              · rw [bI_n0] at h57
                have hk := km2 h6 h14 h19 hzp hzr (Or.inr (fun h => by rw [h.2] at h57; cases h57))
                refine vq_iconst (v := 2) d_M_marry_60 (by decide) ?_
                refine vq_goto (tgt := 65) d_M_marry_61 (by decide) ?_
                refine vq_putI (k := 0) (C := R_M) (T := T_M) (ty := .int) t_M d_M_marry_65 rfl in_M w_655 ty_M nm_M (by decide) rfl (by decide) rfl (by decide +kernel) rfl rfl rfl ?_
                refine vq_aload_n d_M_marry_68 rfl ?_
                refine vq_getI (k := 0) (C := R_M) (T := T_M) d_M_marry_69 rfl in_M w_655 (by decide) rfl (by decide) rfl ?_
                refine vq_int (y := 2) rfl ?_
                refine vq_if_ne (tgt := 89) d_M_marry_72 (by decide) (fun h72 => ?_) (fun h72 => absurd h72 (by decide))
                refine vq_vret d_M_marry_89 rfl (by decide) (by decide) rfl rfl ?_
                have hk : k_marry F (nI p) (nI r) = 2 := by first | assumption | omega
                have hF : f_marry F (nI p) (nI r) = F := by unfold f_marry; rw [if_neg (by rw [hk]; decide)]
                rw [hF, hk]
                exact ⟨rfl, rfl, hm.thr _, hl, Dn.thr _⟩
      · rw [← Int32.toInt_inj] at h19
        have hk : k_marry F x y = 1 := by unfold k_marry; rw [if_neg (fun hh => hh.2.2 h19)]
        refine vq_iconst (v := 1) d_M_marry_22 (by decide) ?_
        refine vq_goto (tgt := 65) d_M_marry_23 (by decide) ?_
        refine vq_putI (k := 0) (C := R_M) (T := T_M) (ty := .int) t_M d_M_marry_65 rfl in_M w_655 ty_M nm_M (by decide) rfl (by decide) rfl (by decide +kernel) rfl rfl rfl ?_
        refine vq_aload_n d_M_marry_68 rfl ?_
        refine vq_getI (k := 0) (C := R_M) (T := T_M) d_M_marry_69 rfl in_M w_655 (by decide) rfl (by decide) rfl ?_
        refine vq_int (y := 1) rfl ?_
        refine vq_if_ne (tgt := 89) d_M_marry_72 (by decide) (fun h72 => ?_) (fun h72 => absurd h72 (by decide))
        refine vq_vret d_M_marry_89 rfl (by decide) (by decide) rfl rfl ?_
        have hk : k_marry F x y = 1 := by first | assumption | omega
        have hF : f_marry F x y = F := by unfold f_marry; rw [if_neg (by rw [hk]; decide)]
        rw [hF, hk]
        exact ⟨rfl, rfl, hm.thr _, hl, Dn.thr _⟩
set_option maxRecDepth 100000 in
set_option maxHeartbeats 4000000 in
theorem ct_M_gift (l : Launch) (b : Nat) (id : Nat → ClassId) (D : va_G) {g : Sg} {F : Fam} (hV : zV F) (hm : Hm g F) {k : Lg} (hl : Hn g k) (x y w : Int32) : qCT l b id D m_M_gift false [.ref (b + 67), .int x, .int y, .int w] 85 kT g 85 kT (mP (k_gift F x y w) (some (.int (nI (zg F (zi x) (zi y) + zi w)))) (some (.int 0)) g (f_gift F x y w) k) (fun _ _ => False) := by
  have hW := hV.1
  have hn := hW.1
  have h31 : zn F < 2 ^ 31 := by omega
  refine qCT_of rfl (by decide) (Nat.le_of_ble_eq_true rfl) ?_
  show Vq l b id D m_M_gift false 85 kT _ 85 kT _ 85 kT 0 0 0 [(0, .ref (b + 67)), (1, .int x), (2, .int y), (3, .int w)] [] g
  have s64 : ∀ (c : Bool), ((c = true → ¬ (zok F x ∧ zok F y ∧ zch F (zi x) (zi y) = true ∧ 1 ≤ w.toInt ∧ w.toInt ≤ 1000000)) ∧ (c = false → (zok F x ∧ zok F y ∧ zch F (zi x) (zi y) = true ∧ 1 ≤ w.toInt ∧ w.toInt ≤ 1000000))) → Vq l b id D m_M_gift false 85 kT (mP (k_gift F x y w) (some (.int (nI (zg F (zi x) (zi y) + zi w)))) (some (.int 0)) g (f_gift F x y w) k) 85 kT (fun _ _ => False) 85 kT 0 0 64 [(0, .ref (b + 67)), (1, .int x), (2, .int y), (3, .int w)] [.int (bI c)] g := by
    intro c hw
    refine vq_istore (lv' := [(4, _), (0, _), (1, _), (2, _), (3, _)]) d_M_gift_64 (by decide) rfl ?_
    refine vq_aload_n d_M_gift_66 rfl ?_
    refine vq_iload d_M_gift_67 rfl ?_
    refine vq_if_eq (tgt := 76) d_M_gift_69 (by decide) (fun h69 => ?_) (fun h69 => ?_)
    · rw [bI_0] at h69
      obtain ⟨hx, hy, hch, hw1, hw2⟩ := hw.2 h69
      obtain ⟨p, hp, rfl⟩ := zok_p hx
      have hzp : zi (nI p) = p := zi_nI (by omega)
      obtain ⟨r, hr, rfl⟩ := zok_p hy
      have hzr : zi (nI r) = r := zi_nI (by omega)
      have hgl := hW.2.2.2.2.2.2.2 p r
      have hwl : zi w ≤ 1000000 := by unfold zi; omega
      rw [hzp, hzr] at hch
      refine vq_aload_n d_M_gift_76 rfl ?_
      refine vq_getR (k := 7) (C := R_M) (T := T_M) d_M_gift_77 rfl in_M w_662 (by decide) rfl (by decide) rfl rfl ?_
      refine vq_bipush (v := 20) d_M_gift_80 (by decide) ?_
      refine vq_iload_n d_M_gift_82 rfl ?_
      refine vq_imul d_M_gift_83 ?_
      refine vq_iload_n d_M_gift_84 rfl ?_
      refine vq_iadd d_M_gift_85 ?_
      rw [ix20m]
      refine vq_iald d_M_gift_86 (by decide) rfl rfl (show _ < 400 by omega) ?_
      refine vq_int (y := nI (zg F p r)) (hm.2.2.2.2.2.2.1 p r (by omega) (by omega)) ?_
      refine vq_iload_n d_M_gift_87 rfl ?_
      refine vq_iadd d_M_gift_88 ?_
      rw [show nI (zg F p r) + w = nI (zg F p r + zi w) by rw [← nI_add, ← nI_zi (x := w) (by omega)]]
      refine vq_ldc d_M_gift_89 w_769 ?_
      refine vq_icmp_le (tgt := 98) d_M_gift_91 (by decide) (fun h91 => ?_) (fun h91 => ?_)
      · simp only [Int32.lt_iff_toInt_lt, Int32.le_iff_toInt_le, ← Int32.toInt_inj, tI0, tI1, tIm1, tI999, tIm, tI20, nI_toInt (show zg F p r + zi w < 2 ^ 31 by omega)] at h91
        have hk : k_gift F (nI p) (nI r) w = 0 := by unfold k_gift; rw [hzp, hzr, if_pos ⟨hx, hy, hch, hw1, hw2⟩, if_pos (by omega)]
        refine vq_iconst (v := 0) d_M_gift_98 (by decide) ?_
        refine vq_putI (k := 0) (C := R_M) (T := T_M) (ty := .int) t_M d_M_gift_99 rfl in_M w_655 ty_M nm_M (by decide) rfl (by decide) rfl (by decide +kernel) rfl rfl rfl ?_
        refine vq_aload_n d_M_gift_102 rfl ?_
        refine vq_getI (k := 0) (C := R_M) (T := T_M) d_M_gift_103 rfl in_M w_655 (by decide) rfl (by decide) rfl ?_
        refine vq_int (y := 0) rfl ?_
        refine vq_if_le (tgt := 111) d_M_gift_106 (by decide) (fun h106 => ?_) (fun h106 => absurd h106 (by decide))
        refine vq_aload_n d_M_gift_111 rfl ?_
        refine vq_getR (k := 7) (C := R_M) (T := T_M) d_M_gift_112 rfl in_M w_662 (by decide) rfl (by decide) rfl rfl ?_
        refine vq_bipush (v := 20) d_M_gift_115 (by decide) ?_
        refine vq_iload_n d_M_gift_117 rfl ?_
        refine vq_imul d_M_gift_118 ?_
        refine vq_iload_n d_M_gift_119 rfl ?_
        refine vq_iadd d_M_gift_120 ?_
        rw [ix20m]
        refine vq_aload_n d_M_gift_121 rfl ?_
        refine vq_getR (k := 7) (C := R_M) (T := T_M) d_M_gift_122 rfl in_M w_662 (by decide) rfl (by decide) rfl rfl ?_
        refine vq_bipush (v := 20) d_M_gift_125 (by decide) ?_
        refine vq_iload_n d_M_gift_127 rfl ?_
        refine vq_imul d_M_gift_128 ?_
        refine vq_iload_n d_M_gift_129 rfl ?_
        refine vq_iadd d_M_gift_130 ?_
        rw [ix20m]
        refine vq_iald d_M_gift_131 (by decide) rfl rfl (show _ < 400 by omega) ?_
        refine vq_int (y := nI (zg F p r)) (hm.2.2.2.2.2.2.1 p r (by omega) (by omega)) ?_
        refine vq_iload_n d_M_gift_132 rfl ?_
        refine vq_iadd d_M_gift_133 ?_
        rw [show nI (zg F p r) + w = nI (zg F p r + zi w) by rw [← nI_add, ← nI_zi (x := w) (by omega)]]
        refine vq_iast d_M_gift_134 rfl (by decide) rfl rfl (show _ < 400 by omega) ?_
        refine vq_aload_n d_M_gift_135 rfl ?_
        refine vq_getR (k := 7) (C := R_M) (T := T_M) d_M_gift_136 rfl in_M w_662 (by decide) rfl (by decide) rfl rfl ?_
        refine vq_bipush (v := 20) d_M_gift_139 (by decide) ?_
        refine vq_iload_n d_M_gift_141 rfl ?_
        refine vq_imul d_M_gift_142 ?_
        refine vq_iload_n d_M_gift_143 rfl ?_
        refine vq_iadd d_M_gift_144 ?_
        rw [ix20m]
        refine vq_iald d_M_gift_145 (by decide) rfl rfl (show _ < 400 by omega) ?_
        refine vq_int (y := nI (zg F p r + zi w)) (by show upd (g.1 73) (20 * p + r) (nI (zg F p r + zi w)) (20 * p + r) = _; rw [upd, if_pos rfl]) ?_
        refine vq_iret d_M_gift_146 rfl (by decide) (by decide) rfl rfl ?_
        obtain ⟨c1, c2, c3, c4, c5, c6, c7, c8⟩ := hm
        have hF : f_gift F (nI p) (nI r) w = (zn F, za F, zb F, zs F, zd F, zo F, zset (zg F) p (zset (zg F p) r (zg F p r + zi w)), zx F) := by unfold f_gift; rw [if_pos hk, hzp, hzr]
        rw [hF, hk, hzp, hzr]
        refine ⟨rfl, rfl, ⟨c1, c2, c3, c4, c5, c6, fun c i h1 h2 => ?_, c8⟩, hl, fun q hq => ⟨?_, rfl⟩⟩
        · show upd (g.1 73) (20 * p + r) (nI (zg F p r + zi w)) (20 * c + i) = nI (zset (zg F) p (zset (zg F p) r (zg F p r + zi w)) c i)
          rw [upd]
          by_cases e : 20 * c + i = 20 * p + r
          · have e2 : c = p := by omega
            have e3 : i = r := by omega
            rw [if_pos e, e2, zset_s, e3, zset_s]
          · rw [if_neg e, c7 c i h1 h2]
            by_cases e2 : c = p
            · rw [e2, zset_s, zset_n (by omega)]
            · rw [zset_n e2]
        · rw [sI_n (by omega), sI_n (by omega)]
      · simp only [Int32.lt_iff_toInt_lt, Int32.le_iff_toInt_le, ← Int32.toInt_inj, tI0, tI1, tIm1, tI999, tIm, tI20, nI_toInt (show zg F p r + zi w < 2 ^ 31 by omega)] at h91
        have hk : k_gift F (nI p) (nI r) w = 2 := by unfold k_gift; rw [hzp, hzr, if_pos ⟨hx, hy, hch, hw1, hw2⟩, if_neg (by omega)]
        refine vq_iconst (v := 2) d_M_gift_94 (by decide) ?_
        refine vq_goto (tgt := 99) d_M_gift_95 (by decide) ?_
        refine vq_putI (k := 0) (C := R_M) (T := T_M) (ty := .int) t_M d_M_gift_99 rfl in_M w_655 ty_M nm_M (by decide) rfl (by decide) rfl (by decide +kernel) rfl rfl rfl ?_
        refine vq_aload_n d_M_gift_102 rfl ?_
        refine vq_getI (k := 0) (C := R_M) (T := T_M) d_M_gift_103 rfl in_M w_655 (by decide) rfl (by decide) rfl ?_
        refine vq_int (y := 2) rfl ?_
        refine vq_if_le (tgt := 111) d_M_gift_106 (by decide) (fun h106 => absurd h106 (by decide)) (fun h106 => ?_)
        refine vq_iconst (v := 0) d_M_gift_109 (by decide) ?_
        refine vq_iret d_M_gift_110 rfl (by decide) (by decide) rfl rfl ?_
        have hk : k_gift F (nI p) (nI r) w = 2 := by first | assumption | omega
        have hF : f_gift F (nI p) (nI r) w = F := by unfold f_gift; rw [if_neg (by rw [hk]; decide)]
        rw [hF, hk]
        exact ⟨rfl, rfl, hm.thr _, hl, Dn.thr _⟩
    · rw [bI_n0] at h69
      have hk : k_gift F x y w = 1 := by unfold k_gift; rw [if_neg (hw.1 h69)]
      refine vq_iconst (v := 1) d_M_gift_72 (by decide) ?_
      refine vq_goto (tgt := 99) d_M_gift_73 (by decide) ?_
      refine vq_putI (k := 0) (C := R_M) (T := T_M) (ty := .int) t_M d_M_gift_99 rfl in_M w_655 ty_M nm_M (by decide) rfl (by decide) rfl (by decide +kernel) rfl rfl rfl ?_
      refine vq_aload_n d_M_gift_102 rfl ?_
      refine vq_getI (k := 0) (C := R_M) (T := T_M) d_M_gift_103 rfl in_M w_655 (by decide) rfl (by decide) rfl ?_
      refine vq_int (y := 1) rfl ?_
      refine vq_if_le (tgt := 111) d_M_gift_106 (by decide) (fun h106 => absurd h106 (by decide)) (fun h106 => ?_)
      refine vq_iconst (v := 0) d_M_gift_109 (by decide) ?_
      refine vq_iret d_M_gift_110 rfl (by decide) (by decide) rfl rfl ?_
      have hk : k_gift F x y w = 1 := by first | assumption | omega
      have hF : f_gift F x y w = F := by unfold f_gift; rw [if_neg (by rw [hk]; decide)]
      rw [hF, hk]
      exact ⟨rfl, rfl, hm.thr _, hl, Dn.thr _⟩
  have s32 : ∀ (c : Bool), ((c = true → ¬ (zok F x ∧ zok F y ∧ 1 ≤ w.toInt ∧ w.toInt ≤ 1000000)) ∧ (c = false → (zok F x ∧ zok F y ∧ 1 ≤ w.toInt ∧ w.toInt ≤ 1000000))) → Vq l b id D m_M_gift false 85 kT (mP (k_gift F x y w) (some (.int (nI (zg F (zi x) (zi y) + zi w)))) (some (.int 0)) g (f_gift F x y w) k) 85 kT (fun _ _ => False) 85 kT 0 0 32 [(0, .ref (b + 67)), (1, .int x), (2, .int y), (3, .int w)] [.int (bI c)] g := by
    intro c hw
    refine vq_istore (lv' := [(4, _), (0, _), (1, _), (2, _), (3, _)]) d_M_gift_32 (by decide) rfl ?_
    refine vq_iload d_M_gift_34 rfl ?_
    refine vq_if_ne (tgt := 59) d_M_gift_36 (by decide) (fun h36 => ?_) (fun h36 => ?_)
    · rw [bI_n0] at h36
      have hq := hw.1 h36
      refine vq_iconst (v := 1) d_M_gift_59 (by decide) ?_
      refine vq_goto (tgt := 64) d_M_gift_60 (by decide) ?_
      refine vq_pk [1, 2, 3, 4] (lv' := [(0, _), (1, _), (2, _), (3, _)]) rfl ?_
      first
        | exact s64 true ⟨fun _ h => hq ⟨h.1, h.2.1, h.2.2.2⟩, (fun h => nomatch h)⟩
        | exact s64 true ⟨fun _ h => by have := h.2.2.1; simp [zch, h46, h56] at this, (fun h => nomatch h)⟩
        | (refine s64 false ⟨(fun h => nomatch h), fun _ => ⟨hq.1, hq.2.1, ?_, hq.2.2⟩⟩; simp [zch, h46]; done)
        | (refine s64 false ⟨(fun h => nomatch h), fun _ => ⟨hq.1, hq.2.1, ?_, hq.2.2⟩⟩; simp [zch, h56]; done)
    · rw [bI_0] at h36
      have hq := hw.2 h36
      refine vq_aload_n d_M_gift_39 rfl ?_
      refine vq_getR (k := 2) (C := R_M) (T := T_M) d_M_gift_40 rfl in_M w_657 (by decide) rfl (by decide) rfl rfl ?_
      refine vq_iload_n d_M_gift_43 rfl ?_
      refine vq_iald d_M_gift_44 (by decide) rfl (nI_zi (zok_u.mp hq.1).1) (show _ < 20 by have := zok_i hq.1; omega) ?_
      refine vq_int (y := eO (za F (zi x))) (by rw [← hm.2.1 (zi x) (zok_i hq.1)]) ?_
      refine vq_iload_n d_M_gift_45 rfl ?_
      refine vq_icmp_eq (tgt := 63) d_M_gift_46 (by decide) (fun h46 => ?_) (fun h46 => ?_)
      · have hyr := nI_zi (zok_u.mp hq.2.1).1
        have hxl := zok_i hq.1
        have hyl := zok_i hq.2.1
        rw [hyr, eO_nI (za_lt hW hxl) (by omega)] at h46
        refine vq_iconst (v := 0) d_M_gift_63 (by decide) ?_
        refine vq_pk [1, 2, 3, 4] (lv' := [(0, _), (1, _), (2, _), (3, _)]) rfl ?_
        first
          | exact s64 true ⟨fun _ h => hq ⟨h.1, h.2.1, h.2.2.2⟩, (fun h => nomatch h)⟩
          | exact s64 true ⟨fun _ h => by have := h.2.2.1; simp [zch, h46, h56] at this, (fun h => nomatch h)⟩
          | (refine s64 false ⟨(fun h => nomatch h), fun _ => ⟨hq.1, hq.2.1, ?_, hq.2.2⟩⟩; simp [zch, h46]; done)
          | (refine s64 false ⟨(fun h => nomatch h), fun _ => ⟨hq.1, hq.2.1, ?_, hq.2.2⟩⟩; simp [zch, h56]; done)
      · have hyr := nI_zi (zok_u.mp hq.2.1).1
        have hxl := zok_i hq.1
        have hyl := zok_i hq.2.1
        rw [hyr, eO_nI (za_lt hW hxl) (by omega)] at h46
        refine vq_aload_n d_M_gift_49 rfl ?_
        refine vq_getR (k := 3) (C := R_M) (T := T_M) d_M_gift_50 rfl in_M w_658 (by decide) rfl (by decide) rfl rfl ?_
        refine vq_iload_n d_M_gift_53 rfl ?_
        refine vq_iald d_M_gift_54 (by decide) rfl (nI_zi (zok_u.mp hq.1).1) (show _ < 20 by have := zok_i hq.1; omega) ?_
        refine vq_int (y := eO (zb F (zi x))) (by rw [← hm.2.2.1 (zi x) (zok_i hq.1)]) ?_
        refine vq_iload_n d_M_gift_55 rfl ?_
        refine vq_icmp_eq (tgt := 63) d_M_gift_56 (by decide) (fun h56 => ?_) (fun h56 => ?_)
        · rw [hyr, eO_nI (zb_lt hW hxl) (by omega)] at h56
          refine vq_iconst (v := 0) d_M_gift_63 (by decide) ?_
          refine vq_pk [1, 2, 3, 4] (lv' := [(0, _), (1, _), (2, _), (3, _)]) rfl ?_
          first
            | exact s64 true ⟨fun _ h => hq ⟨h.1, h.2.1, h.2.2.2⟩, (fun h => nomatch h)⟩
            | exact s64 true ⟨fun _ h => by have := h.2.2.1; simp [zch, h46, h56] at this, (fun h => nomatch h)⟩
            | (refine s64 false ⟨(fun h => nomatch h), fun _ => ⟨hq.1, hq.2.1, ?_, hq.2.2⟩⟩; simp [zch, h46]; done)
            | (refine s64 false ⟨(fun h => nomatch h), fun _ => ⟨hq.1, hq.2.1, ?_, hq.2.2⟩⟩; simp [zch, h56]; done)
        · rw [hyr, eO_nI (zb_lt hW hxl) (by omega)] at h56
          refine vq_iconst (v := 1) d_M_gift_59 (by decide) ?_
          refine vq_goto (tgt := 64) d_M_gift_60 (by decide) ?_
          refine vq_pk [1, 2, 3, 4] (lv' := [(0, _), (1, _), (2, _), (3, _)]) rfl ?_
          first
            | exact s64 true ⟨fun _ h => hq ⟨h.1, h.2.1, h.2.2.2⟩, (fun h => nomatch h)⟩
            | exact s64 true ⟨fun _ h => by have := h.2.2.1; simp [zch, h46, h56] at this, (fun h => nomatch h)⟩
            | (refine s64 false ⟨(fun h => nomatch h), fun _ => ⟨hq.1, hq.2.1, ?_, hq.2.2⟩⟩; simp [zch, h46]; done)
            | (refine s64 false ⟨(fun h => nomatch h), fun _ => ⟨hq.1, hq.2.1, ?_, hq.2.2⟩⟩; simp [zch, h56]; done)
  refine vq_aload_n d_M_gift_0 rfl ?_
  refine vq_iload_n d_M_gift_1 rfl ?_
  refine vq_callV (n := 1) (C := R_M) (T := T_M) _ _ d_M_gift_2 (ct_M_no l b id D hn hm x) w_733 w_735 sel_M_no w_736 w_7 rfl ⟨by decide, by decide, by decide +kernel⟩ ⟨by decide, by decide⟩ (by decide) rfl rfl rfl rfl (Nat.le_of_ble_eq_true rfl) rfl rfl rfl ⟨by decide, by decide⟩ (fun _ _ h => h.elim) (fun v2 g2 h2 => ?_)
  rw [h2.1, h2.2]
  refine vq_if_ne (tgt := 27) d_M_gift_5 (by decide) (fun h5 => ?_) (fun h5 => ?_)
  · rw [bI_n0, no_t] at h5
    refine vq_iconst (v := 1) d_M_gift_27 (by decide) ?_
    refine vq_goto (tgt := 32) d_M_gift_28 (by decide) ?_
    first
      | exact s32 true ⟨fun _ h => by have h9 := zok_u.mp h.1; have h8 := zok_u.mp h.2.1; omega, (fun h => nomatch h)⟩
      | exact s32 false ⟨(fun h => nomatch h), fun _ => ⟨zok_u.mpr (by omega), zok_u.mpr (by omega), by omega, by omega⟩⟩
  · rw [bI_0, no_f] at h5
    refine vq_aload_n d_M_gift_8 rfl ?_
    refine vq_iload_n d_M_gift_9 rfl ?_
    refine vq_callV (n := 1) (C := R_M) (T := T_M) _ _ d_M_gift_10 (ct_M_no l b id D hn hm y) w_733 w_735 sel_M_no w_736 w_7 rfl ⟨by decide, by decide, by decide +kernel⟩ ⟨by decide, by decide⟩ (by decide) rfl rfl rfl rfl (Nat.le_of_ble_eq_true rfl) rfl rfl rfl ⟨by decide, by decide⟩ (fun _ _ h => h.elim) (fun v10 g10 h10 => ?_)
    rw [h10.1, h10.2]
    refine vq_if_ne (tgt := 27) d_M_gift_13 (by decide) (fun h13 => ?_) (fun h13 => ?_)
    · rw [bI_n0, no_t] at h13
      refine vq_iconst (v := 1) d_M_gift_27 (by decide) ?_
      refine vq_goto (tgt := 32) d_M_gift_28 (by decide) ?_
      first
        | exact s32 true ⟨fun _ h => by have h9 := zok_u.mp h.1; have h8 := zok_u.mp h.2.1; omega, (fun h => nomatch h)⟩
        | exact s32 false ⟨(fun h => nomatch h), fun _ => ⟨zok_u.mpr (by omega), zok_u.mpr (by omega), by omega, by omega⟩⟩
    · rw [bI_0, no_f] at h13
      refine vq_iload_n d_M_gift_16 rfl ?_
      refine vq_iconst (v := 1) d_M_gift_17 (by decide) ?_
      refine vq_icmp_lt (tgt := 27) d_M_gift_18 (by decide) (fun h18 => ?_) (fun h18 => ?_)
      · simp only [Int32.lt_iff_toInt_lt, Int32.le_iff_toInt_le, ← Int32.toInt_inj, tI0, tI1, tIm1, tI999, tIm, tI20] at h18
        refine vq_iconst (v := 1) d_M_gift_27 (by decide) ?_
        refine vq_goto (tgt := 32) d_M_gift_28 (by decide) ?_
        first
          | exact s32 true ⟨fun _ h => by have h9 := zok_u.mp h.1; have h8 := zok_u.mp h.2.1; omega, (fun h => nomatch h)⟩
          | exact s32 false ⟨(fun h => nomatch h), fun _ => ⟨zok_u.mpr (by omega), zok_u.mpr (by omega), by omega, by omega⟩⟩
      · simp only [Int32.lt_iff_toInt_lt, Int32.le_iff_toInt_le, ← Int32.toInt_inj, tI0, tI1, tIm1, tI999, tIm, tI20] at h18
        refine vq_iload_n d_M_gift_21 rfl ?_
        refine vq_ldc d_M_gift_22 w_769 ?_
        refine vq_icmp_le (tgt := 31) d_M_gift_24 (by decide) (fun h24 => ?_) (fun h24 => ?_)
        · simp only [Int32.lt_iff_toInt_lt, Int32.le_iff_toInt_le, ← Int32.toInt_inj, tI0, tI1, tIm1, tI999, tIm, tI20] at h24
          refine vq_iconst (v := 0) d_M_gift_31 (by decide) ?_
          first
            | exact s32 true ⟨fun _ h => by have h9 := zok_u.mp h.1; have h8 := zok_u.mp h.2.1; omega, (fun h => nomatch h)⟩
            | exact s32 false ⟨(fun h => nomatch h), fun _ => ⟨zok_u.mpr (by omega), zok_u.mpr (by omega), by omega, by omega⟩⟩
        · simp only [Int32.lt_iff_toInt_lt, Int32.le_iff_toInt_le, ← Int32.toInt_inj, tI0, tI1, tIm1, tI999, tIm, tI20] at h24
          refine vq_iconst (v := 1) d_M_gift_27 (by decide) ?_
          refine vq_goto (tgt := 32) d_M_gift_28 (by decide) ?_
          first
            | exact s32 true ⟨fun _ h => by have h9 := zok_u.mp h.1; have h8 := zok_u.mp h.2.1; omega, (fun h => nomatch h)⟩
            | exact s32 false ⟨(fun h => nomatch h), fun _ => ⟨zok_u.mpr (by omega), zok_u.mpr (by omega), by omega, by omega⟩⟩
set_option maxRecDepth 100000 in
set_option maxHeartbeats 4000000 in
theorem ct_M_paid (l : Launch) (b : Nat) (id : Nat → ClassId) (D : va_G) {g : Sg} {F : Fam} (hV : zV F) (hm : Hm g F) {k : Lg} (hl : Hn g k) (x y : Int32) : qCT l b id D m_M_paid false [.ref (b + 67), .int x, .int y] 85 kT g 85 kT (mP (k_paid F x y) (some (.long (lN (k.1 (zi x) (zpp y))))) (some (.long 0)) g F k) (fun _ _ => False) := by
  have hW := hV.1
  have hn := hW.1
  have h31 : zn F < 2 ^ 31 := by omega
  refine qCT_of rfl (by decide) (Nat.le_of_ble_eq_true rfl) ?_
  show Vq l b id D m_M_paid false 85 kT _ 85 kT _ 85 kT 0 0 0 [(0, .ref (b + 67)), (1, .int x), (2, .int y)] [] g
  refine vq_aload_n d_M_paid_0 rfl ?_
  refine vq_aload_n d_M_paid_1 rfl ?_
  refine vq_iload_n d_M_paid_2 rfl ?_
  refine vq_callV (n := 1) (C := R_M) (T := T_M) _ _ d_M_paid_3 (ct_M_no l b id D hn hm x) w_733 w_735 sel_M_no w_736 w_7 rfl ⟨by decide, by decide, by decide +kernel⟩ ⟨by decide, by decide⟩ (by decide) rfl rfl rfl rfl (Nat.le_of_ble_eq_true rfl) rfl rfl rfl ⟨by decide, by decide⟩ (fun _ _ h => h.elim) (fun v3 g3 h3 => ?_)
  rw [h3.1, h3.2]
  refine vq_if_ne (tgt := 22) d_M_paid_6 (by decide) (fun h6 => ?_) (fun h6 => ?_)
  · rw [bI_n0, no_t, ← zok_u] at h6
    have hk : k_paid F x y = 1 := by unfold k_paid; rw [if_neg (fun hh => h6 hh.1)]
    refine vq_iconst (v := 1) d_M_paid_22 (by decide) ?_
    refine vq_goto (tgt := 27) d_M_paid_23 (by decide) ?_
    refine vq_putI (k := 0) (C := R_M) (T := T_M) (ty := .int) t_M d_M_paid_27 rfl in_M w_655 ty_M nm_M (by decide) rfl (by decide) rfl (by decide +kernel) rfl rfl rfl ?_
    refine vq_aload_n d_M_paid_30 rfl ?_
    refine vq_getI (k := 0) (C := R_M) (T := T_M) d_M_paid_31 rfl in_M w_655 (by decide) rfl (by decide) rfl ?_
    refine vq_int (y := 1) rfl ?_
    refine vq_if_le (tgt := 41) d_M_paid_34 (by decide) (fun h34 => absurd h34 (by decide)) (fun h34 => ?_)
    refine vq_lconst (v := 0) d_M_paid_37 rfl ?_
    refine vq_goto (tgt := 62) d_M_paid_38 (by decide) ?_
    refine vq_lret d_M_paid_62 rfl (by decide) (by decide) rfl rfl ?_
    rw [hk]
    exact ⟨rfl, rfl, hm.thr _, hl, Dn.thr _⟩
  · rw [bI_0, no_f, ← zok_u] at h6
    refine vq_iload_n d_M_paid_9 rfl ?_
    refine vq_iconst (v := -1) d_M_paid_10 (by decide) ?_
    refine vq_icmp_eq (tgt := 26) d_M_paid_11 (by decide) (fun h11 => ?_) (fun h11 => ?_)
    · simp only [Int32.lt_iff_toInt_lt, Int32.le_iff_toInt_le, ← Int32.toInt_inj, tI0, tI1, tIm1, tI999, tIm, tI20] at h11
      have hy : zpo (zn F) y := zpo_u.mpr (Or.inl h11)
      obtain ⟨p, hp, rfl⟩ := zok_p h6
      have hzp : zi (nI p) = p := zi_nI (by omega)
      have hk : k_paid F (nI p) y = 0 := by unfold k_paid; rw [if_pos ⟨h6, hy⟩]
      have h21 := zpp_e hn hy
      have hpp : zpp y = 20 := if_pos h11
      refine vq_iconst (v := 0) d_M_paid_26 (by decide) ?_
      refine vq_putI (k := 0) (C := R_M) (T := T_M) (ty := .int) t_M d_M_paid_27 rfl in_M w_655 ty_M nm_M (by decide) rfl (by decide) rfl (by decide +kernel) rfl rfl rfl ?_
      refine vq_aload_n d_M_paid_30 rfl ?_
      refine vq_getI (k := 0) (C := R_M) (T := T_M) d_M_paid_31 rfl in_M w_655 (by decide) rfl (by decide) rfl ?_
      refine vq_int (y := 0) rfl ?_
      refine vq_if_le (tgt := 41) d_M_paid_34 (by decide) (fun h34 => ?_) (fun h34 => absurd h34 (by decide))
      refine vq_aload_n d_M_paid_41 rfl ?_
      refine vq_getR (k := 20) (C := R_M) (T := T_M) d_M_paid_42 rfl in_M w_675 (by decide) rfl (by decide) rfl rfl ?_
      refine vq_bipush (v := 21) d_M_paid_45 (by decide) ?_
      refine vq_iload_n d_M_paid_47 rfl ?_
      refine vq_imul d_M_paid_48 ?_
      refine vq_iload_n d_M_paid_49 rfl ?_
      refine vq_iconst (v := -1) d_M_paid_50 (by decide) ?_
      refine vq_icmp_ne (tgt := 59) d_M_paid_51 (by decide) (fun h51 => absurd h51 (fun h => h (by apply Int32.toInt_inj.mp; rw [h11]; rfl))) (fun h51 => ?_)
      refine vq_bipush (v := 20) d_M_paid_54 (by decide) ?_
      refine vq_goto (tgt := 60) d_M_paid_56 (by decide) ?_
      refine vq_iadd d_M_paid_60 ?_
      rw [show (20 : Int32) = nI (zpp y) by rw [hpp]; rfl]
      rw [ix21m]
      refine vq_lald d_M_paid_61 (by decide) rfl rfl (show _ < 420 by omega) ?_
      refine vq_long (y := lN (k.1 p (zpp y))) (hl.1 p (zpp y) (by omega) h21) ?_
      refine vq_lret d_M_paid_62 rfl (by decide) (by decide) rfl rfl ?_
      rw [hk, hzp]
      exact ⟨rfl, rfl, hm.thr _, hl, Dn.thr _⟩
    · simp only [Int32.lt_iff_toInt_lt, Int32.le_iff_toInt_le, ← Int32.toInt_inj, tI0, tI1, tIm1, tI999, tIm, tI20] at h11
      refine vq_aload_n d_M_paid_14 rfl ?_
      refine vq_iload_n d_M_paid_15 rfl ?_
      refine vq_callV (n := 1) (C := R_M) (T := T_M) _ _ d_M_paid_16 (ct_M_no l b id D hn hm y) w_733 w_735 sel_M_no w_736 w_7 rfl ⟨by decide, by decide, by decide +kernel⟩ ⟨by decide, by decide⟩ (by decide) rfl rfl rfl rfl (Nat.le_of_ble_eq_true rfl) rfl rfl rfl ⟨by decide, by decide⟩ (fun _ _ h => h.elim) (fun v16 g16 h16 => ?_)
      rw [h16.1, h16.2]
      refine vq_if_eq (tgt := 26) d_M_paid_19 (by decide) (fun h19 => ?_) (fun h19 => ?_)
      · rw [bI_0, no_f] at h19
        have hy : zpo (zn F) y := zpo_u.mpr (Or.inr h19)
        obtain ⟨p, hp, rfl⟩ := zok_p h6
        have hzp : zi (nI p) = p := zi_nI (by omega)
        have hk : k_paid F (nI p) y = 0 := by unfold k_paid; rw [if_pos ⟨h6, hy⟩]
        have h21 := zpp_e hn hy
        have hpp : zpp y = zi y := if_neg h11
        have hyz : y = nI (zpp y) := by rw [hpp]; exact nI_zi h19.1
        refine vq_iconst (v := 0) d_M_paid_26 (by decide) ?_
        refine vq_putI (k := 0) (C := R_M) (T := T_M) (ty := .int) t_M d_M_paid_27 rfl in_M w_655 ty_M nm_M (by decide) rfl (by decide) rfl (by decide +kernel) rfl rfl rfl ?_
        refine vq_aload_n d_M_paid_30 rfl ?_
        refine vq_getI (k := 0) (C := R_M) (T := T_M) d_M_paid_31 rfl in_M w_655 (by decide) rfl (by decide) rfl ?_
        refine vq_int (y := 0) rfl ?_
        refine vq_if_le (tgt := 41) d_M_paid_34 (by decide) (fun h34 => ?_) (fun h34 => absurd h34 (by decide))
        refine vq_aload_n d_M_paid_41 rfl ?_
        refine vq_getR (k := 20) (C := R_M) (T := T_M) d_M_paid_42 rfl in_M w_675 (by decide) rfl (by decide) rfl rfl ?_
        refine vq_bipush (v := 21) d_M_paid_45 (by decide) ?_
        refine vq_iload_n d_M_paid_47 rfl ?_
        refine vq_imul d_M_paid_48 ?_
        refine vq_iload_n d_M_paid_49 rfl ?_
        refine vq_iconst (v := -1) d_M_paid_50 (by decide) ?_
        refine vq_icmp_ne (tgt := 59) d_M_paid_51 (by decide) (fun h51 => ?_) (fun h51 => absurd h51 (fun h => h11 (by rw [h]; rfl)))
        refine vq_iload_n d_M_paid_59 rfl ?_
        refine vq_iadd d_M_paid_60 ?_
        refine vq_int (y := nI (21 * p + zpp y)) (by rw [← ix21m, ← hyz]) ?_
        refine vq_lald d_M_paid_61 (by decide) rfl rfl (show _ < 420 by omega) ?_
        refine vq_long (y := lN (k.1 p (zpp y))) (hl.1 p (zpp y) (by omega) h21) ?_
        refine vq_lret d_M_paid_62 rfl (by decide) (by decide) rfl rfl ?_
        rw [hk, hzp]
        exact ⟨rfl, rfl, hm.thr _, hl, Dn.thr _⟩
      · rw [bI_n0, no_t] at h19
        have hk : k_paid F x y = 1 := by unfold k_paid; rw [if_neg (fun hh => by have := zpo_u.mp hh.2; omega)]
        refine vq_iconst (v := 1) d_M_paid_22 (by decide) ?_
        refine vq_goto (tgt := 27) d_M_paid_23 (by decide) ?_
        refine vq_putI (k := 0) (C := R_M) (T := T_M) (ty := .int) t_M d_M_paid_27 rfl in_M w_655 ty_M nm_M (by decide) rfl (by decide) rfl (by decide +kernel) rfl rfl rfl ?_
        refine vq_aload_n d_M_paid_30 rfl ?_
        refine vq_getI (k := 0) (C := R_M) (T := T_M) d_M_paid_31 rfl in_M w_655 (by decide) rfl (by decide) rfl ?_
        refine vq_int (y := 1) rfl ?_
        refine vq_if_le (tgt := 41) d_M_paid_34 (by decide) (fun h34 => absurd h34 (by decide)) (fun h34 => ?_)
        refine vq_lconst (v := 0) d_M_paid_37 rfl ?_
        refine vq_goto (tgt := 62) d_M_paid_38 (by decide) ?_
        refine vq_lret d_M_paid_62 rfl (by decide) (by decide) rfl rfl ?_
        rw [hk]
        exact ⟨rfl, rfl, hm.thr _, hl, Dn.thr _⟩
set_option maxRecDepth 100000 in
set_option maxHeartbeats 4000000 in
theorem ct_M_got (l : Launch) (b : Nat) (id : Nat → ClassId) (D : va_G) {g : Sg} {F : Fam} (hV : zV F) (hm : Hm g F) {k : Lg} (hl : Hn g k) (x : Int32) : qCT l b id D m_M_got false [.ref (b + 67), .int x] 85 kT g 85 kT (mP (k_got F x) (some (.long (lN (k.2.1 (zpp x))))) (some (.long 0)) g F k) (fun _ _ => False) := by
  have hW := hV.1
  have hn := hW.1
  have h31 : zn F < 2 ^ 31 := by omega
  refine qCT_of rfl (by decide) (Nat.le_of_ble_eq_true rfl) ?_
  show Vq l b id D m_M_got false 85 kT _ 85 kT _ 85 kT 0 0 0 [(0, .ref (b + 67)), (1, .int x)] [] g
  refine vq_aload_n d_M_got_0 rfl ?_
  refine vq_iload_n d_M_got_1 rfl ?_
  refine vq_iconst (v := -1) d_M_got_2 (by decide) ?_
  refine vq_icmp_eq (tgt := 18) d_M_got_3 (by decide) (fun h3 => ?_) (fun h3 => ?_)
  · simp only [Int32.lt_iff_toInt_lt, Int32.le_iff_toInt_le, ← Int32.toInt_inj, tI0, tI1, tIm1, tI999, tIm, tI20] at h3
    have hy : zpo (zn F) x := zpo_u.mpr (Or.inl h3)
    have hk : k_got F x = 0 := by unfold k_got; rw [if_pos hy]
    have h21 := zpp_e hn hy
    have hpp : zpp x = 20 := if_pos h3
    have hix : (20 : Int32) = nI (zpp x) := by rw [hpp]; rfl
    refine vq_iconst (v := 0) d_M_got_18 (by decide) ?_
    refine vq_putI (k := 0) (C := R_M) (T := T_M) (ty := .int) t_M d_M_got_19 rfl in_M w_655 ty_M nm_M (by decide) rfl (by decide) rfl (by decide +kernel) rfl rfl rfl ?_
    refine vq_aload_n d_M_got_22 rfl ?_
    refine vq_getI (k := 0) (C := R_M) (T := T_M) d_M_got_23 rfl in_M w_655 (by decide) rfl (by decide) rfl ?_
    refine vq_int (y := 0) rfl ?_
    refine vq_if_le (tgt := 33) d_M_got_26 (by decide) (fun h26 => ?_) (fun h26 => absurd h26 (by decide))
    refine vq_aload_n d_M_got_33 rfl ?_
    refine vq_getR (k := 22) (C := R_M) (T := T_M) d_M_got_34 rfl in_M w_677 (by decide) rfl (by decide) rfl rfl ?_
    refine vq_iload_n d_M_got_37 rfl ?_
    refine vq_iconst (v := -1) d_M_got_38 (by decide) ?_
    refine vq_icmp_ne (tgt := 47) d_M_got_39 (by decide) (fun h39 => absurd h39 (fun h => h (by apply Int32.toInt_inj.mp; rw [h3]; rfl))) (fun h39 => ?_)
    refine vq_bipush (v := 20) d_M_got_42 (by decide) ?_
    refine vq_goto (tgt := 48) d_M_got_44 (by decide) ?_
    refine vq_lald d_M_got_48 (by decide) rfl hix (show _ < 21 by omega) ?_
    refine vq_long (y := lN (k.2.1 (zpp x))) (hl.2.1 (zpp x) h21) ?_
    refine vq_lret d_M_got_49 rfl (by decide) (by decide) rfl rfl ?_
    rw [hk]
    exact ⟨rfl, rfl, hm.thr _, hl, Dn.thr _⟩
  · simp only [Int32.lt_iff_toInt_lt, Int32.le_iff_toInt_le, ← Int32.toInt_inj, tI0, tI1, tIm1, tI999, tIm, tI20] at h3
    refine vq_aload_n d_M_got_6 rfl ?_
    refine vq_iload_n d_M_got_7 rfl ?_
    refine vq_callV (n := 1) (C := R_M) (T := T_M) _ _ d_M_got_8 (ct_M_no l b id D hn hm x) w_733 w_735 sel_M_no w_736 w_7 rfl ⟨by decide, by decide, by decide +kernel⟩ ⟨by decide, by decide⟩ (by decide) rfl rfl rfl rfl (Nat.le_of_ble_eq_true rfl) rfl rfl rfl ⟨by decide, by decide⟩ (fun _ _ h => h.elim) (fun v8 g8 h8 => ?_)
    rw [h8.1, h8.2]
    refine vq_if_eq (tgt := 18) d_M_got_11 (by decide) (fun h11 => ?_) (fun h11 => ?_)
    · rw [bI_0, no_f] at h11
      have hy : zpo (zn F) x := zpo_u.mpr (Or.inr h11)
      have hk : k_got F x = 0 := by unfold k_got; rw [if_pos hy]
      have h21 := zpp_e hn hy
      have hpp : zpp x = zi x := if_neg h3
      have hix : x = nI (zpp x) := by rw [hpp]; exact nI_zi h11.1
      refine vq_iconst (v := 0) d_M_got_18 (by decide) ?_
      refine vq_putI (k := 0) (C := R_M) (T := T_M) (ty := .int) t_M d_M_got_19 rfl in_M w_655 ty_M nm_M (by decide) rfl (by decide) rfl (by decide +kernel) rfl rfl rfl ?_
      refine vq_aload_n d_M_got_22 rfl ?_
      refine vq_getI (k := 0) (C := R_M) (T := T_M) d_M_got_23 rfl in_M w_655 (by decide) rfl (by decide) rfl ?_
      refine vq_int (y := 0) rfl ?_
      refine vq_if_le (tgt := 33) d_M_got_26 (by decide) (fun h26 => ?_) (fun h26 => absurd h26 (by decide))
      refine vq_aload_n d_M_got_33 rfl ?_
      refine vq_getR (k := 22) (C := R_M) (T := T_M) d_M_got_34 rfl in_M w_677 (by decide) rfl (by decide) rfl rfl ?_
      refine vq_iload_n d_M_got_37 rfl ?_
      refine vq_iconst (v := -1) d_M_got_38 (by decide) ?_
      refine vq_icmp_ne (tgt := 47) d_M_got_39 (by decide) (fun h39 => ?_) (fun h39 => absurd h39 (fun h => h3 (by rw [h]; rfl)))
      refine vq_iload_n d_M_got_47 rfl ?_
      refine vq_lald d_M_got_48 (by decide) rfl hix (show _ < 21 by omega) ?_
      refine vq_long (y := lN (k.2.1 (zpp x))) (hl.2.1 (zpp x) h21) ?_
      refine vq_lret d_M_got_49 rfl (by decide) (by decide) rfl rfl ?_
      rw [hk]
      exact ⟨rfl, rfl, hm.thr _, hl, Dn.thr _⟩
    · rw [bI_n0, no_t] at h11
      have hk : k_got F x = 1 := by unfold k_got; rw [if_neg (fun hh => by have := zpo_u.mp hh; omega)]
      refine vq_iconst (v := 1) d_M_got_14 (by decide) ?_
      refine vq_goto (tgt := 19) d_M_got_15 (by decide) ?_
      refine vq_putI (k := 0) (C := R_M) (T := T_M) (ty := .int) t_M d_M_got_19 rfl in_M w_655 ty_M nm_M (by decide) rfl (by decide) rfl (by decide +kernel) rfl rfl rfl ?_
      refine vq_aload_n d_M_got_22 rfl ?_
      refine vq_getI (k := 0) (C := R_M) (T := T_M) d_M_got_23 rfl in_M w_655 (by decide) rfl (by decide) rfl ?_
      refine vq_int (y := 1) rfl ?_
      refine vq_if_le (tgt := 33) d_M_got_26 (by decide) (fun h26 => absurd h26 (by decide)) (fun h26 => ?_)
      refine vq_lconst (v := 0) d_M_got_29 rfl ?_
      refine vq_goto (tgt := 49) d_M_got_30 (by decide) ?_
      refine vq_lret d_M_got_49 rfl (by decide) (by decide) rfl rfl ?_
      rw [hk]
      exact ⟨rfl, rfl, hm.thr _, hl, Dn.thr _⟩
