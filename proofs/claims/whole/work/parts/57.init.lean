/-! the reference's constructor. Laid by wip/whole/specs/p55.py -/
def m_M_init : Mt := (y_M_init, c_M_init, 1, { frames := 8, cells := 16, slots := 1601, locals := 130 }, none, none)
set_option maxRecDepth 100000 in
set_option maxHeartbeats 4000000 in
theorem ct_M_init (l : Launch) (b : Nat) (id : Nat → ClassId) (D : va_G)  : qCT l b id D m_M_init true [.ref (b + 67)] 68 kp_34 g1 84 kp_50 (fun v g' => v = none ∧ g' = g1) (fun _ _ => False) := by
  refine qCT_of rfl (by decide) (Nat.le_of_ble_eq_true rfl) ?_
  show Vq l b id D m_M_init true 84 kp_50 _ 68 kp_34 _ 68 kp_34 0 0 0 [(0, .ref (b + 67))] [] g1
  refine vq_aload_n d_M_init_0 rfl ?_
  refine vq_obj d_M_init_1 w_654 w_21 w_22 (by decide) (by decide) ?_
  refine vq_aload_n d_M_init_4 rfl ?_
  refine vq_bipush (v := 20) d_M_init_5 (by decide) ?_
  refine vq_newa .int 0 .int rfl d_M_init_7 w_75 rfl rfl (by decide) (by decide) (by decide) (by decide) rfl ⟨_, rfl⟩ (by decide) (by decide) ?_
  refine vq_putR (k := 2) (C := R_M) (T := T_M) (ty := (.array .int)) t_M d_M_init_9 rfl in_M w_657 ty_M nm_M (by decide) rfl (by decide) rfl rfl rfl (by decide +kernel) rfl rfl rfl ?_
  refine vq_aload_n d_M_init_12 rfl ?_
  refine vq_bipush (v := 20) d_M_init_13 (by decide) ?_
  refine vq_newa .int 0 .int rfl d_M_init_15 w_75 rfl rfl (by decide) (by decide) (by decide) (by decide) rfl ⟨_, rfl⟩ (by decide) (by decide) ?_
  refine vq_putR (k := 3) (C := R_M) (T := T_M) (ty := (.array .int)) t_M d_M_init_17 rfl in_M w_658 ty_M nm_M (by decide) rfl (by decide) rfl rfl rfl (by decide +kernel) rfl rfl rfl ?_
  refine vq_aload_n d_M_init_20 rfl ?_
  refine vq_bipush (v := 20) d_M_init_21 (by decide) ?_
  refine vq_newa .int 0 .int rfl d_M_init_23 w_75 rfl rfl (by decide) (by decide) (by decide) (by decide) rfl ⟨_, rfl⟩ (by decide) (by decide) ?_
  refine vq_putR (k := 4) (C := R_M) (T := T_M) (ty := (.array .int)) t_M d_M_init_25 rfl in_M w_659 ty_M nm_M (by decide) rfl (by decide) rfl rfl rfl (by decide +kernel) rfl rfl rfl ?_
  refine vq_aload_n d_M_init_28 rfl ?_
  refine vq_bipush (v := 20) d_M_init_29 (by decide) ?_
  refine vq_newa .int 0 .int rfl d_M_init_31 w_75 rfl rfl (by decide) (by decide) (by decide) (by decide) rfl ⟨_, rfl⟩ (by decide) (by decide) ?_
  refine vq_putR (k := 5) (C := R_M) (T := T_M) (ty := (.array .int)) t_M d_M_init_33 rfl in_M w_660 ty_M nm_M (by decide) rfl (by decide) rfl rfl rfl (by decide +kernel) rfl rfl rfl ?_
  refine vq_aload_n d_M_init_36 rfl ?_
  refine vq_bipush (v := 20) d_M_init_37 (by decide) ?_
  refine vq_newa .int 0 .int rfl d_M_init_39 w_75 rfl rfl (by decide) (by decide) (by decide) (by decide) rfl ⟨_, rfl⟩ (by decide) (by decide) ?_
  refine vq_putR (k := 6) (C := R_M) (T := T_M) (ty := (.array .int)) t_M d_M_init_41 rfl in_M w_661 ty_M nm_M (by decide) rfl (by decide) rfl rfl rfl (by decide +kernel) rfl rfl rfl ?_
  refine vq_aload_n d_M_init_44 rfl ?_
  refine vq_sipush (v := 400) d_M_init_45 (by decide) ?_
  refine vq_newa .int 0 .int rfl d_M_init_48 w_75 rfl rfl (by decide) (by decide) (by decide) (by decide) rfl ⟨_, rfl⟩ (by decide) (by decide) ?_
  refine vq_putR (k := 7) (C := R_M) (T := T_M) (ty := (.array .int)) t_M d_M_init_50 rfl in_M w_662 ty_M nm_M (by decide) rfl (by decide) rfl rfl rfl (by decide +kernel) rfl rfl rfl ?_
  refine vq_aload_n d_M_init_53 rfl ?_
  refine vq_sipush (v := 400) d_M_init_54 (by decide) ?_
  refine vq_newa .boolean 1 .boolean rfl d_M_init_57 w_115 rfl rfl (by decide) (by decide) (by decide) (by decide) rfl ⟨_, rfl⟩ (by decide) (by decide) ?_
  refine vq_putR (k := 8) (C := R_M) (T := T_M) (ty := (.array .boolean)) t_M d_M_init_59 rfl in_M w_663 ty_M nm_M (by decide) rfl (by decide) rfl rfl rfl (by decide +kernel) rfl rfl rfl ?_
  refine vq_aload_n d_M_init_62 rfl ?_
  refine vq_bipush (v := 20) d_M_init_63 (by decide) ?_
  refine vq_newa .boolean 1 .boolean rfl d_M_init_65 w_115 rfl rfl (by decide) (by decide) (by decide) (by decide) rfl ⟨_, rfl⟩ (by decide) (by decide) ?_
  refine vq_putR (k := 10) (C := R_M) (T := T_M) (ty := (.array .boolean)) t_M d_M_init_67 rfl in_M w_665 ty_M nm_M (by decide) rfl (by decide) rfl rfl rfl (by decide +kernel) rfl rfl rfl ?_
  refine vq_aload_n d_M_init_70 rfl ?_
  refine vq_bipush (v := 20) d_M_init_71 (by decide) ?_
  refine vq_newa .int 0 .int rfl d_M_init_73 w_75 rfl rfl (by decide) (by decide) (by decide) (by decide) rfl ⟨_, rfl⟩ (by decide) (by decide) ?_
  refine vq_putR (k := 11) (C := R_M) (T := T_M) (ty := (.array .int)) t_M d_M_init_75 rfl in_M w_666 ty_M nm_M (by decide) rfl (by decide) rfl rfl rfl (by decide +kernel) rfl rfl rfl ?_
  refine vq_aload_n d_M_init_78 rfl ?_
  refine vq_bipush (v := 80) d_M_init_79 (by decide) ?_
  refine vq_newa .boolean 1 .boolean rfl d_M_init_81 w_115 rfl rfl (by decide) (by decide) (by decide) (by decide) rfl ⟨_, rfl⟩ (by decide) (by decide) ?_
  refine vq_putR (k := 12) (C := R_M) (T := T_M) (ty := (.array .boolean)) t_M d_M_init_83 rfl in_M w_667 ty_M nm_M (by decide) rfl (by decide) rfl rfl rfl (by decide +kernel) rfl rfl rfl ?_
  refine vq_aload_n d_M_init_86 rfl ?_
  refine vq_bipush (v := 80) d_M_init_87 (by decide) ?_
  refine vq_newa .long 2 .long rfl d_M_init_89 w_149 rfl rfl (by decide) (by decide) (by decide) (by decide) rfl ⟨_, rfl⟩ (by decide) (by decide) ?_
  refine vq_putR (k := 13) (C := R_M) (T := T_M) (ty := (.array .long)) t_M d_M_init_91 rfl in_M w_668 ty_M nm_M (by decide) rfl (by decide) rfl rfl rfl (by decide +kernel) rfl rfl rfl ?_
  refine vq_aload_n d_M_init_94 rfl ?_
  refine vq_bipush (v := 20) d_M_init_95 (by decide) ?_
  refine vq_newa .long 2 .long rfl d_M_init_97 w_149 rfl rfl (by decide) (by decide) (by decide) (by decide) rfl ⟨_, rfl⟩ (by decide) (by decide) ?_
  refine vq_putR (k := 14) (C := R_M) (T := T_M) (ty := (.array .long)) t_M d_M_init_99 rfl in_M w_669 ty_M nm_M (by decide) rfl (by decide) rfl rfl rfl (by decide +kernel) rfl rfl rfl ?_
  refine vq_aload_n d_M_init_102 rfl ?_
  refine vq_bipush (v := 20) d_M_init_103 (by decide) ?_
  refine vq_newa .boolean 1 .boolean rfl d_M_init_105 w_115 rfl rfl (by decide) (by decide) (by decide) (by decide) rfl ⟨_, rfl⟩ (by decide) (by decide) ?_
  refine vq_putR (k := 19) (C := R_M) (T := T_M) (ty := (.array .boolean)) t_M d_M_init_107 rfl in_M w_674 ty_M nm_M (by decide) rfl (by decide) rfl rfl rfl (by decide +kernel) rfl rfl rfl ?_
  refine vq_aload_n d_M_init_110 rfl ?_
  refine vq_sipush (v := 420) d_M_init_111 (by decide) ?_
  refine vq_newa .long 2 .long rfl d_M_init_114 w_149 rfl rfl (by decide) (by decide) (by decide) (by decide) rfl ⟨_, rfl⟩ (by decide) (by decide) ?_
  refine vq_putR (k := 20) (C := R_M) (T := T_M) (ty := (.array .long)) t_M d_M_init_116 rfl in_M w_675 ty_M nm_M (by decide) rfl (by decide) rfl rfl rfl (by decide +kernel) rfl rfl rfl ?_
  refine vq_aload_n d_M_init_119 rfl ?_
  refine vq_bipush (v := 20) d_M_init_120 (by decide) ?_
  refine vq_newa .long 2 .long rfl d_M_init_122 w_149 rfl rfl (by decide) (by decide) (by decide) (by decide) rfl ⟨_, rfl⟩ (by decide) (by decide) ?_
  refine vq_putR (k := 21) (C := R_M) (T := T_M) (ty := (.array .long)) t_M d_M_init_124 rfl in_M w_676 ty_M nm_M (by decide) rfl (by decide) rfl rfl rfl (by decide +kernel) rfl rfl rfl ?_
  refine vq_aload_n d_M_init_127 rfl ?_
  refine vq_bipush (v := 21) d_M_init_128 (by decide) ?_
  refine vq_newa .long 2 .long rfl d_M_init_130 w_149 rfl rfl (by decide) (by decide) (by decide) (by decide) rfl ⟨_, rfl⟩ (by decide) (by decide) ?_
  refine vq_putR (k := 22) (C := R_M) (T := T_M) (ty := (.array .long)) t_M d_M_init_132 rfl in_M w_677 ty_M nm_M (by decide) rfl (by decide) rfl rfl rfl (by decide +kernel) rfl rfl rfl ?_
  refine vq_vret d_M_init_135 rfl (by decide) (by decide) rfl rfl ?_
  exact ⟨rfl, rfl⟩
