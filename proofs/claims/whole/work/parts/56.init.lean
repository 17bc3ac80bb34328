/-! more constructors. Laid by wip/whole/specs/p55.py -/
def m_D_init : Mt := (y_D_init, c_D_init, 3, { frames := 9, cells := 6, slots := 106, locals := 175 }, none, none)
set_option maxRecDepth 100000 in
set_option maxHeartbeats 4000000 in
theorem ct_D_init (l : Launch) (b : Nat) (id : Nat → ClassId) (D : va_G)  : qCT l b id D m_D_init true [.ref (b + 34), .ref (b + 1), .ref (b + 29)] 35 kp_14 g0 41 kp_24 (fun v g' => v = none ∧ g' = g1) (fun _ _ => False) := by
  refine qCT_of rfl (by decide) (Nat.le_of_ble_eq_true rfl) ?_
  show Vq l b id D m_D_init true 41 kp_24 _ 35 kp_14 _ 35 kp_14 0 0 0 [(0, .ref (b + 34)), (1, .ref (b + 1)), (2, .ref (b + 29))] [] g0
  refine vq_aload_n d_D_init_0 rfl ?_
  refine vq_obj d_D_init_1 w_121 w_21 w_22 (by decide) (by decide) ?_
  refine vq_aload_n d_D_init_4 rfl ?_
  refine vq_bipush (v := 20) d_D_init_5 (by decide) ?_
  refine vq_newa .long 2 .long rfl d_D_init_7 w_149 rfl rfl (by decide) (by decide) (by decide) (by decide) rfl ⟨_, rfl⟩ (by decide) (by decide) ?_
  refine vq_putR (k := 3) (C := R_D) (T := T_D) (ty := (.array .long)) t_D d_D_init_9 rfl in_D w_153 ty_D nm_D (by decide) rfl (by decide) rfl rfl rfl (by decide +kernel) rfl rfl rfl ?_
  refine vq_aload_n d_D_init_12 rfl ?_
  refine vq_lconst (v := 1) d_D_init_13 rfl ?_
  refine vq_putJ (k := 4) (C := R_D) (T := T_D) t_D d_D_init_14 rfl in_D w_155 ty_D nm_D (by decide) rfl (by decide) rfl (by decide +kernel) rfl ?_
  refine vq_aload_n d_D_init_17 rfl ?_
  refine vq_bipush (v := 20) d_D_init_18 (by decide) ?_
  refine vq_newa .long 2 .long rfl d_D_init_20 w_149 rfl rfl (by decide) (by decide) (by decide) (by decide) rfl ⟨_, rfl⟩ (by decide) (by decide) ?_
  refine vq_putR (k := 5) (C := R_D) (T := T_D) (ty := (.array .long)) t_D d_D_init_22 rfl in_D w_157 ty_D nm_D (by decide) rfl (by decide) rfl rfl rfl (by decide +kernel) rfl rfl rfl ?_
  refine vq_aload_n d_D_init_25 rfl ?_
  refine vq_bipush (v := 20) d_D_init_26 (by decide) ?_
  refine vq_newa .long 2 .long rfl d_D_init_28 w_149 rfl rfl (by decide) (by decide) (by decide) (by decide) rfl ⟨_, rfl⟩ (by decide) (by decide) ?_
  refine vq_putR (k := 6) (C := R_D) (T := T_D) (ty := (.array .long)) t_D d_D_init_30 rfl in_D w_158 ty_D nm_D (by decide) rfl (by decide) rfl rfl rfl (by decide +kernel) rfl rfl rfl ?_
  refine vq_aload_n d_D_init_33 rfl ?_
  refine vq_aload_n d_D_init_34 rfl ?_
  refine vq_putR (k := 0) (C := R_D) (T := T_D) (ty := (.object "SuccessionClerk$Family")) t_D d_D_init_35 rfl in_D w_150 ty_D nm_D (by decide) rfl (by decide) rfl rfl rfl (by decide +kernel) rfl rfl rfl ?_
  refine vq_aload_n d_D_init_38 rfl ?_
  refine vq_aload_n d_D_init_39 rfl ?_
  refine vq_putR (k := 1) (C := R_D) (T := T_D) (ty := (.object "SuccessionClerk$Survey")) t_D d_D_init_40 rfl in_D w_151 ty_D nm_D (by decide) rfl (by decide) rfl rfl rfl (by decide +kernel) rfl rfl rfl ?_
  refine vq_aload_n d_D_init_43 rfl ?_
  refine vq_new (C := R_H) (T := T_H) t_H d_D_init_44 w_122 w_123 w_5 rfl in_H ty_H rfl (by decide) rfl (fun j hj => by rcases (show j = 0 ∨ j = 1 ∨ j = 2 ∨ j = 3 ∨ j = 4 ∨ j = 5 by have h9 : j < 6 := hj; omega) with rfl | rfl | rfl | rfl | rfl | rfl <;> rfl) (by decide) (by decide) ?_
  refine vq_dup d_D_init_47 rfl ?_
  refine vq_aload_n d_D_init_48 rfl ?_
  refine vq_aload_n d_D_init_49 rfl ?_
  refine vq_callI (n := 2) _ _ d_D_init_50 (ct_H_init l b id D) rfl w_124 w_125 w_126 w_5 rfl rfl ⟨by decide, by decide, by decide +kernel⟩ ⟨by decide, by decide⟩ rfl rfl (Nat.le_of_ble_eq_true rfl) ⟨by decide, by decide⟩ (fun v50 g50 h50 => ?_)
  obtain ⟨e150, e250⟩ := h50
  rw [e150, e250]
  refine vq_putR (k := 2) (C := R_D) (T := T_D) (ty := (.object "SuccessionClerk$Hotchpot")) t_D d_D_init_53 rfl in_D w_152 ty_D nm_D (by decide) rfl (by decide) rfl rfl rfl (by decide +kernel) rfl rfl rfl ?_
  refine vq_vret d_D_init_56 rfl (by decide) (by decide) rfl rfl ?_
  exact ⟨rfl, rfl⟩
def m_L_init : Mt := (y_L_init, c_L_init, 4, { frames := 8, cells := 25, slots := 521, locals := 130 }, none, none)
set_option maxRecDepth 100000 in
set_option maxHeartbeats 4000000 in
theorem ct_L_init (l : Launch) (b : Nat) (id : Nat → ClassId) (D : va_G)  : qCT l b id D m_L_init true [.ref (b + 41), .ref (b + 1), .ref (b + 29), .ref (b + 34)] 42 kp_25 g1 67 kp_33 (fun v g' => v = none ∧ g' = g1) (fun _ _ => False) := by
  refine qCT_of rfl (by decide) (Nat.le_of_ble_eq_true rfl) ?_
  show Vq l b id D m_L_init true 67 kp_33 _ 42 kp_25 _ 42 kp_25 0 0 0 [(0, .ref (b + 41)), (1, .ref (b + 1)), (2, .ref (b + 29)), (3, .ref (b + 34))] [] g1
  refine vq_aload_n d_L_init_0 rfl ?_
  refine vq_obj d_L_init_1 w_179 w_21 w_22 (by decide) (by decide) ?_
  refine vq_aload_n d_L_init_4 rfl ?_
  refine vq_bipush (v := 20) d_L_init_5 (by decide) ?_
  refine vq_bipush (v := 21) d_L_init_7 (by decide) ?_
  refine vq_mna (kO := 4) (kI := 2) (m := 21) .long d_L_init_9 w_180 (by decide) w_149 rfl rfl (fun _ h => h) (fun _ h => h) rfl (by decide) (by decide) (by decide) (by decide) (by decide) rfl rfl rfl (fun j hj => by rw [show 42 + (j + 1) = 43 + j by omega]; exact hI_L j hj) (by decide) (by decide) ?_
  refine vq_putR (k := 3) (C := R_L) (T := T_L) (ty := (.array (.array .long))) t_L d_L_init_13 rfl in_L w_185 ty_L nm_L (by decide) rfl (by decide) rfl rfl rfl (by decide +kernel) rfl rfl rfl ?_
  refine vq_aload_n d_L_init_16 rfl ?_
  refine vq_bipush (v := 20) d_L_init_17 (by decide) ?_
  refine vq_newa .long 2 .long rfl d_L_init_19 w_149 rfl rfl (by decide) (by decide) (by decide) (by decide) rfl ⟨_, rfl⟩ (by decide) (by decide) ?_
  refine vq_putR (k := 4) (C := R_L) (T := T_L) (ty := (.array .long)) t_L d_L_init_21 rfl in_L w_187 ty_L nm_L (by decide) rfl (by decide) rfl rfl rfl (by decide +kernel) rfl rfl rfl ?_
  refine vq_aload_n d_L_init_24 rfl ?_
  refine vq_bipush (v := 21) d_L_init_25 (by decide) ?_
  refine vq_newa .long 2 .long rfl d_L_init_27 w_149 rfl rfl (by decide) (by decide) (by decide) (by decide) rfl ⟨_, rfl⟩ (by decide) (by decide) ?_
  refine vq_putR (k := 5) (C := R_L) (T := T_L) (ty := (.array .long)) t_L d_L_init_29 rfl in_L w_189 ty_L nm_L (by decide) rfl (by decide) rfl rfl rfl (by decide +kernel) rfl rfl rfl ?_
  refine vq_aload_n d_L_init_32 rfl ?_
  refine vq_bipush (v := 20) d_L_init_33 (by decide) ?_
  refine vq_newa .boolean 1 .boolean rfl d_L_init_35 w_115 rfl rfl (by decide) (by decide) (by decide) (by decide) rfl ⟨_, rfl⟩ (by decide) (by decide) ?_
  refine vq_putR (k := 6) (C := R_L) (T := T_L) (ty := (.array .boolean)) t_L d_L_init_37 rfl in_L w_191 ty_L nm_L (by decide) rfl (by decide) rfl rfl rfl (by decide +kernel) rfl rfl rfl ?_
  refine vq_aload_n d_L_init_40 rfl ?_
  refine vq_bipush (v := 20) d_L_init_41 (by decide) ?_
  refine vq_newa .long 2 .long rfl d_L_init_43 w_149 rfl rfl (by decide) (by decide) (by decide) (by decide) rfl ⟨_, rfl⟩ (by decide) (by decide) ?_
  refine vq_putR (k := 7) (C := R_L) (T := T_L) (ty := (.array .long)) t_L d_L_init_45 rfl in_L w_192 ty_L nm_L (by decide) rfl (by decide) rfl rfl rfl (by decide +kernel) rfl rfl rfl ?_
  refine vq_aload_n d_L_init_48 rfl ?_
  refine vq_aload_n d_L_init_49 rfl ?_
  refine vq_putR (k := 0) (C := R_L) (T := T_L) (ty := (.object "SuccessionClerk$Family")) t_L d_L_init_50 rfl in_L w_182 ty_L nm_L (by decide) rfl (by decide) rfl rfl rfl (by decide +kernel) rfl rfl rfl ?_
  refine vq_aload_n d_L_init_53 rfl ?_
  refine vq_aload_n d_L_init_54 rfl ?_
  refine vq_putR (k := 1) (C := R_L) (T := T_L) (ty := (.object "SuccessionClerk$Survey")) t_L d_L_init_55 rfl in_L w_183 ty_L nm_L (by decide) rfl (by decide) rfl rfl rfl (by decide +kernel) rfl rfl rfl ?_
  refine vq_aload_n d_L_init_58 rfl ?_
  refine vq_aload_n d_L_init_59 rfl ?_
  refine vq_putR (k := 2) (C := R_L) (T := T_L) (ty := (.object "SuccessionClerk$Division")) t_L d_L_init_60 rfl in_L w_184 ty_L nm_L (by decide) rfl (by decide) rfl rfl rfl (by decide +kernel) rfl rfl rfl ?_
  refine vq_vret d_L_init_63 rfl (by decide) (by decide) rfl rfl ?_
  exact ⟨rfl, rfl⟩
def m_S_init : Mt := (y_S_init, c_S_init, 1, { frames := 10, cells := 66, slots := 1338, locals := 220 }, none, none)
set_option maxRecDepth 100000 in
set_option maxHeartbeats 4000000 in
theorem ct_S_init (l : Launch) (b : Nat) (id : Nat → ClassId) (D : va_G)  : qCT l b id D m_S_init true [.ref (b + 0)] 1 kp_0 g0 67 kp_34 (fun v g' => v = none ∧ g' = g1) (fun _ _ => False) := by
  refine qCT_of rfl (by decide) (Nat.le_of_ble_eq_true rfl) ?_
  show Vq l b id D m_S_init true 67 kp_34 _ 1 kp_0 _ 1 kp_0 0 0 0 [(0, .ref (b + 0))] [] g0
  refine vq_aload_n d_S_init_0 rfl ?_
  refine vq_obj d_S_init_1 w_20 w_21 w_22 (by decide) (by decide) ?_
  refine vq_aload_n d_S_init_4 rfl ?_
  refine vq_new (C := R_F) (T := T_F) t_F d_S_init_5 w_23 w_24 w_2 rfl in_F ty_F rfl (by decide) rfl (fun j hj => by rcases (show j = 0 ∨ j = 1 ∨ j = 2 ∨ j = 3 ∨ j = 4 ∨ j = 5 ∨ j = 6 ∨ j = 7 by have h9 : j < 8 := hj; omega) with rfl | rfl | rfl | rfl | rfl | rfl | rfl | rfl <;> rfl) (by decide) (by decide) ?_
  refine vq_dup d_S_init_8 rfl ?_
  refine vq_callIN (n := 0) (host := "SuccessionClerk") _ _ d_S_init_9 (ct_F_init l b id D) rfl (by decide) w_26 w_27 w_2 rfl rfl ⟨by decide, by decide, by decide +kernel⟩ ⟨by decide, by decide⟩ rfl rfl (Nat.le_of_ble_eq_true rfl) ⟨by decide, by decide⟩ (fun v9 g9 h9 => ?_)
  obtain ⟨e19, e29⟩ := h9
  rw [e19, e29]
  refine vq_putR (k := 0) (C := R_S) (T := T_S) (ty := (.object "SuccessionClerk$Family")) t_S d_S_init_12 rfl in_S w_210 ty_S nm_S (by decide) rfl (by decide) rfl rfl rfl (by decide +kernel) rfl rfl rfl ?_
  refine vq_aload_n d_S_init_15 rfl ?_
  refine vq_new (C := R_V) (T := T_V) t_V d_S_init_16 w_76 w_77 w_3 rfl in_V ty_V rfl (by decide) rfl (fun j hj => by rcases (show j = 0 ∨ j = 1 ∨ j = 2 ∨ j = 3 ∨ j = 4 ∨ j = 5 ∨ j = 6 ∨ j = 7 by have h9 : j < 8 := hj; omega) with rfl | rfl | rfl | rfl | rfl | rfl | rfl | rfl <;> rfl) (by decide) (by decide) ?_
  refine vq_dup d_S_init_19 rfl ?_
  refine vq_aload_n d_S_init_20 rfl ?_
  refine vq_getR (k := 0) (C := R_S) (T := T_S) d_S_init_21 rfl in_S w_210 (by decide) rfl (by decide) rfl rfl ?_
  refine vq_callI (n := 1) _ _ d_S_init_24 (ct_V_init l b id D) rfl w_78 w_79 w_80 w_3 rfl rfl ⟨by decide, by decide, by decide +kernel⟩ ⟨by decide, by decide⟩ rfl rfl (Nat.le_of_ble_eq_true rfl) ⟨by decide, by decide⟩ (fun v24 g24 h24 => ?_)
  obtain ⟨e124, e224⟩ := h24
  rw [e124, e224]
  refine vq_putR (k := 1) (C := R_S) (T := T_S) (ty := (.object "SuccessionClerk$Survey")) t_S d_S_init_27 rfl in_S w_211 ty_S nm_S (by decide) rfl (by decide) rfl rfl rfl (by decide +kernel) rfl rfl rfl ?_
  refine vq_aload_n d_S_init_30 rfl ?_
  refine vq_new (C := R_D) (T := T_D) t_D d_S_init_31 w_116 w_117 w_4 rfl in_D ty_D rfl (by decide) rfl (fun j hj => by rcases (show j = 0 ∨ j = 1 ∨ j = 2 ∨ j = 3 ∨ j = 4 ∨ j = 5 ∨ j = 6 by have h9 : j < 7 := hj; omega) with rfl | rfl | rfl | rfl | rfl | rfl | rfl <;> rfl) (by decide) (by decide) ?_
  refine vq_dup d_S_init_34 rfl ?_
  refine vq_aload_n d_S_init_35 rfl ?_
  refine vq_getR (k := 0) (C := R_S) (T := T_S) d_S_init_36 rfl in_S w_210 (by decide) rfl (by decide) rfl rfl ?_
  refine vq_aload_n d_S_init_39 rfl ?_
  refine vq_getR (k := 1) (C := R_S) (T := T_S) d_S_init_40 rfl in_S w_211 (by decide) rfl (by decide) rfl rfl ?_
  refine vq_callI (n := 2) _ _ d_S_init_43 (ct_D_init l b id D) rfl w_118 w_119 w_120 w_4 rfl rfl ⟨by decide, by decide, by decide +kernel⟩ ⟨by decide, by decide⟩ rfl rfl (Nat.le_of_ble_eq_true rfl) ⟨by decide, by decide⟩ (fun v43 g43 h43 => ?_)
  obtain ⟨e143, e243⟩ := h43
  rw [e143, e243]
  refine vq_putR (k := 2) (C := R_S) (T := T_S) (ty := (.object "SuccessionClerk$Division")) t_S d_S_init_46 rfl in_S w_212 ty_S nm_S (by decide) rfl (by decide) rfl rfl rfl (by decide +kernel) rfl rfl rfl ?_
  refine vq_aload_n d_S_init_49 rfl ?_
  refine vq_new (C := R_L) (T := T_L) t_L d_S_init_50 w_174 w_175 w_6 rfl in_L ty_L rfl (by decide) rfl (fun j hj => by rcases (show j = 0 ∨ j = 1 ∨ j = 2 ∨ j = 3 ∨ j = 4 ∨ j = 5 ∨ j = 6 ∨ j = 7 by have h9 : j < 8 := hj; omega) with rfl | rfl | rfl | rfl | rfl | rfl | rfl | rfl <;> rfl) (by decide) (by decide) ?_
  refine vq_dup d_S_init_53 rfl ?_
  refine vq_aload_n d_S_init_54 rfl ?_
  refine vq_getR (k := 0) (C := R_S) (T := T_S) d_S_init_55 rfl in_S w_210 (by decide) rfl (by decide) rfl rfl ?_
  refine vq_aload_n d_S_init_58 rfl ?_
  refine vq_getR (k := 1) (C := R_S) (T := T_S) d_S_init_59 rfl in_S w_211 (by decide) rfl (by decide) rfl rfl ?_
  refine vq_aload_n d_S_init_62 rfl ?_
  refine vq_getR (k := 2) (C := R_S) (T := T_S) d_S_init_63 rfl in_S w_212 (by decide) rfl (by decide) rfl rfl ?_
  refine vq_callI (n := 3) _ _ d_S_init_66 (ct_L_init l b id D) rfl w_176 w_177 w_178 w_6 rfl rfl ⟨by decide, by decide, by decide +kernel⟩ ⟨by decide, by decide⟩ rfl rfl (Nat.le_of_ble_eq_true rfl) ⟨by decide, by decide⟩ (fun v66 g66 h66 => ?_)
  obtain ⟨e166, e266⟩ := h66
  rw [e166, e266]
  refine vq_putR (k := 3) (C := R_S) (T := T_S) (ty := (.object "SuccessionClerk$Ledger")) t_S d_S_init_69 rfl in_S w_213 ty_S nm_S (by decide) rfl (by decide) rfl rfl rfl (by decide +kernel) rfl rfl rfl ?_
  refine vq_vret d_S_init_72 rfl (by decide) (by decide) rfl rfl ?_
  exact ⟨rfl, rfl⟩
