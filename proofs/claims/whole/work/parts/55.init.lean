/-! the constructors. Laid by wip/whole/specs/p55.py -/
def g0 : Sg := (fun _ _ => 0, fun _ _ => 0)
def g1 : Sg := sJ g0 34 (vp_updL (g0.2 34) 4 1)
def kZ : Nat → Nat → Bool := fun _ _ => false
theorem hI_F {b : Nat} {id : Nat → ClassId} {K : Nat → Nat → Bool} (j : Nat) (hj : j < 20) : ∃ a, qE b id K g0 (8 + j) = .inl (id 0, a) ∧ vp_cell (id 0) a = arrV (id 0) 20 (fun _ => defaultValue .int) := ⟨_, qE_1 (qK_gi j hj), by rw [qL_gi j hj]; rfl⟩
theorem hI_L {b : Nat} {id : Nat → ClassId} {K : Nat → Nat → Bool} (j : Nat) (hj : j < 20) : ∃ a, qE b id K g1 (43 + j) = .inl (id 2, a) ∧ vp_cell (id 2) a = arrV (id 2) 21 (fun _ => defaultValue .long) := by
  refine ⟨_, qE_3 (qK_pm j hj), ?_⟩
  rw [qL_pm j hj, show g1.2 (43 + j) = fun _ => 0 from sJ_n (by omega)]
  rfl
def kp_0 : Nat → Nat → Bool := kZ
def kp_1 : Nat → Nat → Bool := kS kp_0 1 1
def kp_2 : Nat → Nat → Bool := kS kp_1 1 2
def kp_3 : Nat → Nat → Bool := kS kp_2 1 3
def kp_4 : Nat → Nat → Bool := kS kp_3 1 4
def kp_5 : Nat → Nat → Bool := kS kp_4 1 5
def kp_6 : Nat → Nat → Bool := kS kp_5 1 6
def kp_7 : Nat → Nat → Bool := kS kp_6 1 7
def kp_8 : Nat → Nat → Bool := kS kp_7 0 0
def kp_9 : Nat → Nat → Bool := kS kp_8 29 4
def kp_10 : Nat → Nat → Bool := kS kp_9 29 5
def kp_11 : Nat → Nat → Bool := kS kp_10 29 6
def kp_12 : Nat → Nat → Bool := kS kp_11 29 7
def kp_13 : Nat → Nat → Bool := kS kp_12 29 0
def kp_14 : Nat → Nat → Bool := kS kp_13 0 1
def kp_15 : Nat → Nat → Bool := kS kp_14 34 3
def kp_16 : Nat → Nat → Bool := kS kp_15 34 5
def kp_17 : Nat → Nat → Bool := kS kp_16 34 6
def kp_18 : Nat → Nat → Bool := kS kp_17 34 0
def kp_19 : Nat → Nat → Bool := kS kp_18 34 1
def kp_20 : Nat → Nat → Bool := kS kp_19 38 2
def kp_21 : Nat → Nat → Bool := kS kp_20 38 5
def kp_22 : Nat → Nat → Bool := kS kp_21 38 0
def kp_23 : Nat → Nat → Bool := kS kp_22 38 1
def kp_24 : Nat → Nat → Bool := kS kp_23 34 2
def kp_25 : Nat → Nat → Bool := kS kp_24 0 2
def kp_26 : Nat → Nat → Bool := kS kp_25 41 3
def kp_27 : Nat → Nat → Bool := kS kp_26 41 4
def kp_28 : Nat → Nat → Bool := kS kp_27 41 5
def kp_29 : Nat → Nat → Bool := kS kp_28 41 6
def kp_30 : Nat → Nat → Bool := kS kp_29 41 7
def kp_31 : Nat → Nat → Bool := kS kp_30 41 0
def kp_32 : Nat → Nat → Bool := kS kp_31 41 1
def kp_33 : Nat → Nat → Bool := kS kp_32 41 2
def kp_34 : Nat → Nat → Bool := kS kp_33 0 3
def kp_35 : Nat → Nat → Bool := kS kp_34 67 2
def kp_36 : Nat → Nat → Bool := kS kp_35 67 3
def kp_37 : Nat → Nat → Bool := kS kp_36 67 4
def kp_38 : Nat → Nat → Bool := kS kp_37 67 5
def kp_39 : Nat → Nat → Bool := kS kp_38 67 6
def kp_40 : Nat → Nat → Bool := kS kp_39 67 7
def kp_41 : Nat → Nat → Bool := kS kp_40 67 8
def kp_42 : Nat → Nat → Bool := kS kp_41 67 10
def kp_43 : Nat → Nat → Bool := kS kp_42 67 11
def kp_44 : Nat → Nat → Bool := kS kp_43 67 12
def kp_45 : Nat → Nat → Bool := kS kp_44 67 13
def kp_46 : Nat → Nat → Bool := kS kp_45 67 14
def kp_47 : Nat → Nat → Bool := kS kp_46 67 19
def kp_48 : Nat → Nat → Bool := kS kp_47 67 20
def kp_49 : Nat → Nat → Bool := kS kp_48 67 21
def kp_50 : Nat → Nat → Bool := kS kp_49 67 22
def m_F_init : Mt := (y_F_init, c_F_init, 1, { frames := 8, cells := 27, slots := 540, locals := 130 }, none, none)
set_option maxRecDepth 100000 in
set_option maxHeartbeats 4000000 in
theorem ct_F_init (l : Launch) (b : Nat) (id : Nat → ClassId) (D : va_G)  : qCT l b id D m_F_init true [.ref (b + 1)] 2 kp_0 g0 29 kp_7 (fun v g' => v = none ∧ g' = g0) (fun _ _ => False) := by
  refine qCT_of rfl (by decide) (Nat.le_of_ble_eq_true rfl) ?_
  show Vq l b id D m_F_init true 29 kp_7 _ 2 kp_0 _ 2 kp_0 0 0 0 [(0, .ref (b + 1))] [] g0
  refine vq_aload_n d_F_init_0 rfl ?_
  refine vq_obj d_F_init_1 w_28 w_21 w_22 (by decide) (by decide) ?_
  refine vq_aload_n d_F_init_4 rfl ?_
  refine vq_bipush (v := 20) d_F_init_5 (by decide) ?_
  refine vq_newa .int 0 .int rfl d_F_init_7 w_75 rfl rfl (by decide) (by decide) (by decide) (by decide) rfl ⟨_, rfl⟩ (by decide) (by decide) ?_
  refine vq_putR (k := 1) (C := R_F) (T := T_F) (ty := (.array .int)) t_F d_F_init_9 rfl in_F w_37 ty_F nm_F (by decide) rfl (by decide) rfl rfl rfl (by decide +kernel) rfl rfl rfl ?_
  refine vq_aload_n d_F_init_12 rfl ?_
  refine vq_bipush (v := 20) d_F_init_13 (by decide) ?_
  refine vq_newa .int 0 .int rfl d_F_init_15 w_75 rfl rfl (by decide) (by decide) (by decide) (by decide) rfl ⟨_, rfl⟩ (by decide) (by decide) ?_
  refine vq_putR (k := 2) (C := R_F) (T := T_F) (ty := (.array .int)) t_F d_F_init_17 rfl in_F w_41 ty_F nm_F (by decide) rfl (by decide) rfl rfl rfl (by decide +kernel) rfl rfl rfl ?_
  refine vq_aload_n d_F_init_20 rfl ?_
  refine vq_bipush (v := 20) d_F_init_21 (by decide) ?_
  refine vq_newa .int 0 .int rfl d_F_init_23 w_75 rfl rfl (by decide) (by decide) (by decide) (by decide) rfl ⟨_, rfl⟩ (by decide) (by decide) ?_
  refine vq_putR (k := 3) (C := R_F) (T := T_F) (ty := (.array .int)) t_F d_F_init_25 rfl in_F w_45 ty_F nm_F (by decide) rfl (by decide) rfl rfl rfl (by decide +kernel) rfl rfl rfl ?_
  refine vq_aload_n d_F_init_28 rfl ?_
  refine vq_bipush (v := 20) d_F_init_29 (by decide) ?_
  refine vq_newa .int 0 .int rfl d_F_init_31 w_75 rfl rfl (by decide) (by decide) (by decide) (by decide) rfl ⟨_, rfl⟩ (by decide) (by decide) ?_
  refine vq_putR (k := 4) (C := R_F) (T := T_F) (ty := (.array .int)) t_F d_F_init_33 rfl in_F w_48 ty_F nm_F (by decide) rfl (by decide) rfl rfl rfl (by decide +kernel) rfl rfl rfl ?_
  refine vq_aload_n d_F_init_36 rfl ?_
  refine vq_bipush (v := 20) d_F_init_37 (by decide) ?_
  refine vq_newa .int 0 .int rfl d_F_init_39 w_75 rfl rfl (by decide) (by decide) (by decide) (by decide) rfl ⟨_, rfl⟩ (by decide) (by decide) ?_
  refine vq_putR (k := 5) (C := R_F) (T := T_F) (ty := (.array .int)) t_F d_F_init_41 rfl in_F w_51 ty_F nm_F (by decide) rfl (by decide) rfl rfl rfl (by decide +kernel) rfl rfl rfl ?_
  refine vq_aload_n d_F_init_44 rfl ?_
  refine vq_bipush (v := 20) d_F_init_45 (by decide) ?_
  refine vq_bipush (v := 20) d_F_init_47 (by decide) ?_
  refine vq_mna (kO := 3) (kI := 0) (m := 20) .int d_F_init_49 w_29 (by decide) w_75 rfl rfl (fun _ h => h) (fun _ h => h) rfl (by decide) (by decide) (by decide) (by decide) (by decide) rfl rfl rfl (fun j hj => by rw [show 2 + 1 + 1 + 1 + 1 + 1 + (j + 1) = 8 + j by omega]; exact hI_F j hj) (by decide) (by decide) ?_
  refine vq_putR (k := 6) (C := R_F) (T := T_F) (ty := (.array (.array .int))) t_F d_F_init_53 rfl in_F w_54 ty_F nm_F (by decide) rfl (by decide) rfl rfl rfl (by decide +kernel) rfl rfl rfl ?_
  refine vq_aload_n d_F_init_56 rfl ?_
  refine vq_bipush (v := 20) d_F_init_57 (by decide) ?_
  refine vq_newa .int 0 .int rfl d_F_init_59 w_75 rfl rfl (by decide) (by decide) (by decide) (by decide) rfl ⟨_, rfl⟩ (by decide) (by decide) ?_
  refine vq_putR (k := 7) (C := R_F) (T := T_F) (ty := (.array .int)) t_F d_F_init_61 rfl in_F w_57 ty_F nm_F (by decide) rfl (by decide) rfl rfl rfl (by decide +kernel) rfl rfl rfl ?_
  refine vq_vret d_F_init_64 rfl (by decide) (by decide) rfl rfl ?_
  exact ⟨rfl, rfl⟩
def m_V_init : Mt := (y_V_init, c_V_init, 2, { frames := 8, cells := 4, slots := 140, locals := 130 }, none, none)
set_option maxRecDepth 100000 in
set_option maxHeartbeats 4000000 in
theorem ct_V_init (l : Launch) (b : Nat) (id : Nat → ClassId) (D : va_G)  : qCT l b id D m_V_init true [.ref (b + 29), .ref (b + 1)] 30 kp_8 g0 34 kp_13 (fun v g' => v = none ∧ g' = g0) (fun _ _ => False) := by
  refine qCT_of rfl (by decide) (Nat.le_of_ble_eq_true rfl) ?_
  show Vq l b id D m_V_init true 34 kp_13 _ 30 kp_8 _ 30 kp_8 0 0 0 [(0, .ref (b + 29)), (1, .ref (b + 1))] [] g0
  refine vq_aload_n d_V_init_0 rfl ?_
  refine vq_obj d_V_init_1 w_81 w_21 w_22 (by decide) (by decide) ?_
  refine vq_aload_n d_V_init_4 rfl ?_
  refine vq_bipush (v := 20) d_V_init_5 (by decide) ?_
  refine vq_newa .boolean 1 .boolean rfl d_V_init_7 w_115 rfl rfl (by decide) (by decide) (by decide) (by decide) rfl ⟨_, rfl⟩ (by decide) (by decide) ?_
  refine vq_putR (k := 4) (C := R_V) (T := T_V) (ty := (.array .boolean)) t_V d_V_init_9 rfl in_V w_92 ty_V nm_V (by decide) rfl (by decide) rfl rfl rfl (by decide +kernel) rfl rfl rfl ?_
  refine vq_aload_n d_V_init_12 rfl ?_
  refine vq_bipush (v := 20) d_V_init_13 (by decide) ?_
  refine vq_newa .int 0 .int rfl d_V_init_15 w_75 rfl rfl (by decide) (by decide) (by decide) (by decide) rfl ⟨_, rfl⟩ (by decide) (by decide) ?_
  refine vq_putR (k := 5) (C := R_V) (T := T_V) (ty := (.array .int)) t_V d_V_init_17 rfl in_V w_94 ty_V nm_V (by decide) rfl (by decide) rfl rfl rfl (by decide +kernel) rfl rfl rfl ?_
  refine vq_aload_n d_V_init_20 rfl ?_
  refine vq_bipush (v := 80) d_V_init_21 (by decide) ?_
  refine vq_newa .boolean 1 .boolean rfl d_V_init_23 w_115 rfl rfl (by decide) (by decide) (by decide) (by decide) rfl ⟨_, rfl⟩ (by decide) (by decide) ?_
  refine vq_putR (k := 6) (C := R_V) (T := T_V) (ty := (.array .boolean)) t_V d_V_init_25 rfl in_V w_96 ty_V nm_V (by decide) rfl (by decide) rfl rfl rfl (by decide +kernel) rfl rfl rfl ?_
  refine vq_aload_n d_V_init_28 rfl ?_
  refine vq_bipush (v := 20) d_V_init_29 (by decide) ?_
  refine vq_newa .boolean 1 .boolean rfl d_V_init_31 w_115 rfl rfl (by decide) (by decide) (by decide) (by decide) rfl ⟨_, rfl⟩ (by decide) (by decide) ?_
  refine vq_putR (k := 7) (C := R_V) (T := T_V) (ty := (.array .boolean)) t_V d_V_init_33 rfl in_V w_97 ty_V nm_V (by decide) rfl (by decide) rfl rfl rfl (by decide +kernel) rfl rfl rfl ?_
  refine vq_aload_n d_V_init_36 rfl ?_
  refine vq_aload_n d_V_init_37 rfl ?_
  refine vq_putR (k := 0) (C := R_V) (T := T_V) (ty := (.object "SuccessionClerk$Family")) t_V d_V_init_38 rfl in_V w_82 ty_V nm_V (by decide) rfl (by decide) rfl rfl rfl (by decide +kernel) rfl rfl rfl ?_
  refine vq_vret d_V_init_41 rfl (by decide) (by decide) rfl rfl ?_
  exact ⟨rfl, rfl⟩
def m_H_init : Mt := (y_H_init, c_H_init, 3, { frames := 8, cells := 2, slots := 40, locals := 130 }, none, none)
set_option maxRecDepth 100000 in
set_option maxHeartbeats 4000000 in
theorem ct_H_init (l : Launch) (b : Nat) (id : Nat → ClassId) (D : va_G)  : qCT l b id D m_H_init true [.ref (b + 38), .ref (b + 1), .ref (b + 29)] 39 kp_19 g1 41 kp_23 (fun v g' => v = none ∧ g' = g1) (fun _ _ => False) := by
  refine qCT_of rfl (by decide) (Nat.le_of_ble_eq_true rfl) ?_
  show Vq l b id D m_H_init true 41 kp_23 _ 39 kp_19 _ 39 kp_19 0 0 0 [(0, .ref (b + 38)), (1, .ref (b + 1)), (2, .ref (b + 29))] [] g1
  refine vq_aload_n d_H_init_0 rfl ?_
  refine vq_obj d_H_init_1 w_127 w_21 w_22 (by decide) (by decide) ?_
  refine vq_aload_n d_H_init_4 rfl ?_
  refine vq_bipush (v := 20) d_H_init_5 (by decide) ?_
  refine vq_newa .boolean 1 .boolean rfl d_H_init_7 w_115 rfl rfl (by decide) (by decide) (by decide) (by decide) rfl ⟨_, rfl⟩ (by decide) (by decide) ?_
  refine vq_putR (k := 2) (C := R_H) (T := T_H) (ty := (.array .boolean)) t_H d_H_init_9 rfl in_H w_130 ty_H nm_H (by decide) rfl (by decide) rfl rfl rfl (by decide +kernel) rfl rfl rfl ?_
  refine vq_aload_n d_H_init_12 rfl ?_
  refine vq_bipush (v := 20) d_H_init_13 (by decide) ?_
  refine vq_newa .long 2 .long rfl d_H_init_15 w_149 rfl rfl (by decide) (by decide) (by decide) (by decide) rfl ⟨_, rfl⟩ (by decide) (by decide) ?_
  refine vq_putR (k := 5) (C := R_H) (T := T_H) (ty := (.array .long)) t_H d_H_init_17 rfl in_H w_135 ty_H nm_H (by decide) rfl (by decide) rfl rfl rfl (by decide +kernel) rfl rfl rfl ?_
  refine vq_aload_n d_H_init_20 rfl ?_
  refine vq_aload_n d_H_init_21 rfl ?_
  refine vq_putR (k := 0) (C := R_H) (T := T_H) (ty := (.object "SuccessionClerk$Family")) t_H d_H_init_22 rfl in_H w_128 ty_H nm_H (by decide) rfl (by decide) rfl rfl rfl (by decide +kernel) rfl rfl rfl ?_
  refine vq_aload_n d_H_init_25 rfl ?_
  refine vq_aload_n d_H_init_26 rfl ?_
  refine vq_putR (k := 1) (C := R_H) (T := T_H) (ty := (.object "SuccessionClerk$Survey")) t_H d_H_init_27 rfl in_H w_129 ty_H nm_H (by decide) rfl (by decide) rfl rfl rfl (by decide +kernel) rfl rfl rfl ?_
  refine vq_vret d_H_init_30 rfl (by decide) (by decide) rfl rfl ?_
  exact ⟨rfl, rfl⟩
