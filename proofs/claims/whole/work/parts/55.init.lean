/-! the constructors. Laid by wip/whole/specs/p55.py -/
def g0 : Sg := (fun _ _ => 0, fun _ _ => 0)
def g1 : Sg := sJ g0 34 (vp_updL (g0.2 34) 4 1)
def kZ : Nat → Nat → Bool := fun _ _ => false
theorem hI_F {b : Nat} {id : Nat → ClassId} {K : Nat → Nat → Bool} (j : Nat) (hj : j < 20) : ∃ a, qE b id K g0 (8 + j) = .inl (id 0, a) ∧ vp_cell (id 0) a = arrV (id 0) 20 (fun _ => defaultValue .int) := ⟨_, qE_1 (qK_gi j hj), by rw [qL_gi j hj]; rfl⟩
theorem hI_L {b : Nat} {id : Nat → ClassId} {K : Nat → Nat → Bool} (j : Nat) (hj : j < 20) : ∃ a, qE b id K g1 (43 + j) = .inl (id 2, a) ∧ vp_cell (id 2) a = arrV (id 2) 21 (fun _ => defaultValue .long) := by
  refine ⟨_, qE_3 (qK_pm j hj), ?_⟩
  rw [qL_pm j hj, show g1.2 (43 + j) = fun _ => 0 from sJ_n (by omega)]
  rfl
def m_F_init : Mt := (y_F_init, c_F_init, 1, { frames := 8, cells := 27, slots := 540, locals := 130 }, none, none)
set_option maxRecDepth 100000 in
set_option maxHeartbeats 4000000 in
theorem ct_F_init (l : Launch) (b : Nat) (id : Nat → ClassId) (D : va_G)  : qCT l b id D m_F_init true [.ref (b + 1)] 2 kZ g0 29 (kS (kS (kS (kS (kS (kS (kS kZ 1 1) 1 2) 1 3) 1 4) 1 5) 1 6) 1 7) (fun v g' => v = none ∧ g' = g0) (fun _ _ => False) := by
  refine qCT_of rfl (by decide) (Nat.le_of_ble_eq_true rfl) ?_
  show Vq l b id D m_F_init true 29 (kS (kS (kS (kS (kS (kS (kS kZ 1 1) 1 2) 1 3) 1 4) 1 5) 1 6) 1 7) _ 2 kZ _ 2 kZ 0 0 0 [(0, .ref (b + 1))] [] g0
  refine vq_aload_n d_F_init_0 rfl ?_
  refine vq_obj d_F_init_1 w_28 w_21 w_22 (by decide) (by decide) ?_
  refine vq_aload_n d_F_init_4 rfl ?_
  refine vq_bipush (v := 20) d_F_init_5 (by decide) ?_
  refine vq_newa .int 0 .int rfl d_F_init_7 w_75 rfl rfl (by decide) (by decide) (by decide) (by decide) rfl ⟨_, rfl⟩ (by decide) (by decide) ?_
  refine vq_putR (k := 1) (C := R_F) (T := T_F) (ty := (.array .int)) t_F d_F_init_9 rfl in_F w_37 ty_F nm_F (by decide) rfl (by decide) rfl rfl rfl (by decide +kernel) rfl rfl rfl ?_
  refine vq_aload_n d_F_init_12 rfl ?_
  refine vq_bipush (v := 20) d_F_init_13 (by decide) ?_
  refine vq_newa .int 0 .int rfl d_F_init_15 w_75 rfl rfl (by decide) (by decide) (by decide) (by decide) rfl ⟨_, rfl⟩ (by decide) (by decide) ?_
  refine vq_putR (k := 2) (C := R_F) (T := T_F) (ty := (.array .int)) t_F d_F_init_17 rfl in_F w_41 ty_F nm_F (by decide) rfl (by decide) rfl rfl rfl (by decide +kernel) rfl rfl rfl ?_
  refine vq_aload_n d_F_init_20 rfl ?_
  refine vq_bipush (v := 20) d_F_init_21 (by decide) ?_
  refine vq_newa .int 0 .int rfl d_F_init_23 w_75 rfl rfl (by decide) (by decide) (by decide) (by decide) rfl ⟨_, rfl⟩ (by decide) (by decide) ?_
  refine vq_putR (k := 3) (C := R_F) (T := T_F) (ty := (.array .int)) t_F d_F_init_25 rfl in_F w_45 ty_F nm_F (by decide) rfl (by decide) rfl rfl rfl (by decide +kernel) rfl rfl rfl ?_
  refine vq_aload_n d_F_init_28 rfl ?_
  refine vq_bipush (v := 20) d_F_init_29 (by decide) ?_
  refine vq_newa .int 0 .int rfl d_F_init_31 w_75 rfl rfl (by decide) (by decide) (by decide) (by decide) rfl ⟨_, rfl⟩ (by decide) (by decide) ?_
  refine vq_putR (k := 4) (C := R_F) (T := T_F) (ty := (.array .int)) t_F d_F_init_33 rfl in_F w_48 ty_F nm_F (by decide) rfl (by decide) rfl rfl rfl (by decide +kernel) rfl rfl rfl ?_
  refine vq_aload_n d_F_init_36 rfl ?_
  refine vq_bipush (v := 20) d_F_init_37 (by decide) ?_
  refine vq_newa .int 0 .int rfl d_F_init_39 w_75 rfl rfl (by decide) (by decide) (by decide) (by decide) rfl ⟨_, rfl⟩ (by decide) (by decide) ?_
  refine vq_putR (k := 5) (C := R_F) (T := T_F) (ty := (.array .int)) t_F d_F_init_41 rfl in_F w_51 ty_F nm_F (by decide) rfl (by decide) rfl rfl rfl (by decide +kernel) rfl rfl rfl ?_
  refine vq_aload_n d_F_init_44 rfl ?_
  refine vq_bipush (v := 20) d_F_init_45 (by decide) ?_
  refine vq_bipush (v := 20) d_F_init_47 (by decide) ?_
  refine vq_mna (kO := 3) (kI := 0) (m := 20) .int d_F_init_49 w_29 (by decide) w_75 rfl rfl (fun _ h => h) (fun _ h => h) rfl (by decide) (by decide) (by decide) (by decide) (by decide) rfl rfl rfl (fun j hj => by rw [show 2 + 1 + 1 + 1 + 1 + 1 + (j + 1) = 8 + j by omega]; exact hI_F j hj) (by decide) (by decide) ?_
  refine vq_putR (k := 6) (C := R_F) (T := T_F) (ty := (.array (.array .int))) t_F d_F_init_53 rfl in_F w_54 ty_F nm_F (by decide) rfl (by decide) rfl rfl rfl (by decide +kernel) rfl rfl rfl ?_
  refine vq_aload_n d_F_init_56 rfl ?_
  refine vq_bipush (v := 20) d_F_init_57 (by decide) ?_
  refine vq_newa .int 0 .int rfl d_F_init_59 w_75 rfl rfl (by decide) (by decide) (by decide) (by decide) rfl ⟨_, rfl⟩ (by decide) (by decide) ?_
  refine vq_putR (k := 7) (C := R_F) (T := T_F) (ty := (.array .int)) t_F d_F_init_61 rfl in_F w_57 ty_F nm_F (by decide) rfl (by decide) rfl rfl rfl (by decide +kernel) rfl rfl rfl ?_
  refine vq_vret d_F_init_64 rfl (by decide) (by decide) rfl rfl ?_
  exact ⟨rfl, rfl⟩
