/-! The law from its entry: both sides made, then the loop. Laid by wip/whole/specs/p65.py -/
theorem qE_K {b : Nat} {id : Nat → ClassId} {K K' : Nat → Nat → Bool} {g : Sg} {p : Nat} (h : ∀ k, k < qL p → 2 ≤ qF p k → K' p k = K p k) : qE b id K' g p = qE b id K g p := by
  have hm : (List.range (qL p)).map (qV b K' g p) = (List.range (qL p)).map (qV b K g p) := by
    refine List.map_congr_left (fun k hk => ?_)
    have hk9 := h k (List.mem_range.mp hk)
    unfold qV
    split
    · rfl
    · rfl
    · rename_i n hn
      rw [hk9 (by omega)]
  unfold qE
  rw [hm]
theorem kp_all : ∀ p, p < 85 → ∀ k, k < qL p → 2 ≤ qF p k → kT p k = kp_50 p k := by decide +kernel
def f_0 : Fam := (0, fun _ => none, fun _ => none, fun _ => none, fun _ => none, fun _ => 0, fun _ _ => 0, fun _ _ => false)
def k_0 : Lg := (fun _ _ => 0, fun _ => 0, fun _ => 0)
theorem zV_0 : zV f_0 := ⟨⟨by decide, fun p j h => absurd h (Nat.not_lt_zero p), fun p j h => absurd h (Nat.not_lt_zero p), fun p j h => absurd h (Nat.not_lt_zero p), fun p j h => absurd h (Nat.not_lt_zero p), fun p j h => absurd h (Nat.not_lt_zero p), fun p => Nat.zero_le _, fun c p => Nat.zero_le _⟩, fun p _ => rfl⟩
theorem bt1_0 (w : Nat) : bt1 0 w = false := by
  unfold bt1
  simp
theorem Hc_0 : Hc g1 f_0 := ⟨rfl, fun p h => absurd h (Nat.not_lt_zero p), fun p h => absurd h (Nat.not_lt_zero p), fun p h => absurd h (Nat.not_lt_zero p), fun p h => absurd h (Nat.not_lt_zero p), fun p _ => rfl, fun c p _ _ => rfl, fun w f _ _ => bt1_0 w⟩
theorem Hm_0 : Hm g1 f_0 := ⟨rfl, fun p h => absurd h (Nat.not_lt_zero p), fun p h => absurd h (Nat.not_lt_zero p), fun p h => absurd h (Nat.not_lt_zero p), fun p h => absurd h (Nat.not_lt_zero p), fun p h => absurd h (Nat.not_lt_zero p), fun c p _ _ => rfl, fun w f _ _ => rfl⟩
theorem g1_n {q : Nat} (h : q ≠ 34) (i : Nat) : g1.2 q i = 0 := by
  unfold g1
  rw [sJ_n h]
  rfl
theorem Hl_0 : Hl g1 k_0 := ⟨fun e j _ _ => g1_n (by omega) j, fun j _ => g1_n (by omega) j, fun p _ => g1_n (by omega) p⟩
theorem Hn_0 : Hn g1 k_0 := ⟨fun e j _ _ => g1_n (by omega) _, fun j _ => g1_n (by omega) j, fun p _ => g1_n (by omega) p⟩
set_option maxRecDepth 100000 in
set_option maxHeartbeats 4000000 in
theorem law_all (l : Launch) (b : Nat) (id : Nat → ClassId) (D : va_G) (htr : l.stackTraces = false) {a L : Nat} {xs : Nat → Int32} (hL : L ≤ 2048) : Vz l b id D m_law true (Qz b room_1) (Pz a L xs b) 0 kp_0 0 0 0 [(0, .ref a)] [] g0 := by
  refine vz_new (C := R_S) (T := T_S) t_S d_W_law_0 w_15 w_16 w_1 rfl in_S ty_S rfl (by decide) rfl (fun j hj => by rcases (show j = 0 ∨ j = 1 ∨ j = 2 ∨ j = 3 by have h9 : j < 4 := hj; omega) with rfl | rfl | rfl | rfl <;> rfl) (by decide) (by decide) ?_
  refine vz_dup d_W_law_3 rfl ?_
  refine vz_callI (n := 0) _ _ d_W_law_4 (ct_S_init l b id D) rfl w_17 w_18 w_19 w_1 rfl rfl ⟨by decide, by decide, by decide +kernel⟩ ⟨by decide, by decide⟩ rfl rfl (Nat.le_of_ble_eq_true rfl) ⟨by decide, by decide⟩ (fun v4 g4 h4 => ?_)
  obtain ⟨e14, e24⟩ := h4
  rw [e14, e24]
  refine vz_astore_n (lv' := [(1, _), (0, _)]) d_W_law_7 (by decide) rfl ?_
  refine vz_new (C := R_M) (T := T_M) t_M d_W_law_8 w_649 w_650 w_7 rfl in_M ty_M rfl (by decide) rfl (fun j hj => by rcases (show j = 0 ∨ j = 1 ∨ j = 2 ∨ j = 3 ∨ j = 4 ∨ j = 5 ∨ j = 6 ∨ j = 7 ∨ j = 8 ∨ j = 9 ∨ j = 10 ∨ j = 11 ∨ j = 12 ∨ j = 13 ∨ j = 14 ∨ j = 15 ∨ j = 16 ∨ j = 17 ∨ j = 18 ∨ j = 19 ∨ j = 20 ∨ j = 21 ∨ j = 22 by have h9 : j < 23 := hj; omega) with rfl | rfl | rfl | rfl | rfl | rfl | rfl | rfl | rfl | rfl | rfl | rfl | rfl | rfl | rfl | rfl | rfl | rfl | rfl | rfl | rfl | rfl | rfl <;> rfl) (by decide) (by decide) ?_
  refine vz_dup d_W_law_11 rfl ?_
  refine vz_callI (n := 0) _ _ d_W_law_12 (ct_M_init l b id D) rfl w_651 w_652 w_653 w_7 rfl rfl ⟨by decide, by decide, by decide +kernel⟩ ⟨by decide, by decide⟩ rfl rfl (Nat.le_of_ble_eq_true rfl) ⟨by decide, by decide⟩ (fun v12 g12 h12 => ?_)
  obtain ⟨e112, e212⟩ := h12
  rw [e112, e212]
  refine vz_astore_n (lv' := [(2, _), (1, _), (0, _)]) d_W_law_15 (by decide) rfl ?_
  refine vz_iconst (v := 1) d_W_law_16 (by decide) ?_
  refine vz_newa .long 2 .long rfl d_W_law_17 w_149 rfl rfl (by decide) (by decide) (by decide) (by decide) rfl ⟨_, rfl⟩ (by decide) (by decide) ?_
  refine vz_astore_n (lv' := [(3, _), (2, _), (1, _), (0, _)]) d_W_law_19 (by decide) rfl ?_
  refine vz_iconst (v := 0) d_W_law_20 (by decide) ?_
  refine vz_istore (lv' := [(4, _), (3, _), (2, _), (1, _), (0, _)]) d_W_law_21 (by decide) rfl ?_
  refine vz_z ?_
  refine vz_K (K' := kT) (fun p hp => (qE_K (fun k h1 h2 => kp_all p hp k h1 h2))) ?_
  exact law_loop l b id D htr hL _ 0 g1 f_0 k_0 _ _ rfl (Nat.zero_le _) zV_0 Hc_0 Hl_0 Hm_0 Hn_0 (show 0 + 1 + 66 + 1 + 16 + 1 + 3 * (L - 0) ≤ 600000 by omega) (show 0 + 4 + 1338 + 23 + 1601 + 1 + 18 * (L - 0) ≤ 7000000 by omega)
