/-! The law's helpers: each call of the class, what it throws turned into a number. Laid by wip/whole/specs/p59.py -/
def wP (C : Nat) (A : Option Int64) (g : Sg) (F : Fam) (k : Lg) : Option Value → Sg → Prop := fun v g' => v = some (.int (nI C)) ∧ Hc g' F ∧ Hl g' k ∧ (∀ q, 66 < q → q < 84 → g'.1 q = g.1 q ∧ g'.2 q = g.2 q) ∧ (C = 0 → ∀ a, A = some a → g'.2 84 0 = a)
theorem bI_l0 {B : Bool} (h : bI B = 0) : (0 : Int64) = (bI B).toInt64 := by rw [h]; decide
theorem bI_l1 {B : Bool} (h : ¬ bI B = 0) : (1 : Int64) = (bI B).toInt64 := by cases B with
  | true => decide
  | false => exact absurd rfl h
section Wp
variable {C : Nat} {A : Option Int64} {g g1 : Sg} {F : Fam} {k : Lg}
theorem wP_v (hC : C = 0) (hc : Hc g1 F) (hl : Hl g1 k) (hu : Up g g1) : wP C none g F k (some (.int 0)) g1 := by
  subst hC
  exact ⟨rfl, hc, hl, fun q h1 _ => hu q h1, fun _ a h => nomatch h⟩
theorem wP_x {n : Nat} (hC : C = n) (h0 : n ≠ 0) (hc : Hc g F) (hl : Hl g k) : wP C A g F k (some (.int (nI n))) g := by
  subst hC
  exact ⟨rfl, hc, hl, fun q _ _ => ⟨rfl, rfl⟩, fun h => absurd h h0⟩
theorem wP_a {x a : Int64} (hC : C = 0) (hc : Hc g1 F) (hl : Hl g1 k) (hu : Up g g1) (ha : x = a) : wP C (some a) g F k (some (.int 0)) (sJ g1 84 (vp_updL (g1.2 84) 0 x)) := by
  subst hC
  refine ⟨rfl, hc, ⟨fun e j he hj => ?_, fun j hj => ?_, fun p hp => ?_⟩, fun q h1 h2 => ⟨(hu q h1).1, ?_⟩, fun _ a' h => ?_⟩
  · rw [sJ_n (by omega)]; exact hl.1 e j he hj
  · rw [sJ_n (by omega)]; exact hl.2.1 j hj
  · rw [sJ_n (by omega)]; exact hl.2.2 p hp
  · rw [sJ_n (by omega)]; exact (hu q h1).2
  · rw [sJ_s]
    cases h
    rw [← ha]
    simp [vp_updL]
end Wp
def m_W_person : Mt := (y_W_person, c_W_person, 5, { frames := 10, cells := 2, slots := 12, locals := 220 }, (some .int), some [(0, 10, 13, 13), (0, 10, 17, 15)])
set_option maxRecDepth 100000 in
set_option maxHeartbeats 4000000 in
theorem ct_W_person (l : Launch) (b : Nat) (id : Nat → ClassId) (D : va_G) (htr : l.stackTraces = false) {g : Sg} {F : Fam} (hV : zV F) (hc : Hc g F) {k : Lg} (hl : Hl g k) (x y : Int32) : qCT l b id D m_W_person false [.ref (b + 0), .int x, .int y, .ref (b + 84)] 85 kT g 85 kT (wP (k_person F x y) (some ((nI (zn F)).toInt64)) g (f_person F x y) k) (fun _ _ => False) := by
  refine qCT_ofH rfl (by decide) (Nat.le_of_ble_eq_true rfl) ?_
  show Vq l b id D m_W_person false 85 kT _ 85 kT _ 85 kT 0 0 0 [(0, .ref (b + 0)), (1, .int x), (2, .int y), (3, .ref (b + 84))] [] g
  refine vq_aload_n d_W_person_0 rfl ?_
  refine vq_iconst (v := 0) d_W_person_1 (by decide) ?_
  refine vq_aload_n d_W_person_2 rfl ?_
  refine vq_iload_n d_W_person_3 rfl ?_
  refine vq_iload_n d_W_person_4 rfl ?_
  refine vq_callVC (n := 2) (C := R_S) (T := T_S) _ _ d_W_person_5 (ct_S_person l b id D htr hV hc hl x y) w_371 w_372 w_373 w_374 w_1 rfl ⟨by decide, by decide, by decide +kernel⟩ ⟨by decide, by decide⟩ (by decide) rfl rfl rfl rfl (Nat.le_of_ble_eq_true rfl) rfl ⟨by decide, by decide⟩ ?_ (fun v1 g1 h1 => ?_)
  · intro E1 g1 h1
    obtain ⟨h2, e2⟩ := h1
    rw [e2]
    rcases h2 with ⟨hC, rfl⟩ | ⟨hC, rfl⟩
    · refine ⟨13, ⟨⟨0, 10, 13, 13⟩, [⟨0, 10, 17, 15⟩], by decide, by decide, by decide, rfl, w_369, Or.inl rfl⟩, fun x1 => ?_⟩
      refine vq_astore (lv' := [(4, _), (0, _), (1, _), (2, _), (3, _)]) d_W_person_13 (by decide) rfl ?_
      refine vq_iconst (v := 1) d_W_person_15 (by decide) ?_
      refine vq_iret d_W_person_16 rfl (by decide) (by decide) rfl rfl ?_
      exact wP_x hC (by decide) (by rw [show f_person F x y = F from (if_neg (show ¬ k_person F x y = 0 by omega))]; exact hc) hl
    · refine ⟨17, ⟨⟨0, 10, 17, 15⟩, [], by decide, by decide, by decide, rfl, w_370, Or.inr ⟨⟨0, 10, 13, 13⟩, "java/lang/IllegalArgumentException", rfl, by decide, by decide, w_369, by decide⟩⟩, fun x1 => ?_⟩
      refine vq_astore (lv' := [(4, _), (0, _), (1, _), (2, _), (3, _)]) d_W_person_17 (by decide) rfl ?_
      refine vq_iconst (v := 2) d_W_person_19 (by decide) ?_
      refine vq_iret d_W_person_20 rfl (by decide) (by decide) rfl rfl ?_
      exact wP_x hC (by decide) (by rw [show f_person F x y = F from (if_neg (show ¬ k_person F x y = 0 by omega))]; exact hc) hl
  · obtain ⟨hC, hv, hc1, hl1, hu1⟩ := h1
    rw [hv]
    refine vq_i2l d_W_person_8 rfl ?_
    refine vq_last d_W_person_9 rfl (by decide) rfl (show (0 : Int32) = nI 0 by decide) (by decide) ?_
    refine vq_goto (tgt := 21) d_W_person_10 (by decide) ?_
    refine vq_iconst (v := 0) d_W_person_21 (by decide) ?_
    refine vq_iret d_W_person_22 rfl (by decide) (by decide) rfl rfl ?_
    exact wP_a hC hc1 hl1 hu1 rfl
def m_W_amend : Mt := (y_W_amend, c_W_amend, 5, { frames := 10, cells := 2, slots := 12, locals := 220 }, (some .int), some [(0, 7, 10, 13)])
set_option maxRecDepth 100000 in
set_option maxHeartbeats 4000000 in
theorem ct_W_amend (l : Launch) (b : Nat) (id : Nat → ClassId) (D : va_G) (htr : l.stackTraces = false) {g : Sg} {F : Fam} (hV : zV F) (hc : Hc g F) {k : Lg} (hl : Hl g k) (x y w : Int32) : qCT l b id D m_W_amend false [.ref (b + 0), .int x, .int y, .int w] 85 kT g 85 kT (wP (k_amend F x y w) none g (f_amend F x y w) k) (fun _ _ => False) := by
  refine qCT_ofH rfl (by decide) (Nat.le_of_ble_eq_true rfl) ?_
  show Vq l b id D m_W_amend false 85 kT _ 85 kT _ 85 kT 0 0 0 [(0, .ref (b + 0)), (1, .int x), (2, .int y), (3, .int w)] [] g
  refine vq_aload_n d_W_amend_0 rfl ?_
  refine vq_iload_n d_W_amend_1 rfl ?_
  refine vq_iload_n d_W_amend_2 rfl ?_
  refine vq_iload_n d_W_amend_3 rfl ?_
  refine vq_callVC (n := 3) (C := R_S) (T := T_S) _ _ d_W_amend_4 (ct_S_amend l b id D htr hV hc hl x y w) w_469 w_470 w_471 w_472 w_1 rfl ⟨by decide, by decide, by decide +kernel⟩ ⟨by decide, by decide⟩ (by decide) rfl rfl rfl rfl (Nat.le_of_ble_eq_true rfl) rfl ⟨by decide, by decide⟩ ?_ (fun v1 g1 h1 => ?_)
  · intro E1 g1 h1
    obtain ⟨h2, e2⟩ := h1
    rw [e2]
    rcases h2 with ⟨hC, rfl⟩ | ⟨hC, rfl⟩
    · refine ⟨10, ⟨⟨0, 7, 10, 13⟩, [], by decide, by decide, by decide, rfl, w_369, Or.inl rfl⟩, fun x1 => ?_⟩
      refine vq_astore (lv' := [(4, _), (0, _), (1, _), (2, _), (3, _)]) d_W_amend_10 (by decide) rfl ?_
      refine vq_iconst (v := 1) d_W_amend_12 (by decide) ?_
      refine vq_iret d_W_amend_13 rfl (by decide) (by decide) rfl rfl ?_
      exact wP_x hC (by decide) (by rw [show f_amend F x y w = F from (if_neg (show ¬ k_amend F x y w = 0 by omega))]; exact hc) hl
    · exact absurd hC (by unfold k_amend; split <;> decide)
  · obtain ⟨hC, hv, hc1, hl1, hu1⟩ := h1
    rw [hv]
    refine vq_goto (tgt := 14) d_W_amend_7 (by decide) ?_
    refine vq_iconst (v := 0) d_W_amend_14 (by decide) ?_
    refine vq_iret d_W_amend_15 rfl (by decide) (by decide) rfl rfl ?_
    exact wP_v hC hc1 hl1 hu1
def m_W_marry : Mt := (y_W_marry, c_W_marry, 4, { frames := 11, cells := 3, slots := 18, locals := 265 }, (some .int), some [(0, 6, 9, 13), (0, 6, 12, 15)])
set_option maxRecDepth 100000 in
set_option maxHeartbeats 4000000 in
theorem ct_W_marry (l : Launch) (b : Nat) (id : Nat → ClassId) (D : va_G) (htr : l.stackTraces = false) {g : Sg} {F : Fam} (hV : zV F) (hc : Hc g F) {k : Lg} (hl : Hl g k) (x y : Int32) : qCT l b id D m_W_marry false [.ref (b + 0), .int x, .int y] 85 kT g 85 kT (wP (k_marry F x y) none g (f_marry F x y) k) (fun _ _ => False) := by
  refine qCT_ofH rfl (by decide) (Nat.le_of_ble_eq_true rfl) ?_
  show Vq l b id D m_W_marry false 85 kT _ 85 kT _ 85 kT 0 0 0 [(0, .ref (b + 0)), (1, .int x), (2, .int y)] [] g
  refine vq_aload_n d_W_marry_0 rfl ?_
  refine vq_iload_n d_W_marry_1 rfl ?_
  refine vq_iload_n d_W_marry_2 rfl ?_
  refine vq_callVC (n := 2) (C := R_S) (T := T_S) _ _ d_W_marry_3 (ct_S_marry l b id D htr hV hc hl x y) w_481 w_482 w_483 w_484 w_1 rfl ⟨by decide, by decide, by decide +kernel⟩ ⟨by decide, by decide⟩ (by decide) rfl rfl rfl rfl (Nat.le_of_ble_eq_true rfl) rfl ⟨by decide, by decide⟩ ?_ (fun v1 g1 h1 => ?_)
  · intro E1 g1 h1
    obtain ⟨h2, e2⟩ := h1
    rw [e2]
    rcases h2 with ⟨hC, rfl⟩ | ⟨hC, rfl⟩
    · refine ⟨9, ⟨⟨0, 6, 9, 13⟩, [⟨0, 6, 12, 15⟩], by decide, by decide, by decide, rfl, w_369, Or.inl rfl⟩, fun x1 => ?_⟩
      refine vq_astore_n (lv' := [(3, _), (0, _), (1, _), (2, _)]) d_W_marry_9 (by decide) rfl ?_
      refine vq_iconst (v := 1) d_W_marry_10 (by decide) ?_
      refine vq_iret d_W_marry_11 rfl (by decide) (by decide) rfl rfl ?_
      exact wP_x hC (by decide) (by rw [show f_marry F x y = F from (if_neg (show ¬ k_marry F x y = 0 by omega))]; exact hc) hl
    · refine ⟨12, ⟨⟨0, 6, 12, 15⟩, [], by decide, by decide, by decide, rfl, w_370, Or.inr ⟨⟨0, 6, 9, 13⟩, "java/lang/IllegalArgumentException", rfl, by decide, by decide, w_369, by decide⟩⟩, fun x1 => ?_⟩
      refine vq_astore_n (lv' := [(3, _), (0, _), (1, _), (2, _)]) d_W_marry_12 (by decide) rfl ?_
      refine vq_iconst (v := 2) d_W_marry_13 (by decide) ?_
      refine vq_iret d_W_marry_14 rfl (by decide) (by decide) rfl rfl ?_
      exact wP_x hC (by decide) (by rw [show f_marry F x y = F from (if_neg (show ¬ k_marry F x y = 0 by omega))]; exact hc) hl
  · obtain ⟨hC, hv, hc1, hl1, hu1⟩ := h1
    rw [hv]
    refine vq_goto (tgt := 15) d_W_marry_6 (by decide) ?_
    refine vq_iconst (v := 0) d_W_marry_15 (by decide) ?_
    refine vq_iret d_W_marry_16 rfl (by decide) (by decide) rfl rfl ?_
    exact wP_v hC hc1 hl1 hu1
def m_W_divorce : Mt := (y_W_divorce, c_W_divorce, 4, { frames := 10, cells := 1, slots := 6, locals := 220 }, (some .int), some [(0, 16, 19, 13)])
set_option maxRecDepth 100000 in
set_option maxHeartbeats 4000000 in
theorem ct_W_divorce (l : Launch) (b : Nat) (id : Nat → ClassId) (D : va_G) (htr : l.stackTraces = false) {g : Sg} {F : Fam} (hV : zV F) (hc : Hc g F) {k : Lg} (hl : Hl g k) (x : Int32) : qCT l b id D m_W_divorce false [.ref (b + 0), .int x, .ref (b + 84)] 85 kT g 85 kT (wP (k_one F x) (some ((bI ((zdv F (zi x)).isSome)).toInt64)) g (f_divorce F x) k) (fun _ _ => False) := by
  refine qCT_ofH rfl (by decide) (Nat.le_of_ble_eq_true rfl) ?_
  show Vq l b id D m_W_divorce false 85 kT _ 85 kT _ 85 kT 0 0 0 [(0, .ref (b + 0)), (1, .int x), (2, .ref (b + 84))] [] g
  refine vq_aload_n d_W_divorce_0 rfl ?_
  refine vq_iconst (v := 0) d_W_divorce_1 (by decide) ?_
  refine vq_aload_n d_W_divorce_2 rfl ?_
  refine vq_iload_n d_W_divorce_3 rfl ?_
  refine vq_callVC (n := 1) (C := R_S) (T := T_S) _ _ d_W_divorce_4 (ct_S_divorce l b id D htr hV hc hl x) w_494 w_495 w_496 w_497 w_1 rfl ⟨by decide, by decide, by decide +kernel⟩ ⟨by decide, by decide⟩ (by decide) rfl rfl rfl rfl (Nat.le_of_ble_eq_true rfl) rfl ⟨by decide, by decide⟩ ?_ (fun v1 g1 h1 => ?_)
  · intro E1 g1 h1
    obtain ⟨h2, e2⟩ := h1
    rw [e2]
    rcases h2 with ⟨hC, rfl⟩ | ⟨hC, rfl⟩
    · refine ⟨19, ⟨⟨0, 16, 19, 13⟩, [], by decide, by decide, by decide, rfl, w_369, Or.inl rfl⟩, fun x1 => ?_⟩
      refine vq_astore_n (lv' := [(3, _), (0, _), (1, _), (2, _)]) d_W_divorce_19 (by decide) rfl ?_
      refine vq_iconst (v := 1) d_W_divorce_20 (by decide) ?_
      refine vq_iret d_W_divorce_21 rfl (by decide) (by decide) rfl rfl ?_
      exact wP_x hC (by decide) (by rw [show f_divorce F x = F from (if_neg (show ¬ k_one F x = 0 by omega))]; exact hc) hl
    · exact absurd hC (by unfold k_one; split <;> decide)
  · obtain ⟨hC, hv, hc1, hl1, hu1⟩ := h1
    rw [hv]
    refine vq_if_eq (tgt := 14) d_W_divorce_7 (by decide) (fun h7 => ?_) (fun h7 => ?_)
    · refine vq_lconst (v := 0) d_W_divorce_14 rfl ?_
      refine vq_last d_W_divorce_15 rfl (by decide) rfl (show (0 : Int32) = nI 0 by decide) (by decide) ?_
      refine vq_goto (tgt := 22) d_W_divorce_16 (by decide) ?_
      refine vq_iconst (v := 0) d_W_divorce_22 (by decide) ?_
      refine vq_iret d_W_divorce_23 rfl (by decide) (by decide) rfl rfl ?_
      exact wP_a hC hc1 hl1 hu1 (by first | exact bI_l0 (by assumption) | exact bI_l1 (by assumption))
    · refine vq_lconst (v := 1) d_W_divorce_10 rfl ?_
      refine vq_goto (tgt := 15) d_W_divorce_11 (by decide) ?_
      refine vq_last d_W_divorce_15 rfl (by decide) rfl (show (0 : Int32) = nI 0 by decide) (by decide) ?_
      refine vq_goto (tgt := 22) d_W_divorce_16 (by decide) ?_
      refine vq_iconst (v := 0) d_W_divorce_22 (by decide) ?_
      refine vq_iret d_W_divorce_23 rfl (by decide) (by decide) rfl rfl ?_
      exact wP_a hC hc1 hl1 hu1 (by first | exact bI_l0 (by assumption) | exact bI_l1 (by assumption))
def m_W_spouse : Mt := (y_W_spouse, c_W_spouse, 4, { frames := 10, cells := 1, slots := 6, locals := 220 }, (some .int), some [(0, 9, 12, 13)])
set_option maxRecDepth 100000 in
set_option maxHeartbeats 4000000 in
theorem ct_W_spouse (l : Launch) (b : Nat) (id : Nat → ClassId) (D : va_G) (htr : l.stackTraces = false) {g : Sg} {F : Fam} (hV : zV F) (hc : Hc g F) {k : Lg} (hl : Hl g k) (x : Int32) : qCT l b id D m_W_spouse false [.ref (b + 0), .int x, .ref (b + 84)] 85 kT g 85 kT (wP (k_one F x) (some ((eO (zs F (zi x))).toInt64)) g (F) k) (fun _ _ => False) := by
  refine qCT_ofH rfl (by decide) (Nat.le_of_ble_eq_true rfl) ?_
  show Vq l b id D m_W_spouse false 85 kT _ 85 kT _ 85 kT 0 0 0 [(0, .ref (b + 0)), (1, .int x), (2, .ref (b + 84))] [] g
  refine vq_aload_n d_W_spouse_0 rfl ?_
  refine vq_iconst (v := 0) d_W_spouse_1 (by decide) ?_
  refine vq_aload_n d_W_spouse_2 rfl ?_
  refine vq_iload_n d_W_spouse_3 rfl ?_
  refine vq_callVC (n := 1) (C := R_S) (T := T_S) _ _ d_W_spouse_4 (ct_S_spouse l b id D htr hV hc hl x) w_502 w_503 w_504 w_505 w_1 rfl ⟨by decide, by decide, by decide +kernel⟩ ⟨by decide, by decide⟩ (by decide) rfl rfl rfl rfl (Nat.le_of_ble_eq_true rfl) rfl ⟨by decide, by decide⟩ ?_ (fun v1 g1 h1 => ?_)
  · intro E1 g1 h1
    obtain ⟨h2, e2⟩ := h1
    rw [e2]
    rcases h2 with ⟨hC, rfl⟩ | ⟨hC, rfl⟩
    · refine ⟨12, ⟨⟨0, 9, 12, 13⟩, [], by decide, by decide, by decide, rfl, w_369, Or.inl rfl⟩, fun x1 => ?_⟩
      refine vq_astore_n (lv' := [(3, _), (0, _), (1, _), (2, _)]) d_W_spouse_12 (by decide) rfl ?_
      refine vq_iconst (v := 1) d_W_spouse_13 (by decide) ?_
      refine vq_iret d_W_spouse_14 rfl (by decide) (by decide) rfl rfl ?_
      exact wP_x hC (by decide) (by rw [show F = F from rfl]; exact hc) hl
    · exact absurd hC (by unfold k_one; split <;> decide)
  · obtain ⟨hC, hv, hc1, hl1, hu1⟩ := h1
    rw [hv]
    refine vq_i2l d_W_spouse_7 rfl ?_
    refine vq_last d_W_spouse_8 rfl (by decide) rfl (show (0 : Int32) = nI 0 by decide) (by decide) ?_
    refine vq_goto (tgt := 15) d_W_spouse_9 (by decide) ?_
    refine vq_iconst (v := 0) d_W_spouse_15 (by decide) ?_
    refine vq_iret d_W_spouse_16 rfl (by decide) (by decide) rfl rfl ?_
    exact wP_a hC hc1 hl1 hu1 rfl
def m_W_dies : Mt := (y_W_dies, c_W_dies, 4, { frames := 10, cells := 3, slots := 18, locals := 220 }, (some .int), some [(0, 6, 9, 13), (0, 6, 12, 15)])
set_option maxRecDepth 100000 in
set_option maxHeartbeats 4000000 in
theorem ct_W_dies (l : Launch) (b : Nat) (id : Nat → ClassId) (D : va_G) (htr : l.stackTraces = false) {g : Sg} {F : Fam} (hV : zV F) (hc : Hc g F) {k : Lg} (hl : Hl g k) (x y : Int32) : qCT l b id D m_W_dies false [.ref (b + 0), .int x, .int y] 85 kT g 85 kT (wP (k_dies F x y) none g (f_dies F x y) k) (fun _ _ => False) := by
  refine qCT_ofH rfl (by decide) (Nat.le_of_ble_eq_true rfl) ?_
  show Vq l b id D m_W_dies false 85 kT _ 85 kT _ 85 kT 0 0 0 [(0, .ref (b + 0)), (1, .int x), (2, .int y)] [] g
  refine vq_aload_n d_W_dies_0 rfl ?_
  refine vq_iload_n d_W_dies_1 rfl ?_
  refine vq_iload_n d_W_dies_2 rfl ?_
  refine vq_callVC (n := 2) (C := R_S) (T := T_S) _ _ d_W_dies_3 (ct_S_dies l b id D htr hV hc hl x y) w_509 w_510 w_511 w_512 w_1 rfl ⟨by decide, by decide, by decide +kernel⟩ ⟨by decide, by decide⟩ (by decide) rfl rfl rfl rfl (Nat.le_of_ble_eq_true rfl) rfl ⟨by decide, by decide⟩ ?_ (fun v1 g1 h1 => ?_)
  · intro E1 g1 h1
    obtain ⟨h2, e2⟩ := h1
    rw [e2]
    rcases h2 with ⟨hC, rfl⟩ | ⟨hC, rfl⟩
    · refine ⟨9, ⟨⟨0, 6, 9, 13⟩, [⟨0, 6, 12, 15⟩], by decide, by decide, by decide, rfl, w_369, Or.inl rfl⟩, fun x1 => ?_⟩
      refine vq_astore_n (lv' := [(3, _), (0, _), (1, _), (2, _)]) d_W_dies_9 (by decide) rfl ?_
      refine vq_iconst (v := 1) d_W_dies_10 (by decide) ?_
      refine vq_iret d_W_dies_11 rfl (by decide) (by decide) rfl rfl ?_
      exact wP_x hC (by decide) (by rw [show f_dies F x y = F from (if_neg (show ¬ k_dies F x y = 0 by omega))]; exact hc) hl
    · refine ⟨12, ⟨⟨0, 6, 12, 15⟩, [], by decide, by decide, by decide, rfl, w_370, Or.inr ⟨⟨0, 6, 9, 13⟩, "java/lang/IllegalArgumentException", rfl, by decide, by decide, w_369, by decide⟩⟩, fun x1 => ?_⟩
      refine vq_astore_n (lv' := [(3, _), (0, _), (1, _), (2, _)]) d_W_dies_12 (by decide) rfl ?_
      refine vq_iconst (v := 2) d_W_dies_13 (by decide) ?_
      refine vq_iret d_W_dies_14 rfl (by decide) (by decide) rfl rfl ?_
      exact wP_x hC (by decide) (by rw [show f_dies F x y = F from (if_neg (show ¬ k_dies F x y = 0 by omega))]; exact hc) hl
  · obtain ⟨hC, hv, hc1, hl1, hu1⟩ := h1
    rw [hv]
    refine vq_goto (tgt := 15) d_W_dies_6 (by decide) ?_
    refine vq_iconst (v := 0) d_W_dies_15 (by decide) ?_
    refine vq_iret d_W_dies_16 rfl (by decide) (by decide) rfl rfl ?_
    exact wP_v hC hc1 hl1 hu1
def m_W_exclude : Mt := (y_W_exclude, c_W_exclude, 6, { frames := 10, cells := 2, slots := 12, locals := 220 }, (some .int), some [(0, 19, 22, 13)])
set_option maxRecDepth 100000 in
set_option maxHeartbeats 4000000 in
theorem ct_W_exclude (l : Launch) (b : Nat) (id : Nat → ClassId) (D : va_G) (htr : l.stackTraces = false) {g : Sg} {F : Fam} (hV : zV F) (hc : Hc g F) {k : Lg} (hl : Hl g k) (x y : Int32) (is : Bool) : qCT l b id D m_W_exclude false [.ref (b + 0), .int x, .int y, .int (bI is), .ref (b + 84)] 85 kT g 85 kT (wP (k_two F x y) (some ((bI (!(zx F (zi x) (zi y) == is))).toInt64)) g (f_exclude F x y is) k) (fun _ _ => False) := by
  refine qCT_ofH rfl (by decide) (Nat.le_of_ble_eq_true rfl) ?_
  show Vq l b id D m_W_exclude false 85 kT _ 85 kT _ 85 kT 0 0 0 [(0, .ref (b + 0)), (1, .int x), (2, .int y), (3, .int (bI is)), (4, .ref (b + 84))] [] g
  refine vq_aload d_W_exclude_0 rfl ?_
  refine vq_iconst (v := 0) d_W_exclude_2 (by decide) ?_
  refine vq_aload_n d_W_exclude_3 rfl ?_
  refine vq_iload_n d_W_exclude_4 rfl ?_
  refine vq_iload_n d_W_exclude_5 rfl ?_
  refine vq_iload_n d_W_exclude_6 rfl ?_
  refine vq_callVC (n := 3) (C := R_S) (T := T_S) _ _ d_W_exclude_7 (ct_S_exclude l b id D htr hV hc hl x y is) w_518 w_519 w_520 w_521 w_1 rfl ⟨by decide, by decide, by decide +kernel⟩ ⟨by decide, by decide⟩ (by decide) rfl rfl rfl rfl (Nat.le_of_ble_eq_true rfl) rfl ⟨by decide, by decide⟩ ?_ (fun v1 g1 h1 => ?_)
  · intro E1 g1 h1
    obtain ⟨h2, e2⟩ := h1
    rw [e2]
    rcases h2 with ⟨hC, rfl⟩ | ⟨hC, rfl⟩
    · refine ⟨22, ⟨⟨0, 19, 22, 13⟩, [], by decide, by decide, by decide, rfl, w_369, Or.inl rfl⟩, fun x1 => ?_⟩
      refine vq_astore (lv' := [(5, _), (0, _), (1, _), (2, _), (3, _), (4, _)]) d_W_exclude_22 (by decide) rfl ?_
      refine vq_iconst (v := 1) d_W_exclude_24 (by decide) ?_
      refine vq_iret d_W_exclude_25 rfl (by decide) (by decide) rfl rfl ?_
      exact wP_x hC (by decide) (by rw [show f_exclude F x y is = F from (if_neg (show ¬ k_two F x y = 0 by omega))]; exact hc) hl
    · exact absurd hC (by unfold k_two; split <;> decide)
  · obtain ⟨hC, hv, hc1, hl1, hu1⟩ := h1
    rw [hv]
    refine vq_if_eq (tgt := 17) d_W_exclude_10 (by decide) (fun h10 => ?_) (fun h10 => ?_)
    · refine vq_lconst (v := 0) d_W_exclude_17 rfl ?_
      refine vq_last d_W_exclude_18 rfl (by decide) rfl (show (0 : Int32) = nI 0 by decide) (by decide) ?_
      refine vq_goto (tgt := 26) d_W_exclude_19 (by decide) ?_
      refine vq_iconst (v := 0) d_W_exclude_26 (by decide) ?_
      refine vq_iret d_W_exclude_27 rfl (by decide) (by decide) rfl rfl ?_
      exact wP_a hC hc1 hl1 hu1 (by first | exact bI_l0 (by assumption) | exact bI_l1 (by assumption))
    · refine vq_lconst (v := 1) d_W_exclude_13 rfl ?_
      refine vq_goto (tgt := 18) d_W_exclude_14 (by decide) ?_
      refine vq_last d_W_exclude_18 rfl (by decide) rfl (show (0 : Int32) = nI 0 by decide) (by decide) ?_
      refine vq_goto (tgt := 26) d_W_exclude_19 (by decide) ?_
      refine vq_iconst (v := 0) d_W_exclude_26 (by decide) ?_
      refine vq_iret d_W_exclude_27 rfl (by decide) (by decide) rfl rfl ?_
      exact wP_a hC hc1 hl1 hu1 (by first | exact bI_l0 (by assumption) | exact bI_l1 (by assumption))
def m_W_gift : Mt := (y_W_gift, c_W_gift, 6, { frames := 10, cells := 3, slots := 18, locals := 220 }, (some .int), some [(0, 12, 15, 13), (0, 12, 19, 15)])
set_option maxRecDepth 100000 in
set_option maxHeartbeats 4000000 in
theorem ct_W_gift (l : Launch) (b : Nat) (id : Nat → ClassId) (D : va_G) (htr : l.stackTraces = false) {g : Sg} {F : Fam} (hV : zV F) (hc : Hc g F) {k : Lg} (hl : Hl g k) (x y w : Int32) : qCT l b id D m_W_gift false [.ref (b + 0), .int x, .int y, .int w, .ref (b + 84)] 85 kT g 85 kT (wP (k_gift F x y w) (some ((nI (zg F (zi x) (zi y) + zi w)).toInt64)) g (f_gift F x y w) k) (fun _ _ => False) := by
  refine qCT_ofH rfl (by decide) (Nat.le_of_ble_eq_true rfl) ?_
  show Vq l b id D m_W_gift false 85 kT _ 85 kT _ 85 kT 0 0 0 [(0, .ref (b + 0)), (1, .int x), (2, .int y), (3, .int w), (4, .ref (b + 84))] [] g
  refine vq_aload d_W_gift_0 rfl ?_
  refine vq_iconst (v := 0) d_W_gift_2 (by decide) ?_
  refine vq_aload_n d_W_gift_3 rfl ?_
  refine vq_iload_n d_W_gift_4 rfl ?_
  refine vq_iload_n d_W_gift_5 rfl ?_
  refine vq_iload_n d_W_gift_6 rfl ?_
  refine vq_callVC (n := 3) (C := R_S) (T := T_S) _ _ d_W_gift_7 (ct_S_gift l b id D htr hV hc hl x y w) w_530 w_531 w_532 w_533 w_1 rfl ⟨by decide, by decide, by decide +kernel⟩ ⟨by decide, by decide⟩ (by decide) rfl rfl rfl rfl (Nat.le_of_ble_eq_true rfl) rfl ⟨by decide, by decide⟩ ?_ (fun v1 g1 h1 => ?_)
  · intro E1 g1 h1
    obtain ⟨h2, e2⟩ := h1
    rw [e2]
    rcases h2 with ⟨hC, rfl⟩ | ⟨hC, rfl⟩
    · refine ⟨15, ⟨⟨0, 12, 15, 13⟩, [⟨0, 12, 19, 15⟩], by decide, by decide, by decide, rfl, w_369, Or.inl rfl⟩, fun x1 => ?_⟩
      refine vq_astore (lv' := [(5, _), (0, _), (1, _), (2, _), (3, _), (4, _)]) d_W_gift_15 (by decide) rfl ?_
      refine vq_iconst (v := 1) d_W_gift_17 (by decide) ?_
      refine vq_iret d_W_gift_18 rfl (by decide) (by decide) rfl rfl ?_
      exact wP_x hC (by decide) (by rw [show f_gift F x y w = F from (if_neg (show ¬ k_gift F x y w = 0 by omega))]; exact hc) hl
    · refine ⟨19, ⟨⟨0, 12, 19, 15⟩, [], by decide, by decide, by decide, rfl, w_370, Or.inr ⟨⟨0, 12, 15, 13⟩, "java/lang/IllegalArgumentException", rfl, by decide, by decide, w_369, by decide⟩⟩, fun x1 => ?_⟩
      refine vq_astore (lv' := [(5, _), (0, _), (1, _), (2, _), (3, _), (4, _)]) d_W_gift_19 (by decide) rfl ?_
      refine vq_iconst (v := 2) d_W_gift_21 (by decide) ?_
      refine vq_iret d_W_gift_22 rfl (by decide) (by decide) rfl rfl ?_
      exact wP_x hC (by decide) (by rw [show f_gift F x y w = F from (if_neg (show ¬ k_gift F x y w = 0 by omega))]; exact hc) hl
  · obtain ⟨hC, hv, hc1, hl1, hu1⟩ := h1
    rw [hv]
    refine vq_i2l d_W_gift_10 rfl ?_
    refine vq_last d_W_gift_11 rfl (by decide) rfl (show (0 : Int32) = nI 0 by decide) (by decide) ?_
    refine vq_goto (tgt := 23) d_W_gift_12 (by decide) ?_
    refine vq_iconst (v := 0) d_W_gift_23 (by decide) ?_
    refine vq_iret d_W_gift_24 rfl (by decide) (by decide) rfl rfl ?_
    exact wP_a hC hc1 hl1 hu1 rfl
def m_W_estate : Mt := (y_W_estate, c_W_estate, 4, { frames := 10, cells := 2, slots := 12, locals := 220 }, (some .int), some [(0, 6, 9, 13)])
set_option maxRecDepth 100000 in
set_option maxHeartbeats 4000000 in
theorem ct_W_estate (l : Launch) (b : Nat) (id : Nat → ClassId) (D : va_G) (htr : l.stackTraces = false) {g : Sg} {F : Fam} (hV : zV F) (hc : Hc g F) {k : Lg} (hl : Hl g k) (x y : Int32) : qCT l b id D m_W_estate false [.ref (b + 0), .int x, .int y] 85 kT g 85 kT (wP (k_estate F x y) none g (f_estate F x y) k) (fun _ _ => False) := by
  refine qCT_ofH rfl (by decide) (Nat.le_of_ble_eq_true rfl) ?_
  show Vq l b id D m_W_estate false 85 kT _ 85 kT _ 85 kT 0 0 0 [(0, .ref (b + 0)), (1, .int x), (2, .int y)] [] g
  refine vq_aload_n d_W_estate_0 rfl ?_
  refine vq_iload_n d_W_estate_1 rfl ?_
  refine vq_iload_n d_W_estate_2 rfl ?_
  refine vq_callVC (n := 2) (C := R_S) (T := T_S) _ _ d_W_estate_3 (ct_S_estate l b id D htr hV hc hl x y) w_542 w_543 w_544 w_545 w_1 rfl ⟨by decide, by decide, by decide +kernel⟩ ⟨by decide, by decide⟩ (by decide) rfl rfl rfl rfl (Nat.le_of_ble_eq_true rfl) rfl ⟨by decide, by decide⟩ ?_ (fun v1 g1 h1 => ?_)
  · intro E1 g1 h1
    obtain ⟨h2, e2⟩ := h1
    rw [e2]
    rcases h2 with ⟨hC, rfl⟩ | ⟨hC, rfl⟩
    · refine ⟨9, ⟨⟨0, 6, 9, 13⟩, [], by decide, by decide, by decide, rfl, w_369, Or.inl rfl⟩, fun x1 => ?_⟩
      refine vq_astore_n (lv' := [(3, _), (0, _), (1, _), (2, _)]) d_W_estate_9 (by decide) rfl ?_
      refine vq_iconst (v := 1) d_W_estate_10 (by decide) ?_
      refine vq_iret d_W_estate_11 rfl (by decide) (by decide) rfl rfl ?_
      exact wP_x hC (by decide) (by rw [show f_estate F x y = F from (if_neg (show ¬ k_estate F x y = 0 by omega))]; exact hc) hl
    · exact absurd hC (by unfold k_estate; split <;> decide)
  · obtain ⟨hC, hv, hc1, hl1, hu1⟩ := h1
    rw [hv]
    refine vq_goto (tgt := 12) d_W_estate_6 (by decide) ?_
    refine vq_iconst (v := 0) d_W_estate_12 (by decide) ?_
    refine vq_iret d_W_estate_13 rfl (by decide) (by decide) rfl rfl ?_
    exact wP_v hC hc1 hl1 hu1
