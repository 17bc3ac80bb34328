/-! more helpers of the law. Laid by wip/whole/specs/p59.py -/
def m_W_heirs : Mt := (y_W_heirs, c_W_heirs, 4, { frames := 13, cells := 2, slots := 12, locals := 355 }, (some .int), some [(0, 9, 12, 13), (0, 9, 15, 15)])
set_option maxRecDepth 100000 in
set_option maxHeartbeats 4000000 in
theorem ct_W_heirs (l : Launch) (b : Nat) (id : Nat → ClassId) (D : va_G) (htr : l.stackTraces = false) {g : Sg} {F : Fam} (hV : zV F) (hc : Hc g F) {k : Lg} (hl : Hl g k) (x : Int32) : qCT l b id D m_W_heirs false [.ref (b + 0), .int x, .ref (b + 84)] 85 kT g 85 kT (wP (k_dead F x) (some ((nI (zcn (zsh F (zi x) 1) (zn F))).toInt64)) g (F) k) (fun _ _ => False) := by
  refine qCT_ofH rfl (by decide) (Nat.le_of_ble_eq_true rfl) ?_
  show Vq l b id D m_W_heirs false 85 kT _ 85 kT _ 85 kT 0 0 0 [(0, .ref (b + 0)), (1, .int x), (2, .ref (b + 84))] [] g
  refine vq_aload_n d_W_heirs_0 rfl ?_
  refine vq_iconst (v := 0) d_W_heirs_1 (by decide) ?_
  refine vq_aload_n d_W_heirs_2 rfl ?_
  refine vq_iload_n d_W_heirs_3 rfl ?_
  refine vq_callVC (n := 1) (C := R_S) (T := T_S) _ _ d_W_heirs_4 (ct_S_heirs l b id D htr hV hc hl x) w_550 w_551 w_552 w_553 w_1 rfl ⟨by decide, by decide, by decide +kernel⟩ ⟨by decide, by decide⟩ (by decide) rfl rfl rfl rfl (Nat.le_of_ble_eq_true rfl) rfl ⟨by decide, by decide⟩ ?_ (fun v1 g1 h1 => ?_)
  · intro E1 g1 h1
    obtain ⟨h2, e2⟩ := h1
    rw [e2]
    rcases h2 with ⟨hC, rfl⟩ | ⟨hC, rfl⟩
    · refine ⟨12, ⟨⟨0, 9, 12, 13⟩, [⟨0, 9, 15, 15⟩], by decide, by decide, by decide, rfl, w_369, Or.inl rfl⟩, fun x1 => ?_⟩
      refine vq_astore_n (lv' := [(3, _), (0, _), (1, _), (2, _)]) d_W_heirs_12 (by decide) rfl ?_
      refine vq_iconst (v := 1) d_W_heirs_13 (by decide) ?_
      refine vq_iret d_W_heirs_14 rfl (by decide) (by decide) rfl rfl ?_
      exact wP_x hC (by decide) (by rw [show F = F from rfl]; exact hc) hl
    · refine ⟨15, ⟨⟨0, 9, 15, 15⟩, [], by decide, by decide, by decide, rfl, w_370, Or.inr ⟨⟨0, 9, 12, 13⟩, "java/lang/IllegalArgumentException", rfl, by decide, by decide, w_369, by decide⟩⟩, fun x1 => ?_⟩
      refine vq_astore_n (lv' := [(3, _), (0, _), (1, _), (2, _)]) d_W_heirs_15 (by decide) rfl ?_
      refine vq_iconst (v := 2) d_W_heirs_16 (by decide) ?_
      refine vq_iret d_W_heirs_17 rfl (by decide) (by decide) rfl rfl ?_
      exact wP_x hC (by decide) (by rw [show F = F from rfl]; exact hc) hl
  · obtain ⟨hC, hv, hc1, hl1, hu1⟩ := h1
    rw [hv]
    refine vq_i2l d_W_heirs_7 rfl ?_
    refine vq_last d_W_heirs_8 rfl (by decide) rfl (show (0 : Int32) = nI 0 by decide) (by decide) ?_
    refine vq_goto (tgt := 18) d_W_heirs_9 (by decide) ?_
    refine vq_iconst (v := 0) d_W_heirs_18 (by decide) ?_
    refine vq_iret d_W_heirs_19 rfl (by decide) (by decide) rfl rfl ?_
    exact wP_a hC hc1 hl1 hu1 rfl
def m_W_heir : Mt := (y_W_heir, c_W_heir, 5, { frames := 13, cells := 2, slots := 12, locals := 355 }, (some .int), some [(0, 10, 13, 13), (0, 10, 17, 15)])
set_option maxRecDepth 100000 in
set_option maxHeartbeats 4000000 in
theorem ct_W_heir (l : Launch) (b : Nat) (id : Nat → ClassId) (D : va_G) (htr : l.stackTraces = false) {g : Sg} {F : Fam} (hV : zV F) (hc : Hc g F) {k : Lg} (hl : Hl g k) (x y : Int32) : qCT l b id D m_W_heir false [.ref (b + 0), .int x, .int y, .ref (b + 84)] 85 kT g 85 kT (wP (k_dead F x) (some ((eO (ztk (zsh F (zi x) 1) (zn F) y)).toInt64)) g (F) k) (fun _ _ => False) := by
  refine qCT_ofH rfl (by decide) (Nat.le_of_ble_eq_true rfl) ?_
  show Vq l b id D m_W_heir false 85 kT _ 85 kT _ 85 kT 0 0 0 [(0, .ref (b + 0)), (1, .int x), (2, .int y), (3, .ref (b + 84))] [] g
  refine vq_aload_n d_W_heir_0 rfl ?_
  refine vq_iconst (v := 0) d_W_heir_1 (by decide) ?_
  refine vq_aload_n d_W_heir_2 rfl ?_
  refine vq_iload_n d_W_heir_3 rfl ?_
  refine vq_iload_n d_W_heir_4 rfl ?_
  refine vq_callVC (n := 2) (C := R_S) (T := T_S) _ _ d_W_heir_5 (ct_S_heir l b id D htr hV hc hl x y) w_568 w_569 w_570 w_571 w_1 rfl ⟨by decide, by decide, by decide +kernel⟩ ⟨by decide, by decide⟩ (by decide) rfl rfl rfl rfl (Nat.le_of_ble_eq_true rfl) rfl ⟨by decide, by decide⟩ ?_ (fun v1 g1 h1 => ?_)
  · intro E1 g1 h1
    obtain ⟨h2, e2⟩ := h1
    rw [e2]
    rcases h2 with ⟨hC, rfl⟩ | ⟨hC, rfl⟩
    · refine ⟨13, ⟨⟨0, 10, 13, 13⟩, [⟨0, 10, 17, 15⟩], by decide, by decide, by decide, rfl, w_369, Or.inl rfl⟩, fun x1 => ?_⟩
      refine vq_astore (lv' := [(4, _), (0, _), (1, _), (2, _), (3, _)]) d_W_heir_13 (by decide) rfl ?_
      refine vq_iconst (v := 1) d_W_heir_15 (by decide) ?_
      refine vq_iret d_W_heir_16 rfl (by decide) (by decide) rfl rfl ?_
      exact wP_x hC (by decide) (by rw [show F = F from rfl]; exact hc) hl
    · refine ⟨17, ⟨⟨0, 10, 17, 15⟩, [], by decide, by decide, by decide, rfl, w_370, Or.inr ⟨⟨0, 10, 13, 13⟩, "java/lang/IllegalArgumentException", rfl, by decide, by decide, w_369, by decide⟩⟩, fun x1 => ?_⟩
      refine vq_astore (lv' := [(4, _), (0, _), (1, _), (2, _), (3, _)]) d_W_heir_17 (by decide) rfl ?_
      refine vq_iconst (v := 2) d_W_heir_19 (by decide) ?_
      refine vq_iret d_W_heir_20 rfl (by decide) (by decide) rfl rfl ?_
      exact wP_x hC (by decide) (by rw [show F = F from rfl]; exact hc) hl
  · obtain ⟨hC, hv, hc1, hl1, hu1⟩ := h1
    rw [hv]
    refine vq_i2l d_W_heir_8 rfl ?_
    refine vq_last d_W_heir_9 rfl (by decide) rfl (show (0 : Int32) = nI 0 by decide) (by decide) ?_
    refine vq_goto (tgt := 21) d_W_heir_10 (by decide) ?_
    refine vq_iconst (v := 0) d_W_heir_21 (by decide) ?_
    refine vq_iret d_W_heir_22 rfl (by decide) (by decide) rfl rfl ?_
    exact wP_a hC hc1 hl1 hu1 rfl
def m_W_share : Mt := (y_W_share, c_W_share, 5, { frames := 13, cells := 3, slots := 18, locals := 355 }, (some .int), some [(0, 9, 12, 13), (0, 9, 16, 15)])
set_option maxRecDepth 100000 in
set_option maxHeartbeats 4000000 in
theorem ct_W_share (l : Launch) (b : Nat) (id : Nat → ClassId) (D : va_G) (htr : l.stackTraces = false) {g : Sg} {F : Fam} (hV : zV F) (hc : Hc g F) {k : Lg} (hl : Hl g k) (x y : Int32) : qCT l b id D m_W_share false [.ref (b + 0), .int x, .int y, .ref (b + 84)] 85 kT g 85 kT (wP (k_dead2 F x y) (some (zfr (zsh F (zi x) 1 (zi y)) (4 * (8 * zpr F (zi x))))) g (F) k) (fun _ _ => False) := by
  refine qCT_ofH rfl (by decide) (Nat.le_of_ble_eq_true rfl) ?_
  show Vq l b id D m_W_share false 85 kT _ 85 kT _ 85 kT 0 0 0 [(0, .ref (b + 0)), (1, .int x), (2, .int y), (3, .ref (b + 84))] [] g
  refine vq_aload_n d_W_share_0 rfl ?_
  refine vq_iconst (v := 0) d_W_share_1 (by decide) ?_
  refine vq_aload_n d_W_share_2 rfl ?_
  refine vq_iload_n d_W_share_3 rfl ?_
  refine vq_iload_n d_W_share_4 rfl ?_
  refine vq_callVC (n := 2) (C := R_S) (T := T_S) _ _ d_W_share_5 (ct_S_share l b id D htr hV hc hl x y) w_579 w_580 w_581 w_582 w_1 rfl ⟨by decide, by decide, by decide +kernel⟩ ⟨by decide, by decide⟩ (by decide) rfl rfl rfl rfl (Nat.le_of_ble_eq_true rfl) rfl ⟨by decide, by decide⟩ ?_ (fun v1 g1 h1 => ?_)
  · intro E1 g1 h1
    obtain ⟨h2, e2⟩ := h1
    rw [e2]
    rcases h2 with ⟨hC, rfl⟩ | ⟨hC, rfl⟩
    · refine ⟨12, ⟨⟨0, 9, 12, 13⟩, [⟨0, 9, 16, 15⟩], by decide, by decide, by decide, rfl, w_369, Or.inl rfl⟩, fun x1 => ?_⟩
      refine vq_astore (lv' := [(4, _), (0, _), (1, _), (2, _), (3, _)]) d_W_share_12 (by decide) rfl ?_
      refine vq_iconst (v := 1) d_W_share_14 (by decide) ?_
      refine vq_iret d_W_share_15 rfl (by decide) (by decide) rfl rfl ?_
      exact wP_x hC (by decide) (by rw [show F = F from rfl]; exact hc) hl
    · refine ⟨16, ⟨⟨0, 9, 16, 15⟩, [], by decide, by decide, by decide, rfl, w_370, Or.inr ⟨⟨0, 9, 12, 13⟩, "java/lang/IllegalArgumentException", rfl, by decide, by decide, w_369, by decide⟩⟩, fun x1 => ?_⟩
      refine vq_astore (lv' := [(4, _), (0, _), (1, _), (2, _), (3, _)]) d_W_share_16 (by decide) rfl ?_
      refine vq_iconst (v := 2) d_W_share_18 (by decide) ?_
      refine vq_iret d_W_share_19 rfl (by decide) (by decide) rfl rfl ?_
      exact wP_x hC (by decide) (by rw [show F = F from rfl]; exact hc) hl
  · obtain ⟨hC, hv, hc1, hl1, hu1⟩ := h1
    rw [hv]
    refine vq_last d_W_share_8 rfl (by decide) rfl (show (0 : Int32) = nI 0 by decide) (by decide) ?_
    refine vq_goto (tgt := 20) d_W_share_9 (by decide) ?_
    refine vq_iconst (v := 0) d_W_share_20 (by decide) ?_
    refine vq_iret d_W_share_21 rfl (by decide) (by decide) rfl rfl ?_
    exact wP_a hC hc1 hl1 hu1 rfl
def m_W_order : Mt := (y_W_order, c_W_order, 4, { frames := 13, cells := 2, slots := 12, locals := 355 }, (some .int), some [(0, 9, 12, 13), (0, 9, 15, 15)])
set_option maxRecDepth 100000 in
set_option maxHeartbeats 4000000 in
theorem ct_W_order (l : Launch) (b : Nat) (id : Nat → ClassId) (D : va_G) (htr : l.stackTraces = false) {g : Sg} {F : Fam} (hV : zV F) (hc : Hc g F) {k : Lg} (hl : Hl g k) (x : Int32) : qCT l b id D m_W_order false [.ref (b + 0), .int x, .ref (b + 84)] 85 kT g 85 kT (wP (k_dead F x) (some ((nI (zt F (zi x))).toInt64)) g (F) k) (fun _ _ => False) := by
  refine qCT_ofH rfl (by decide) (Nat.le_of_ble_eq_true rfl) ?_
  show Vq l b id D m_W_order false 85 kT _ 85 kT _ 85 kT 0 0 0 [(0, .ref (b + 0)), (1, .int x), (2, .ref (b + 84))] [] g
  refine vq_aload_n d_W_order_0 rfl ?_
  refine vq_iconst (v := 0) d_W_order_1 (by decide) ?_
  refine vq_aload_n d_W_order_2 rfl ?_
  refine vq_iload_n d_W_order_3 rfl ?_
  refine vq_callVC (n := 1) (C := R_S) (T := T_S) _ _ d_W_order_4 (ct_S_order l b id D htr hV hc hl x) w_593 w_594 w_595 w_596 w_1 rfl ⟨by decide, by decide, by decide +kernel⟩ ⟨by decide, by decide⟩ (by decide) rfl rfl rfl rfl (Nat.le_of_ble_eq_true rfl) rfl ⟨by decide, by decide⟩ ?_ (fun v1 g1 h1 => ?_)
  · intro E1 g1 h1
    obtain ⟨h2, e2⟩ := h1
    rw [e2]
    rcases h2 with ⟨hC, rfl⟩ | ⟨hC, rfl⟩
    · refine ⟨12, ⟨⟨0, 9, 12, 13⟩, [⟨0, 9, 15, 15⟩], by decide, by decide, by decide, rfl, w_369, Or.inl rfl⟩, fun x1 => ?_⟩
      refine vq_astore_n (lv' := [(3, _), (0, _), (1, _), (2, _)]) d_W_order_12 (by decide) rfl ?_
      refine vq_iconst (v := 1) d_W_order_13 (by decide) ?_
      refine vq_iret d_W_order_14 rfl (by decide) (by decide) rfl rfl ?_
      exact wP_x hC (by decide) (by rw [show F = F from rfl]; exact hc) hl
    · refine ⟨15, ⟨⟨0, 9, 15, 15⟩, [], by decide, by decide, by decide, rfl, w_370, Or.inr ⟨⟨0, 9, 12, 13⟩, "java/lang/IllegalArgumentException", rfl, by decide, by decide, w_369, by decide⟩⟩, fun x1 => ?_⟩
      refine vq_astore_n (lv' := [(3, _), (0, _), (1, _), (2, _)]) d_W_order_15 (by decide) rfl ?_
      refine vq_iconst (v := 2) d_W_order_16 (by decide) ?_
      refine vq_iret d_W_order_17 rfl (by decide) (by decide) rfl rfl ?_
      exact wP_x hC (by decide) (by rw [show F = F from rfl]; exact hc) hl
  · obtain ⟨hC, hv, hc1, hl1, hu1⟩ := h1
    rw [hv]
    refine vq_i2l d_W_order_7 rfl ?_
    refine vq_last d_W_order_8 rfl (by decide) rfl (show (0 : Int32) = nI 0 by decide) (by decide) ?_
    refine vq_goto (tgt := 18) d_W_order_9 (by decide) ?_
    refine vq_iconst (v := 0) d_W_order_18 (by decide) ?_
    refine vq_iret d_W_order_19 rfl (by decide) (by decide) rfl rfl ?_
    exact wP_a hC hc1 hl1 hu1 rfl
def m_W_stem : Mt := (y_W_stem, c_W_stem, 5, { frames := 17, cells := 3, slots := 18, locals := 535 }, (some .int), some [(0, 10, 13, 13), (0, 10, 17, 15)])
set_option maxRecDepth 100000 in
set_option maxHeartbeats 4000000 in
theorem ct_W_stem (l : Launch) (b : Nat) (id : Nat → ClassId) (D : va_G) (htr : l.stackTraces = false) {g : Sg} {F : Fam} (hV : zV F) (hc : Hc g F) {k : Lg} (hl : Hl g k) (x y : Int32) : qCT l b id D m_W_stem false [.ref (b + 0), .int x, .int y, .ref (b + 84)] 85 kT g 85 kT (wP (k_dead2 F x y) (some ((eO (zst F (zi x) (zi y))).toInt64)) g (F) k) (fun _ _ => False) := by
  refine qCT_ofH rfl (by decide) (Nat.le_of_ble_eq_true rfl) ?_
  show Vq l b id D m_W_stem false 85 kT _ 85 kT _ 85 kT 0 0 0 [(0, .ref (b + 0)), (1, .int x), (2, .int y), (3, .ref (b + 84))] [] g
  refine vq_aload_n d_W_stem_0 rfl ?_
  refine vq_iconst (v := 0) d_W_stem_1 (by decide) ?_
  refine vq_aload_n d_W_stem_2 rfl ?_
  refine vq_iload_n d_W_stem_3 rfl ?_
  refine vq_iload_n d_W_stem_4 rfl ?_
  refine vq_callVC (n := 2) (C := R_S) (T := T_S) _ _ d_W_stem_5 (ct_S_stem l b id D htr hV hc hl x y) w_600 w_601 w_602 w_603 w_1 rfl ⟨by decide, by decide, by decide +kernel⟩ ⟨by decide, by decide⟩ (by decide) rfl rfl rfl rfl (Nat.le_of_ble_eq_true rfl) rfl ⟨by decide, by decide⟩ ?_ (fun v1 g1 h1 => ?_)
  · intro E1 g1 h1
    obtain ⟨h2, e2⟩ := h1
    rw [e2]
    rcases h2 with ⟨hC, rfl⟩ | ⟨hC, rfl⟩
    · refine ⟨13, ⟨⟨0, 10, 13, 13⟩, [⟨0, 10, 17, 15⟩], by decide, by decide, by decide, rfl, w_369, Or.inl rfl⟩, fun x1 => ?_⟩
      refine vq_astore (lv' := [(4, _), (0, _), (1, _), (2, _), (3, _)]) d_W_stem_13 (by decide) rfl ?_
      refine vq_iconst (v := 1) d_W_stem_15 (by decide) ?_
      refine vq_iret d_W_stem_16 rfl (by decide) (by decide) rfl rfl ?_
      exact wP_x hC (by decide) (by rw [show F = F from rfl]; exact hc) hl
    · refine ⟨17, ⟨⟨0, 10, 17, 15⟩, [], by decide, by decide, by decide, rfl, w_370, Or.inr ⟨⟨0, 10, 13, 13⟩, "java/lang/IllegalArgumentException", rfl, by decide, by decide, w_369, by decide⟩⟩, fun x1 => ?_⟩
      refine vq_astore (lv' := [(4, _), (0, _), (1, _), (2, _), (3, _)]) d_W_stem_17 (by decide) rfl ?_
      refine vq_iconst (v := 2) d_W_stem_19 (by decide) ?_
      refine vq_iret d_W_stem_20 rfl (by decide) (by decide) rfl rfl ?_
      exact wP_x hC (by decide) (by rw [show F = F from rfl]; exact hc) hl
  · obtain ⟨hC, hv, hc1, hl1, hu1⟩ := h1
    rw [hv]
    refine vq_i2l d_W_stem_8 rfl ?_
    refine vq_last d_W_stem_9 rfl (by decide) rfl (show (0 : Int32) = nI 0 by decide) (by decide) ?_
    refine vq_goto (tgt := 21) d_W_stem_10 (by decide) ?_
    refine vq_iconst (v := 0) d_W_stem_21 (by decide) ?_
    refine vq_iret d_W_stem_22 rfl (by decide) (by decide) rfl rfl ?_
    exact wP_a hC hc1 hl1 hu1 rfl
def m_W_paid : Mt := (y_W_paid, c_W_paid, 5, { frames := 11, cells := 2, slots := 12, locals := 265 }, (some .int), some [(0, 9, 12, 13)])
set_option maxRecDepth 100000 in
set_option maxHeartbeats 4000000 in
theorem ct_W_paid (l : Launch) (b : Nat) (id : Nat → ClassId) (D : va_G) (htr : l.stackTraces = false) {g : Sg} {F : Fam} (hV : zV F) (hc : Hc g F) {k : Lg} (hl : Hl g k) (x y : Int32) : qCT l b id D m_W_paid false [.ref (b + 0), .int x, .int y, .ref (b + 84)] 85 kT g 85 kT (wP (k_paid F x y) (some (lN (k.1 (zi x) (zpp y)))) g (F) k) (fun _ _ => False) := by
  refine qCT_ofH rfl (by decide) (Nat.le_of_ble_eq_true rfl) ?_
  show Vq l b id D m_W_paid false 85 kT _ 85 kT _ 85 kT 0 0 0 [(0, .ref (b + 0)), (1, .int x), (2, .int y), (3, .ref (b + 84))] [] g
  refine vq_aload_n d_W_paid_0 rfl ?_
  refine vq_iconst (v := 0) d_W_paid_1 (by decide) ?_
  refine vq_aload_n d_W_paid_2 rfl ?_
  refine vq_iload_n d_W_paid_3 rfl ?_
  refine vq_iload_n d_W_paid_4 rfl ?_
  refine vq_callVC (n := 2) (C := R_S) (T := T_S) _ _ d_W_paid_5 (ct_S_paid l b id D htr hV hc hl x y) w_627 w_628 w_629 w_630 w_1 rfl ⟨by decide, by decide, by decide +kernel⟩ ⟨by decide, by decide⟩ (by decide) rfl rfl rfl rfl (Nat.le_of_ble_eq_true rfl) rfl ⟨by decide, by decide⟩ ?_ (fun v1 g1 h1 => ?_)
  · intro E1 g1 h1
    obtain ⟨h2, e2⟩ := h1
    rw [e2]
    rcases h2 with ⟨hC, rfl⟩ | ⟨hC, rfl⟩
    · refine ⟨12, ⟨⟨0, 9, 12, 13⟩, [], by decide, by decide, by decide, rfl, w_369, Or.inl rfl⟩, fun x1 => ?_⟩
      refine vq_astore (lv' := [(4, _), (0, _), (1, _), (2, _), (3, _)]) d_W_paid_12 (by decide) rfl ?_
      refine vq_iconst (v := 1) d_W_paid_14 (by decide) ?_
      refine vq_iret d_W_paid_15 rfl (by decide) (by decide) rfl rfl ?_
      exact wP_x hC (by decide) (by rw [show F = F from rfl]; exact hc) hl
    · exact absurd hC (by unfold k_paid; split <;> decide)
  · obtain ⟨hC, hv, hc1, hl1, hu1⟩ := h1
    rw [hv]
    refine vq_last d_W_paid_8 rfl (by decide) rfl (show (0 : Int32) = nI 0 by decide) (by decide) ?_
    refine vq_goto (tgt := 16) d_W_paid_9 (by decide) ?_
    refine vq_iconst (v := 0) d_W_paid_16 (by decide) ?_
    refine vq_iret d_W_paid_17 rfl (by decide) (by decide) rfl rfl ?_
    exact wP_a hC hc1 hl1 hu1 rfl
def m_W_total : Mt := (y_W_total, c_W_total, 4, { frames := 10, cells := 1, slots := 6, locals := 220 }, (some .int), some [(0, 8, 11, 13)])
set_option maxRecDepth 100000 in
set_option maxHeartbeats 4000000 in
theorem ct_W_total (l : Launch) (b : Nat) (id : Nat → ClassId) (D : va_G) (htr : l.stackTraces = false) {g : Sg} {F : Fam} (hV : zV F) (hc : Hc g F) {k : Lg} (hl : Hl g k) (x : Int32) : qCT l b id D m_W_total false [.ref (b + 0), .int x, .ref (b + 84)] 85 kT g 85 kT (wP (k_one F x) (some (lN (k.2.2 (zi x)))) g (F) k) (fun _ _ => False) := by
  refine qCT_ofH rfl (by decide) (Nat.le_of_ble_eq_true rfl) ?_
  show Vq l b id D m_W_total false 85 kT _ 85 kT _ 85 kT 0 0 0 [(0, .ref (b + 0)), (1, .int x), (2, .ref (b + 84))] [] g
  refine vq_aload_n d_W_total_0 rfl ?_
  refine vq_iconst (v := 0) d_W_total_1 (by decide) ?_
  refine vq_aload_n d_W_total_2 rfl ?_
  refine vq_iload_n d_W_total_3 rfl ?_
  refine vq_callVC (n := 1) (C := R_S) (T := T_S) _ _ d_W_total_4 (ct_S_total l b id D htr hV hc hl x) w_638 w_639 w_640 w_641 w_1 rfl ⟨by decide, by decide, by decide +kernel⟩ ⟨by decide, by decide⟩ (by decide) rfl rfl rfl rfl (Nat.le_of_ble_eq_true rfl) rfl ⟨by decide, by decide⟩ ?_ (fun v1 g1 h1 => ?_)
  · intro E1 g1 h1
    obtain ⟨h2, e2⟩ := h1
    rw [e2]
    rcases h2 with ⟨hC, rfl⟩ | ⟨hC, rfl⟩
    · refine ⟨11, ⟨⟨0, 8, 11, 13⟩, [], by decide, by decide, by decide, rfl, w_369, Or.inl rfl⟩, fun x1 => ?_⟩
      refine vq_astore_n (lv' := [(3, _), (0, _), (1, _), (2, _)]) d_W_total_11 (by decide) rfl ?_
      refine vq_iconst (v := 1) d_W_total_12 (by decide) ?_
      refine vq_iret d_W_total_13 rfl (by decide) (by decide) rfl rfl ?_
      exact wP_x hC (by decide) (by rw [show F = F from rfl]; exact hc) hl
    · exact absurd hC (by unfold k_one; split <;> decide)
  · obtain ⟨hC, hv, hc1, hl1, hu1⟩ := h1
    rw [hv]
    refine vq_last d_W_total_7 rfl (by decide) rfl (show (0 : Int32) = nI 0 by decide) (by decide) ?_
    refine vq_goto (tgt := 14) d_W_total_8 (by decide) ?_
    refine vq_iconst (v := 0) d_W_total_14 (by decide) ?_
    refine vq_iret d_W_total_15 rfl (by decide) (by decide) rfl rfl ?_
    exact wP_a hC hc1 hl1 hu1 rfl
def m_W_got : Mt := (y_W_got, c_W_got, 4, { frames := 11, cells := 1, slots := 6, locals := 265 }, (some .int), some [(0, 8, 11, 13)])
set_option maxRecDepth 100000 in
set_option maxHeartbeats 4000000 in
theorem ct_W_got (l : Launch) (b : Nat) (id : Nat → ClassId) (D : va_G) (htr : l.stackTraces = false) {g : Sg} {F : Fam} (hV : zV F) (hc : Hc g F) {k : Lg} (hl : Hl g k) (x : Int32) : qCT l b id D m_W_got false [.ref (b + 0), .int x, .ref (b + 84)] 85 kT g 85 kT (wP (k_got F x) (some (lN (k.2.1 (zpp x)))) g (F) k) (fun _ _ => False) := by
  refine qCT_ofH rfl (by decide) (Nat.le_of_ble_eq_true rfl) ?_
  show Vq l b id D m_W_got false 85 kT _ 85 kT _ 85 kT 0 0 0 [(0, .ref (b + 0)), (1, .int x), (2, .ref (b + 84))] [] g
  refine vq_aload_n d_W_got_0 rfl ?_
  refine vq_iconst (v := 0) d_W_got_1 (by decide) ?_
  refine vq_aload_n d_W_got_2 rfl ?_
  refine vq_iload_n d_W_got_3 rfl ?_
  refine vq_callVC (n := 1) (C := R_S) (T := T_S) _ _ d_W_got_4 (ct_S_got l b id D htr hV hc hl x) w_645 w_646 w_647 w_648 w_1 rfl ⟨by decide, by decide, by decide +kernel⟩ ⟨by decide, by decide⟩ (by decide) rfl rfl rfl rfl (Nat.le_of_ble_eq_true rfl) rfl ⟨by decide, by decide⟩ ?_ (fun v1 g1 h1 => ?_)
  · intro E1 g1 h1
    obtain ⟨h2, e2⟩ := h1
    rw [e2]
    rcases h2 with ⟨hC, rfl⟩ | ⟨hC, rfl⟩
    · refine ⟨11, ⟨⟨0, 8, 11, 13⟩, [], by decide, by decide, by decide, rfl, w_369, Or.inl rfl⟩, fun x1 => ?_⟩
      refine vq_astore_n (lv' := [(3, _), (0, _), (1, _), (2, _)]) d_W_got_11 (by decide) rfl ?_
      refine vq_iconst (v := 1) d_W_got_12 (by decide) ?_
      refine vq_iret d_W_got_13 rfl (by decide) (by decide) rfl rfl ?_
      exact wP_x hC (by decide) (by rw [show F = F from rfl]; exact hc) hl
    · exact absurd hC (by unfold k_got; split <;> decide)
  · obtain ⟨hC, hv, hc1, hl1, hu1⟩ := h1
    rw [hv]
    refine vq_last d_W_got_7 rfl (by decide) rfl (show (0 : Int32) = nI 0 by decide) (by decide) ?_
    refine vq_goto (tgt := 14) d_W_got_8 (by decide) ?_
    refine vq_iconst (v := 0) d_W_got_14 (by decide) ?_
    refine vq_iret d_W_got_15 rfl (by decide) (by decide) rfl rfl ?_
    exact wP_a hC hc1 hl1 hu1 rfl
