/-! SuccessionClerk$Ledger: settling. Laid by wip/whole/specs/p35.py -/
/-- the class holds the ledger k -/
def Hl (g : Sg) (k : Lg) : Prop := (∀ e j, e < 20 → j < 21 → g.2 (43 + e) j = lN (k.1 e j)) ∧ (∀ j, j < 21 → g.2 64 j = lN (k.2.1 j)) ∧ (∀ p, p < 20 → g.2 63 p = lN (k.2.2 p))
theorem zer_eO {F : Fam} {st : Nat → Bool} {k : Nat} (h : k ≤ 20) : ∀ p, zer F st k = some p → p < 2 ^ 31 := fun p hp => by have := (zer_lt hp).1; omega
def m_L_settleOne : Mt := (y_L_settleOne, c_L_settleOne, 4, { frames := 12, cells := 0, slots := 0, locals := 310 }, none, none)
def m_L_forget : Mt := (y_L_forget, c_L_forget, 2, { frames := 9, cells := 0, slots := 0, locals := 175 }, none, none)
def m_L_earliestUnsettled : Mt := (y_L_earliestUnsettled, c_L_earliestUnsettled, 3, { frames := 9, cells := 0, slots := 0, locals := 175 }, (some .int), none)
def m_L_settleAll : Mt := (y_L_settleAll, c_L_settleAll, 4, { frames := 13, cells := 0, slots := 0, locals := 355 }, (some .int), none)
set_option maxRecDepth 100000 in
set_option maxHeartbeats 4000000 in
theorem ct_L_settleOne (l : Launch) (b : Nat) (id : Nat → ClassId) (D : va_G) {g : Sg} {F : Fam} (hW : zW F) (hc : Hc g F) {e u : Nat} (he : e < zn F) (hu : zd F e = some u) {k : Lg} (hl : Hl g k) (hA0 : zo F e + k.2.1 e < 2 ^ 26) : qCT l b id D m_L_settleOne false [.ref (b + 41), .int (nI e)] 85 kT g 85 kT (fun v' g' => v' = none ∧ Hl g' (zone1 F e k) ∧ (∀ q, q < 29 ∨ 40 < q → g'.1 q = g.1 q) ∧ (∀ q, q < 34 ∨ 66 < q → g'.2 q = g.2 q)) (fun _ _ => False) := by
  have hn := hW.1
  have he20 : e < 20 := by omega
  have ht5 := zt_le F e
  obtain ⟨A, hAe⟩ : ∃ A, A = zo F e + k.2.1 e := ⟨_, rfl⟩
  have hA : A < 2 ^ 26 := by omega
  have hsb : A * (8 * zpr F e) * 4 < 2 ^ 63 := by
    have h1 := zpr_lt (F := F) (e := e) hW.1
    have h2 := Nat.mul_le_mul (show A ≤ 2 ^ 26 by omega) (show 8 * zpr F e ≤ 2 ^ 25 by omega)
    have h3 : (2 : Nat) ^ 26 * 2 ^ 25 * 4 < 2 ^ 63 := by decide
    omega
  have hc1 : Hc (sJ g 63 (vp_updL (g.2 63) e (lN A))) F := hc.congr (fun q x y => rfl)
  refine qCT_of rfl (by decide) (Nat.le_of_ble_eq_true rfl) ?_
  show Vq l b id D m_L_settleOne false 85 kT _ 85 kT _ 85 kT 0 0 0 [(0, .ref (b + 41)), (1, .int (nI e))] [] g
  refine vq_aload_n d_L_settleOne_0 rfl ?_
  refine vq_getR (k := 0) (C := R_L) (T := T_L) d_L_settleOne_1 rfl in_L w_182 (by decide) rfl (by decide) rfl rfl ?_
  refine vq_getR (k := 5) (C := R_F) (T := T_F) d_L_settleOne_4 rfl in_F w_52 (by decide) rfl (by decide) rfl rfl ?_
  refine vq_iload_n d_L_settleOne_7 rfl ?_
  refine vq_iald d_L_settleOne_8 (by decide) rfl rfl (show _ < 20 by omega) ?_
  refine vq_int (y := nI (zo F e)) (hc.2.2.2.2.2.1 e he20) ?_
  refine vq_i2l d_L_settleOne_9 (nI_l (by have := hW.2.2.2.2.2.2.1 e; omega)) ?_
  refine vq_aload_n d_L_settleOne_10 rfl ?_
  refine vq_getR (k := 5) (C := R_L) (T := T_L) d_L_settleOne_11 rfl in_L w_189 (by decide) rfl (by decide) rfl rfl ?_
  refine vq_iload_n d_L_settleOne_14 rfl ?_
  refine vq_lald d_L_settleOne_15 (by decide) rfl rfl (show _ < 21 by omega) ?_
  refine vq_long (y := lN (k.2.1 e)) (hl.2.1 e (by omega)) ?_
  refine vq_ladd d_L_settleOne_16 ?_
  rw [lN_add, ← hAe]
  refine vq_lstore_n (lv' := [(2, _), (0, _), (1, _)]) d_L_settleOne_17 (by decide) rfl ?_
  refine vq_aload_n d_L_settleOne_18 rfl ?_
  refine vq_getR (k := 4) (C := R_L) (T := T_L) d_L_settleOne_19 rfl in_L w_187 (by decide) rfl (by decide) rfl rfl ?_
  refine vq_iload_n d_L_settleOne_22 rfl ?_
  refine vq_lload_n d_L_settleOne_23 rfl ?_
  refine vq_last d_L_settleOne_24 rfl (by decide) rfl rfl (show _ < 20 by omega) ?_
  refine vq_aload_n d_L_settleOne_25 rfl ?_
  refine vq_getR (k := 1) (C := R_L) (T := T_L) d_L_settleOne_26 rfl in_L w_183 (by decide) rfl (by decide) rfl rfl ?_
  refine vq_iload_n d_L_settleOne_29 rfl ?_
  refine vq_callV (n := 1) (C := R_V) (T := T_V) _ _ d_L_settleOne_30 (ct_V_look l b id D hW hc1 he hu) w_250 w_251 w_252 w_253 w_3 rfl ⟨by decide, by decide, by decide +kernel⟩ ⟨by decide, by decide⟩ (by decide) rfl rfl rfl rfl (Nat.le_of_ble_eq_true rfl) rfl rfl rfl ⟨by decide, by decide⟩ (fun _ _ h => h.elim) (fun v30 g30 h30 => ?_)
  obtain ⟨rfl, b1, b2, -, b4⟩ := h30
  have hc2 : Hc g30 F := hc1.congr (fun q x y => b2 q (by omega))
  refine vq_aload_n d_L_settleOne_33 rfl ?_
  refine vq_getR (k := 1) (C := R_L) (T := T_L) d_L_settleOne_34 rfl in_L w_183 (by decide) rfl (by decide) rfl rfl ?_
  refine vq_getI (k := 3) (C := R_V) (T := T_V) d_L_settleOne_37 rfl in_V w_90 (by decide) rfl (by decide) rfl ?_
  refine vq_int (y := nI (zt F e)) b4.2.2.1 ?_
  refine vq_iconst (v := 5) d_L_settleOne_40 (by decide) ?_
  refine vq_icmp_ne (tgt := 53) d_L_settleOne_41 (by decide) (fun h41 => ?_) (fun h41 => ?_)
  · rw [show (5 : Int32) = nI 5 from rfl, nI_eq (by omega) (by decide)] at h41
    refine vq_aload_n d_L_settleOne_53 rfl ?_
    refine vq_getR (k := 1) (C := R_L) (T := T_L) d_L_settleOne_54 rfl in_L w_183 (by decide) rfl (by decide) rfl rfl ?_
    refine vq_getI (k := 3) (C := R_V) (T := T_V) d_L_settleOne_57 rfl in_V w_90 (by decide) rfl (by decide) rfl ?_
    refine vq_int (y := nI (zt F e)) b4.2.2.1 ?_
    refine vq_if_ne (tgt := 74) d_L_settleOne_60 (by decide) (fun h60 => ?_) (fun h60 => ?_)
    · rw [show (0 : Int32) = nI 0 from rfl, nI_eq (by omega) (by decide)] at h60
      refine vq_aload_n d_L_settleOne_74 rfl ?_
      refine vq_getR (k := 2) (C := R_L) (T := T_L) d_L_settleOne_75 rfl in_L w_184 (by decide) rfl (by decide) rfl rfl ?_
      refine vq_lload_n d_L_settleOne_78 rfl ?_
      refine vq_callV (n := 1) (C := R_D) (T := T_D) _ _ d_L_settleOne_79 (ct_D_divideByShares l b id D hW hc2 he b4 (a := A) hsb) w_341 w_342 w_343 w_344 w_4 rfl ⟨by decide, by decide, by decide +kernel⟩ ⟨by decide, by decide⟩ (by decide) rfl rfl rfl rfl (Nat.le_of_ble_eq_true rfl) rfl rfl rfl ⟨by decide, by decide⟩ (fun _ _ h => h.elim) (fun v79 g79 h79 => ?_)
      obtain ⟨rfl, d1, d2, d3, d4⟩ := h79
      have hi1 : ∀ q, q < 29 ∨ 40 < q → g79.1 q = g30.1 q := fun q hq => by rw [d1]
      have hj1 : ∀ q, q < 34 ∨ 40 < q → g79.2 q = g30.2 q := fun q hq => d2 q (by omega)
      have hden : g79.2 34 4 = lN (zdn F e A) := by rw [d3]; unfold zdn; rw [if_neg h60]
      have htk : ∀ p, p < zn F → g79.2 35 p = lN (zS F e A p) := fun p hp => by rw [d4 p hp]; unfold zS; rw [if_neg h60]
      refine vq_aload_n d_L_settleOne_82 rfl ?_
      refine vq_iload_n d_L_settleOne_83 rfl ?_
      refine vq_callV (n := 1) (C := R_L) (T := T_L) _ _ d_L_settleOne_84 (ct_L_payDues l b id D hW (hc2.congr (fun q x y => hi1 q (by omega))) (e := e) (A := A) (d := zdn F e A) (S := zS F e A) he hden (zdn_pos he) (by have := zdn_lt (e := e) (a := A) hW; omega) (by rw [hj1 63 (by omega), b1, sJ_s, vp_updL, if_pos rfl]) (fun p hp => ⟨htk p hp, zS_lt hW he (zt_5 h41) hA hp⟩) (zS_sum hW he (zt_5 h41)) (by omega)) w_358 w_360 sel_L_payDues w_361 w_6 rfl ⟨by decide, by decide, by decide +kernel⟩ ⟨by decide, by decide⟩ (by decide) rfl rfl rfl rfl (Nat.le_of_ble_eq_true rfl) rfl rfl rfl ⟨by decide, by decide⟩ (fun _ _ h => h.elim) (fun v84 g84 h84 => ?_)
      obtain ⟨rfl, f1, f2, f3, f4⟩ := h84
      refine vq_vret d_L_settleOne_87 rfl (by decide) (by decide) rfl rfl ?_
      refine ⟨rfl, ⟨fun e9 j h1 h2 => ?_, fun j h2 => ?_, fun p h2 => ?_⟩, fun q hq => ?_, fun q hq => ?_⟩
      · show _ = lN (k.1 e9 j + (if e9 = e then zdue F e (zo F e + k.2.1 e) j else 0))
        rw [← hAe]
        by_cases e1 : e9 = e
        · rw [e1, f3 j, hj1 (43 + e) (by omega), b1, sJ_n (show 43 + e ≠ 63 by omega), hl.1 e j (by omega) h2, if_pos rfl, lN_add]
          unfold zdue
          rw [if_neg h41]
        · rw [if_neg e1, Nat.add_zero, f2 (43 + e9) (by omega) (by omega) (by omega), hj1 (43 + e9) (by omega), b1, sJ_n (show 43 + e9 ≠ 63 by omega)]; exact hl.1 e9 j h1 h2
      · show _ = lN (k.2.1 j + zdue F e (zo F e + k.2.1 e) j)
        rw [← hAe, f4 j, hj1 64 (by omega), b1, sJ_n (by decide), hl.2.1 j h2, lN_add]
        unfold zdue
        rw [if_neg h41]
      · show _ = lN (if p = e then zo F e + k.2.1 e else k.2.2 p)
        rw [← hAe, f2 63 (by omega) (by decide) (by decide), hj1 63 (by omega), b1, sJ_s, vp_updL]
        by_cases e1 : p = e
        · rw [if_pos e1, if_pos e1]
        · rw [if_neg e1, if_neg e1]; exact hl.2.2 p h2
      · rw [f1, hi1 q hq]; exact b2 q (by omega)
      · rw [f2 q (by omega) (by omega) (by omega), hj1 q (by omega), b1, sJ_n (by omega)]
    · rw [show (0 : Int32) = nI 0 from rfl, nI_eq (by omega) (by decide)] at h60
      refine vq_aload_n d_L_settleOne_63 rfl ?_
      refine vq_getR (k := 2) (C := R_L) (T := T_L) d_L_settleOne_64 rfl in_L w_184 (by decide) rfl (by decide) rfl rfl ?_
      refine vq_lload_n d_L_settleOne_67 rfl ?_
      refine vq_callV (n := 1) (C := R_D) (T := T_D) _ _ d_L_settleOne_68 (ct_D_divideWithGifts l b id D hW hc2 he b4 (a := A) hA) w_290 w_291 w_292 w_293 w_4 rfl ⟨by decide, by decide, by decide +kernel⟩ ⟨by decide, by decide⟩ (by decide) rfl rfl rfl rfl (Nat.le_of_ble_eq_true rfl) rfl rfl rfl ⟨by decide, by decide⟩ (fun _ _ h => h.elim) (fun v68 g68 h68 => ?_)
      obtain ⟨rfl, d1, d2, d3, d4⟩ := h68
      have hi1 : ∀ q, q < 29 ∨ 40 < q → g68.1 q = g30.1 q := fun q hq => d1 q (by omega) (by omega)
      have hj1 : ∀ q, q < 34 ∨ 40 < q → g68.2 q = g30.2 q := d2
      have hden : g68.2 34 4 = lN (zdn F e A) := by rw [d3]; unfold zdn; rw [if_pos h60]
      have htk : ∀ p, p < zn F → g68.2 35 p = lN (zS F e A p) := fun p hp => by rw [d4 p hp]; unfold zS; rw [if_pos h60]
      refine vq_goto (tgt := 82) d_L_settleOne_71 (by decide) ?_
      refine vq_aload_n d_L_settleOne_82 rfl ?_
      refine vq_iload_n d_L_settleOne_83 rfl ?_
      refine vq_callV (n := 1) (C := R_L) (T := T_L) _ _ d_L_settleOne_84 (ct_L_payDues l b id D hW (hc2.congr (fun q x y => hi1 q (by omega))) (e := e) (A := A) (d := zdn F e A) (S := zS F e A) he hden (zdn_pos he) (by have := zdn_lt (e := e) (a := A) hW; omega) (by rw [hj1 63 (by omega), b1, sJ_s, vp_updL, if_pos rfl]) (fun p hp => ⟨htk p hp, zS_lt hW he (zt_5 h41) hA hp⟩) (zS_sum hW he (zt_5 h41)) (by omega)) w_358 w_360 sel_L_payDues w_361 w_6 rfl ⟨by decide, by decide, by decide +kernel⟩ ⟨by decide, by decide⟩ (by decide) rfl rfl rfl rfl (Nat.le_of_ble_eq_true rfl) rfl rfl rfl ⟨by decide, by decide⟩ (fun _ _ h => h.elim) (fun v84 g84 h84 => ?_)
      obtain ⟨rfl, f1, f2, f3, f4⟩ := h84
      refine vq_vret d_L_settleOne_87 rfl (by decide) (by decide) rfl rfl ?_
      refine ⟨rfl, ⟨fun e9 j h1 h2 => ?_, fun j h2 => ?_, fun p h2 => ?_⟩, fun q hq => ?_, fun q hq => ?_⟩
      · show _ = lN (k.1 e9 j + (if e9 = e then zdue F e (zo F e + k.2.1 e) j else 0))
        rw [← hAe]
        by_cases e1 : e9 = e
        · rw [e1, f3 j, hj1 (43 + e) (by omega), b1, sJ_n (show 43 + e ≠ 63 by omega), hl.1 e j (by omega) h2, if_pos rfl, lN_add]
          unfold zdue
          rw [if_neg h41]
        · rw [if_neg e1, Nat.add_zero, f2 (43 + e9) (by omega) (by omega) (by omega), hj1 (43 + e9) (by omega), b1, sJ_n (show 43 + e9 ≠ 63 by omega)]; exact hl.1 e9 j h1 h2
      · show _ = lN (k.2.1 j + zdue F e (zo F e + k.2.1 e) j)
        rw [← hAe, f4 j, hj1 64 (by omega), b1, sJ_n (by decide), hl.2.1 j h2, lN_add]
        unfold zdue
        rw [if_neg h41]
      · show _ = lN (if p = e then zo F e + k.2.1 e else k.2.2 p)
        rw [← hAe, f2 63 (by omega) (by decide) (by decide), hj1 63 (by omega), b1, sJ_s, vp_updL]
        by_cases e1 : p = e
        · rw [if_pos e1, if_pos e1]
        · rw [if_neg e1, if_neg e1]; exact hl.2.2 p h2
      · rw [f1, hi1 q hq]; exact b2 q (by omega)
      · rw [f2 q (by omega) (by omega) (by omega), hj1 q (by omega), b1, sJ_n (by omega)]
  · rw [show (5 : Int32) = nI 5 from rfl, nI_eq (by omega) (by decide)] at h41
    refine vq_aload_n d_L_settleOne_44 rfl ?_
    refine vq_iload_n d_L_settleOne_45 rfl ?_
    refine vq_bipush (v := 20) d_L_settleOne_46 (by decide) ?_
    refine vq_lload_n d_L_settleOne_48 rfl ?_
    refine vq_callV (n := 3) (C := R_L) (T := T_L) _ _ d_L_settleOne_49 (ct_L_pay l b id D (e := e) (p := 20) he20 (by omega) (lN A)) w_286 w_288 sel_L_pay w_289 w_6 rfl ⟨by decide, by decide, by decide +kernel⟩ ⟨by decide, by decide⟩ (by decide) rfl rfl rfl rfl (Nat.le_of_ble_eq_true rfl) rfl rfl rfl ⟨by decide, by decide⟩ (fun _ _ h => h.elim) (fun v49 g49 h49 => ?_)
    obtain ⟨rfl, c1, c2, c3, c4⟩ := h49
    refine vq_vret d_L_settleOne_52 rfl (by decide) (by decide) rfl rfl ?_
    refine ⟨rfl, ⟨fun e9 j h1 h2 => ?_, fun j h2 => ?_, fun p h2 => ?_⟩, fun q hq => ?_, fun q hq => ?_⟩
    · show _ = lN (k.1 e9 j + (if e9 = e then zdue F e (zo F e + k.2.1 e) j else 0))
      rw [← hAe]
      by_cases e1 : e9 = e
      · rw [e1, c3 j, b1, sJ_n (show 43 + e ≠ 63 by omega), hl.1 e j (by omega) h2, if_pos rfl]
        unfold zdue
        rw [if_pos h41]
        by_cases e2 : j = 20
        · rw [if_pos e2, if_pos e2, lN_add]
        · rw [if_neg e2, if_neg e2, Int64.add_zero, Nat.add_zero]
      · rw [if_neg e1, Nat.add_zero, c2 (43 + e9) (by omega) (by omega), b1, sJ_n (show 43 + e9 ≠ 63 by omega)]; exact hl.1 e9 j h1 h2
    · show _ = lN (k.2.1 j + zdue F e (zo F e + k.2.1 e) j)
      rw [← hAe, c4 j, b1, sJ_n (by decide), hl.2.1 j h2]
      unfold zdue
      rw [if_pos h41]
      by_cases e2 : j = 20
      · rw [if_pos e2, if_pos e2, lN_add]
      · rw [if_neg e2, if_neg e2, Int64.add_zero, Nat.add_zero]
    · show _ = lN (if p = e then zo F e + k.2.1 e else k.2.2 p)
      rw [← hAe, c2 63 (by omega) (by decide), b1, sJ_s, vp_updL]
      by_cases e1 : p = e
      · rw [if_pos e1, if_pos e1]
      · rw [if_neg e1, if_neg e1]; exact hl.2.2 p h2
    · rw [c1]; exact b2 q (by omega)
    · rw [c2 q (by omega) (by omega), b1, sJ_n (by omega)]
set_option maxRecDepth 100000 in
set_option maxHeartbeats 4000000 in
theorem ct_L_forget (l : Launch) (b : Nat) (id : Nat → ClassId) (D : va_G) {g : Sg} : qCT l b id D m_L_forget false [.ref (b + 41)] 85 kT g 85 kT (fun v' g' => v' = none ∧ Hl g' (fun _ _ => 0, fun _ => 0, fun _ => 0) ∧ (∀ p, p < 20 → g'.1 65 p = 0) ∧ (∀ q, q ≠ 65 → g'.1 q = g.1 q) ∧ (∀ q, q < 43 ∨ 64 < q → g'.2 q = g.2 q)) (fun _ _ => False) := by
  refine qCT_of rfl (by decide) (Nat.le_of_ble_eq_true rfl) ?_
  show Vq l b id D m_L_forget false 85 kT _ 85 kT _ 85 kT 0 0 0 [(0, .ref (b + 41))] [] g
  have loop : ∀ (n9 : Nat) (i : Nat) (g1 : Sg), 20 - i = n9 → (i ≤ 20 ∧ (∀ e j, e < i → j < 21 → g1.2 (43 + e) j = 0) ∧ (∀ j, j < 21 → g1.2 64 j = 0) ∧ (∀ p, p < 20 → g1.2 63 p = 0) ∧ (∀ p, p < i → g1.1 65 p = 0) ∧ (∀ q, q ≠ 65 → g1.1 q = g.1 q) ∧ (∀ q, q < 43 ∨ 64 < q → g1.2 q = g.2 q)) → Vq l b id D m_L_forget false 85 kT (fun v' g' => v' = none ∧ Hl g' (fun _ _ => 0, fun _ => 0, fun _ => 0) ∧ (∀ p, p < 20 → g'.1 65 p = 0) ∧ (∀ q, q ≠ 65 → g'.1 q = g.1 q) ∧ (∀ q, q < 43 ∨ 64 < q → g'.2 q = g.2 q)) 85 kT (fun _ _ => False) 85 kT 0 0 18 [(1, .int (nI i)), (0, .ref (b + 41))] [] g1 := by
    intro n9
    induction n9 using Nat.strongRecOn with
    | ind n9 ih =>
    intro i g1 hm hI
    have hle := hI.1
    refine vq_iload_n d_L_forget_18 rfl ?_
    refine vq_bipush (v := 20) d_L_forget_19 (by decide) ?_
    refine vq_icmp_ge (tgt := 47) d_L_forget_21 (by decide) (fun h21 => ?_) (fun h21 => ?_)
    · have hi : i = 20 := by
        rw [show (20 : Int32) = nI 20 from rfl, nI_leI (by decide) (by omega)] at h21
        omega
      refine vq_vret d_L_forget_47 rfl (by decide) (by decide) rfl rfl ?_
      subst hi
      exact ⟨rfl, ⟨fun e j h1 h2 => hI.2.1 e j h1 h2, hI.2.2.1, hI.2.2.2.1⟩, hI.2.2.2.2.1, hI.2.2.2.2.2.1, hI.2.2.2.2.2.2⟩
    · have hi : i < 20 := by
        rw [show (20 : Int32) = nI 20 from rfl, nI_leI (by decide) (by omega)] at h21
        omega
      refine vq_aload_n d_L_forget_24 rfl ?_
      refine vq_getR (k := 3) (C := R_L) (T := T_L) d_L_forget_25 rfl in_L w_185 (by decide) rfl (by decide) rfl rfl ?_
      refine vq_iload_n d_L_forget_28 rfl ?_
      refine vq_aald5 d_L_forget_29 (by decide) rfl rfl (show _ < 20 by omega) ?_
      refine vq_lconst (v := 0) d_L_forget_30 rfl ?_
      refine vq_callS (n := 2) _ _ d_L_forget_31 (ct_A_fillJ l b id D (q := 43 + i) (by omega) (qK_pm i hi) 0) w_235 w_236 w_237 w_13 rfl ⟨by decide, by decide, by decide +kernel⟩ ⟨by decide, by decide⟩ rfl rfl (Nat.le_of_ble_eq_true rfl) rfl rfl rfl ⟨by decide, by decide⟩ (fun _ _ h => h.elim) (fun v31 g31 h31 => ?_)
      obtain ⟨rfl, f, rfl, hf⟩ := h31
      rw [qL_pm i hi] at hf
      refine vq_aload_n d_L_forget_34 rfl ?_
      refine vq_getR (k := 6) (C := R_L) (T := T_L) d_L_forget_35 rfl in_L w_191 (by decide) rfl (by decide) rfl rfl ?_
      refine vq_iload_n d_L_forget_38 rfl ?_
      refine vq_iconst (v := 0) d_L_forget_39 (by decide) ?_
      refine vq_zast d_L_forget_40 rfl (by decide) rfl rfl (show _ < 20 by omega) (by first | exact Or.inl rfl | exact Or.inr rfl | assumption) ?_
      refine vq_iinc (k := 0) (lv' := [(1, _), (0, _)]) d_L_forget_41 rfl (ip1 i) (by decide) rfl ?_
      refine vq_goto (tgt := 18) d_L_forget_44 (by decide) ?_
      refine ih (20 - (i + 1)) (by omega) (i + 1) _ rfl ⟨by omega, fun e j h1 h2 => ?_, fun j h2 => ?_, fun p h2 => ?_, fun p h2 => ?_, fun q hq => ?_, fun q hq => ?_⟩
      · rw [sI_2]
        by_cases e1 : e = i
        · rw [e1, sJ_s]; exact hf j h2
        · rw [sJ_n (show 43 + e ≠ 43 + i by omega)]; exact hI.2.1 e j (by omega) h2
      · rw [sI_2, sJ_n (show 64 ≠ 43 + i by omega)]; exact hI.2.2.1 j h2
      · rw [sI_2, sJ_n (show 63 ≠ 43 + i by omega)]; exact hI.2.2.2.1 p h2
      · rw [sI_s, upd]
        by_cases e1 : p = i
        · rw [if_pos e1]
        · rw [if_neg e1]; exact hI.2.2.2.2.1 p (by omega)
      · rw [sI_n hq]; exact hI.2.2.2.2.2.1 q hq
      · rw [sI_2, sJ_n (show q ≠ 43 + i by omega)]; exact hI.2.2.2.2.2.2 q hq
  refine vq_aload_n d_L_forget_0 rfl ?_
  refine vq_getR (k := 4) (C := R_L) (T := T_L) d_L_forget_1 rfl in_L w_187 (by decide) rfl (by decide) rfl rfl ?_
  refine vq_lconst (v := 0) d_L_forget_4 rfl ?_
  refine vq_callS (n := 2) _ _ d_L_forget_5 (ct_A_fillJ l b id D (q := 63) (by decide) rfl 0) w_235 w_236 w_237 w_13 rfl ⟨by decide, by decide, by decide +kernel⟩ ⟨by decide, by decide⟩ rfl rfl (Nat.le_of_ble_eq_true rfl) rfl rfl rfl ⟨by decide, by decide⟩ (fun _ _ h => h.elim) (fun v5 g5 h5 => ?_)
  obtain ⟨rfl, f, rfl, hf⟩ := h5
  refine vq_aload_n d_L_forget_8 rfl ?_
  refine vq_getR (k := 5) (C := R_L) (T := T_L) d_L_forget_9 rfl in_L w_189 (by decide) rfl (by decide) rfl rfl ?_
  refine vq_lconst (v := 0) d_L_forget_12 rfl ?_
  refine vq_callS (n := 2) _ _ d_L_forget_13 (ct_A_fillJ l b id D (q := 64) (by decide) rfl 0) w_235 w_236 w_237 w_13 rfl ⟨by decide, by decide, by decide +kernel⟩ ⟨by decide, by decide⟩ rfl rfl (Nat.le_of_ble_eq_true rfl) rfl rfl rfl ⟨by decide, by decide⟩ (fun _ _ h => h.elim) (fun v13 g13 h13 => ?_)
  obtain ⟨rfl, f2, rfl, hf2⟩ := h13
  refine vq_iconst (v := 0) d_L_forget_16 (by decide) ?_
  refine vq_istore_n (lv' := [(1, _), (0, _)]) d_L_forget_17 (by decide) rfl ?_
  refine loop 20 0 _ rfl ⟨by omega, fun e j h1 h2 => absurd h1 (Nat.not_lt_zero e), fun j h2 => ?_, fun p h2 => ?_, fun p h2 => absurd h2 (Nat.not_lt_zero p), fun q hq => rfl, fun q hq => ?_⟩
  · rw [sJ_s]; exact hf2 j h2
  · rw [sJ_n (by decide), sJ_s]; exact hf p h2
  · rw [sJ_n (by omega), sJ_n (by omega)]
set_option maxRecDepth 100000 in
set_option maxHeartbeats 4000000 in
theorem ct_L_earliestUnsettled (l : Launch) (b : Nat) (id : Nat → ClassId) (D : va_G) {g : Sg} {F : Fam} (hW : zW F) (hc : Hc g F) {st : Nat → Bool} (hst : ∀ p, p < 20 → g.1 65 p = bI (st p)) : qCT l b id D m_L_earliestUnsettled false [.ref (b + 41)] 85 kT g 85 kT (fun v' g' => v' = some (.int (eO (zer F st (zn F)))) ∧ g' = g) (fun _ _ => False) := by
  have hn := hW.1
  refine qCT_of rfl (by decide) (Nat.le_of_ble_eq_true rfl) ?_
  show Vq l b id D m_L_earliestUnsettled false 85 kT _ 85 kT _ 85 kT 0 0 0 [(0, .ref (b + 41))] [] g
  have loop : ∀ (n9 : Nat) (i : Nat), zn F - i = n9 → i ≤ zn F → Vq l b id D m_L_earliestUnsettled false 85 kT (fun v' g' => v' = some (.int (eO (zer F st (zn F)))) ∧ g' = g) 85 kT (fun _ _ => False) 85 kT 0 0 4 [(2, .int (nI i)), (1, .int (eO (zer F st i))), (0, .ref (b + 41))] [] g := by
    intro n9
    induction n9 using Nat.strongRecOn with
    | ind n9 ih =>
    intro i hm hle
    refine vq_iload_n d_L_earliestUnsettled_4 rfl ?_
    refine vq_aload_n d_L_earliestUnsettled_5 rfl ?_
    refine vq_getR (k := 0) (C := R_L) (T := T_L) d_L_earliestUnsettled_6 rfl in_L w_182 (by decide) rfl (by decide) rfl rfl ?_
    refine vq_getI (k := 0) (C := R_F) (T := T_F) d_L_earliestUnsettled_9 rfl in_F w_33 (by decide) rfl (by decide) rfl ?_
    refine vq_int (y := nI (zn F)) hc.1 ?_
    refine vq_icmp_ge (tgt := 69) d_L_earliestUnsettled_12 (by decide) (fun h12 => ?_) (fun h12 => ?_)
    · have hi : i = zn F := by
        rw [nI_leI (by omega) (by omega)] at h12
        omega
      subst hi
      refine vq_iload_n d_L_earliestUnsettled_69 rfl ?_
      refine vq_iret d_L_earliestUnsettled_70 rfl (by decide) (by decide) rfl rfl ?_
      exact ⟨rfl, rfl⟩
    · have hi : i < zn F := by
        rw [nI_leI (by omega) (by omega)] at h12
        omega
      have hstep : zer F st (i + 1) = if ((zd F i).isSome && !st i && (match zer F st i with | none => true | some x => decide (zday F i < zday F x))) = true then some i else zer F st i := rfl
      have s63 : ∀ (o : Option Nat), o = zer F st (i + 1) → Vq l b id D m_L_earliestUnsettled false 85 kT (fun v' g' => v' = some (.int (eO (zer F st (zn F)))) ∧ g' = g) 85 kT (fun _ _ => False) 85 kT 0 0 63 [(1, .int (eO o)), (2, .int (nI i)), (0, .ref (b + 41))] [] g := by
        intro o ho
        refine vq_iinc (k := 1) (lv' := [(2, _), (1, _), (0, _)]) d_L_earliestUnsettled_63 rfl (ip1 i) (by decide) rfl ?_
        refine vq_goto (tgt := 4) d_L_earliestUnsettled_66 (by decide) ?_
        rw [ho]
        exact ih (zn F - (i + 1)) (by omega) (i + 1) rfl (by omega)
      refine vq_aload_n d_L_earliestUnsettled_15 rfl ?_
      refine vq_getR (k := 0) (C := R_L) (T := T_L) d_L_earliestUnsettled_16 rfl in_L w_182 (by decide) rfl (by decide) rfl rfl ?_
      refine vq_iload_n d_L_earliestUnsettled_19 rfl ?_
      refine vq_callV (n := 1) (C := R_F) (T := T_F) _ _ d_L_earliestUnsettled_20 (ct_F_died l b id D hW hc hi) w_242 w_243 w_244 w_245 w_2 rfl ⟨by decide, by decide, by decide +kernel⟩ ⟨by decide, by decide⟩ (by decide) rfl rfl rfl rfl (Nat.le_of_ble_eq_true rfl) rfl rfl rfl ⟨by decide, by decide⟩ (fun _ _ h => h.elim) (fun v20 g20 h20 => ?_)
      rw [h20.1, h20.2]
      refine vq_if_eq (tgt := 63) d_L_earliestUnsettled_23 (by decide) (fun h23 => ?_) (fun h23 => ?_)
      · have hd := bI_0.mp h23
        refine vq_pk [1, 0, 2] (lv' := [(1, _), (2, _), (0, _)]) rfl ?_
        first
          | (refine s63 (zer F st i) ?_; rw [hstep, hd]; simp; done)
          | (refine s63 (zer F st i) ?_; rw [hstep, hs0]; simp; done)
          | (refine s63 (some i) ?_; rw [hstep, hd, hs0, h37]; simp; done)
          | (refine s63 (some i) ?_; rw [hstep, hd, hs0, hx]; simp; omega)
          | (refine s63 (zer F st i) ?_; rw [hstep, hd, hs0, hx]; simp; omega)
      · have hd := bI_n0.mp h23
        obtain ⟨ti, hti⟩ := Option.isSome_iff_exists.mp hd
        have hti9 := hW.2.2.2.2.2.1 i ti hi hti
        refine vq_aload_n d_L_earliestUnsettled_26 rfl ?_
        refine vq_getR (k := 6) (C := R_L) (T := T_L) d_L_earliestUnsettled_27 rfl in_L w_191 (by decide) rfl (by decide) rfl rfl ?_
        refine vq_iload_n d_L_earliestUnsettled_30 rfl ?_
        refine vq_zald d_L_earliestUnsettled_31 (by decide) rfl rfl (show _ < 20 by omega) ?_
        refine vq_int (y := bI (st i)) (hst i (by omega)) ?_
        refine vq_if_ne (tgt := 63) d_L_earliestUnsettled_32 (by decide) (fun h32 => ?_) (fun h32 => ?_)
        · have hs0 := bI_n0.mp h32
          refine vq_pk [1, 0, 2] (lv' := [(1, _), (2, _), (0, _)]) rfl ?_
          first
            | (refine s63 (zer F st i) ?_; rw [hstep, hd]; simp; done)
            | (refine s63 (zer F st i) ?_; rw [hstep, hs0]; simp; done)
            | (refine s63 (some i) ?_; rw [hstep, hd, hs0, h37]; simp; done)
            | (refine s63 (some i) ?_; rw [hstep, hd, hs0, hx]; simp; omega)
            | (refine s63 (zer F st i) ?_; rw [hstep, hd, hs0, hx]; simp; omega)
        · have hs0 := bI_0.mp h32
          refine vq_iload_n d_L_earliestUnsettled_35 rfl ?_
          refine vq_iconst (v := -1) d_L_earliestUnsettled_36 (by decide) ?_
          refine vq_icmp_eq (tgt := 61) d_L_earliestUnsettled_37 (by decide) (fun h37 => ?_) (fun h37 => ?_)
          · rw [eO_m1 (zer_eO (by omega))] at h37
            refine vq_iload_n d_L_earliestUnsettled_61 rfl ?_
            refine vq_istore_n (lv' := [(1, _), (2, _), (0, _)]) d_L_earliestUnsettled_62 (by decide) rfl ?_
            first
              | (refine s63 (zer F st i) ?_; rw [hstep, hd]; simp; done)
              | (refine s63 (zer F st i) ?_; rw [hstep, hs0]; simp; done)
              | (refine s63 (some i) ?_; rw [hstep, hd, hs0, h37]; simp; done)
              | (refine s63 (some i) ?_; rw [hstep, hd, hs0, hx]; simp; omega)
              | (refine s63 (zer F st i) ?_; rw [hstep, hd, hs0, hx]; simp; omega)
          · rw [eO_m1 (zer_eO (by omega))] at h37
            obtain ⟨x, hx⟩ := Option.ne_none_iff_exists'.mp h37
            obtain ⟨hxi, hxd, -⟩ := zer_lt hx
            obtain ⟨tx, htx⟩ := Option.isSome_iff_exists.mp hxd
            have htx9 := hW.2.2.2.2.2.1 x tx (by omega) htx
            have hdi : zday F i ≤ 999 := by unfold zday; rw [hti]; exact hti9
            have hdx : zday F x ≤ 999 := by unfold zday; rw [htx]; exact htx9
            refine vq_aload_n d_L_earliestUnsettled_40 rfl ?_
            refine vq_getR (k := 0) (C := R_L) (T := T_L) d_L_earliestUnsettled_41 rfl in_L w_182 (by decide) rfl (by decide) rfl rfl ?_
            refine vq_getR (k := 4) (C := R_F) (T := T_F) d_L_earliestUnsettled_44 rfl in_F w_49 (by decide) rfl (by decide) rfl rfl ?_
            refine vq_iload_n d_L_earliestUnsettled_47 rfl ?_
            refine vq_iald d_L_earliestUnsettled_48 (by decide) rfl rfl (show _ < 20 by omega) ?_
            refine vq_int (y := nI (zday F i)) (by rw [hc.2.2.2.2.1 i hi, hti]; unfold zday; rw [hti]; rfl) ?_
            refine vq_aload_n d_L_earliestUnsettled_49 rfl ?_
            refine vq_getR (k := 0) (C := R_L) (T := T_L) d_L_earliestUnsettled_50 rfl in_L w_182 (by decide) rfl (by decide) rfl rfl ?_
            refine vq_getR (k := 4) (C := R_F) (T := T_F) d_L_earliestUnsettled_53 rfl in_F w_49 (by decide) rfl (by decide) rfl rfl ?_
            refine vq_iload_n d_L_earliestUnsettled_56 rfl ?_
            refine vq_iald d_L_earliestUnsettled_57 (by decide) rfl (show _ = nI x by rw [hx]; rfl) (show _ < 20 by omega) ?_
            refine vq_int (y := nI (zday F x)) (by rw [hc.2.2.2.2.1 x (by omega), htx]; unfold zday; rw [htx]; rfl) ?_
            refine vq_icmp_ge (tgt := 63) d_L_earliestUnsettled_58 (by decide) (fun h58 => ?_) (fun h58 => ?_)
            · rw [nI_leI (by omega) (by omega)] at h58
              refine vq_pk [1, 0, 2] (lv' := [(1, _), (2, _), (0, _)]) rfl ?_
              first
                | (refine s63 (zer F st i) ?_; rw [hstep, hd]; simp; done)
                | (refine s63 (zer F st i) ?_; rw [hstep, hs0]; simp; done)
                | (refine s63 (some i) ?_; rw [hstep, hd, hs0, h37]; simp; done)
                | (refine s63 (some i) ?_; rw [hstep, hd, hs0, hx]; simp; omega)
                | (refine s63 (zer F st i) ?_; rw [hstep, hd, hs0, hx]; simp; omega)
            · rw [nI_leI (by omega) (by omega)] at h58
              refine vq_iload_n d_L_earliestUnsettled_61 rfl ?_
              refine vq_istore_n (lv' := [(1, _), (2, _), (0, _)]) d_L_earliestUnsettled_62 (by decide) rfl ?_
              first
                | (refine s63 (zer F st i) ?_; rw [hstep, hd]; simp; done)
                | (refine s63 (zer F st i) ?_; rw [hstep, hs0]; simp; done)
                | (refine s63 (some i) ?_; rw [hstep, hd, hs0, h37]; simp; done)
                | (refine s63 (some i) ?_; rw [hstep, hd, hs0, hx]; simp; omega)
                | (refine s63 (zer F st i) ?_; rw [hstep, hd, hs0, hx]; simp; omega)
  refine vq_iconst (v := -1) d_L_earliestUnsettled_0 (by decide) ?_
  refine vq_istore_n (lv' := [(1, _), (0, _)]) d_L_earliestUnsettled_1 (by decide) rfl ?_
  refine vq_iconst (v := 0) d_L_earliestUnsettled_2 (by decide) ?_
  refine vq_istore_n (lv' := [(2, _), (1, _), (0, _)]) d_L_earliestUnsettled_3 (by decide) rfl ?_
  exact loop (zn F) 0 rfl (by omega)
/-- how many were settled -/
def zct (F : Fam) : Nat → Nat
  | 0 => 0
  | r + 1 => zct F r + (if (zer F (zra F r).1 (zn F)).isSome = true then 1 else 0)
theorem zct_stay {F : Fam} {r : Nat} (h : zer F (zra F r).1 (zn F) = none) : ∀ d, zct F (r + d) = zct F r
  | 0 => rfl
  | d + 1 => by
    show zct F (r + d) + (if (zer F (zra F (r + d)).1 (zn F)).isSome = true then 1 else 0) = _
    rw [zct_stay h d, zra_stay h d, h]; rfl
theorem zct_le (F : Fam) : ∀ r, zct F r ≤ r
  | 0 => Nat.le_refl _
  | r + 1 => by
    have := zct_le F r
    show zct F r + (if (zer F (zra F r).1 (zn F)).isSome = true then 1 else 0) ≤ r + 1
    split <;> omega
set_option maxRecDepth 100000 in
set_option maxHeartbeats 4000000 in
theorem ct_L_settleAll (l : Launch) (b : Nat) (id : Nat → ClassId) (D : va_G) {g : Sg} {F : Fam} (hW : zW F) (hc : Hc g F) : qCT l b id D m_L_settleAll false [.ref (b + 41)] 85 kT g 85 kT (fun v' g' => v' = some (.int (nI (zct F (zn F)))) ∧ Hl g' (zra F (zn F)).2 ∧ (∀ q, q < 29 ∨ 65 < q → g'.1 q = g.1 q) ∧ (∀ q, q < 34 ∨ 66 < q → g'.2 q = g.2 q)) (fun _ _ => False) := by
  have hn := hW.1
  refine qCT_of rfl (by decide) (Nat.le_of_ble_eq_true rfl) ?_
  show Vq l b id D m_L_settleAll false 85 kT _ 85 kT _ 85 kT 0 0 0 [(0, .ref (b + 41))] [] g
  have loop : ∀ (n9 : Nat) (r : Nat) (g1 : Sg), zn F - r = n9 → (r ≤ zn F ∧ Hl g1 (zra F r).2 ∧ (∀ p, p < 20 → g1.1 65 p = bI ((zra F r).1 p)) ∧ (∀ q, q < 29 ∨ 65 < q → g1.1 q = g.1 q) ∧ (∀ q, q < 34 ∨ 66 < q → g1.2 q = g.2 q)) → Vq l b id D m_L_settleAll false 85 kT (fun v' g' => v' = some (.int (nI (zct F (zn F)))) ∧ Hl g' (zra F (zn F)).2 ∧ (∀ q, q < 29 ∨ 65 < q → g'.1 q = g.1 q) ∧ (∀ q, q < 34 ∨ 66 < q → g'.2 q = g.2 q)) 85 kT (fun _ _ => False) 85 kT 0 0 8 [(2, .int (nI r)), (1, .int (nI (zct F r))), (0, .ref (b + 41))] [] g1 := by
    intro n9
    induction n9 using Nat.strongRecOn with
    | ind n9 ih =>
    intro r g1 hm hI
    have hle := hI.1
    have hc1 : Hc g1 F := hc.congr (fun q y z9 => hI.2.2.2.1 q (by omega))
    refine vq_iload_n d_L_settleAll_8 rfl ?_
    refine vq_aload_n d_L_settleAll_9 rfl ?_
    refine vq_getR (k := 0) (C := R_L) (T := T_L) d_L_settleAll_10 rfl in_L w_182 (by decide) rfl (by decide) rfl rfl ?_
    refine vq_getI (k := 0) (C := R_F) (T := T_F) d_L_settleAll_13 rfl in_F w_33 (by decide) rfl (by decide) rfl ?_
    refine vq_int (y := nI (zn F)) hc1.1 ?_
    refine vq_icmp_ge (tgt := 52) d_L_settleAll_16 (by decide) (fun h16 => ?_) (fun h16 => ?_)
    · have hi : r = zn F := by
        rw [nI_leI (by omega) (by omega)] at h16
        omega
      subst hi
      refine vq_iload_n d_L_settleAll_52 rfl ?_
      refine vq_iret d_L_settleAll_53 rfl (by decide) (by decide) rfl rfl ?_
      exact ⟨rfl, hI.2.1, hI.2.2.2.1, hI.2.2.2.2⟩
    · have hi : r < zn F := by
        rw [nI_leI (by omega) (by omega)] at h16
        omega
      refine vq_aload_n d_L_settleAll_19 rfl ?_
      refine vq_callV (n := 0) (C := R_L) (T := T_L) _ _ d_L_settleAll_20 (ct_L_earliestUnsettled l b id D hW hc1 hI.2.2.1) w_238 w_240 sel_L_earliestUnsettled w_241 w_6 rfl ⟨by decide, by decide, by decide +kernel⟩ ⟨by decide, by decide⟩ (by decide) rfl rfl rfl rfl (Nat.le_of_ble_eq_true rfl) rfl rfl rfl ⟨by decide, by decide⟩ (fun _ _ h => h.elim) (fun v20 g20 h20 => ?_)
      rw [h20.1, h20.2]
      refine vq_istore_n (lv' := [(3, _), (2, _), (1, _), (0, _)]) d_L_settleAll_23 (by decide) rfl ?_
      refine vq_iload_n d_L_settleAll_24 rfl ?_
      refine vq_iconst (v := -1) d_L_settleAll_25 (by decide) ?_
      refine vq_icmp_ne (tgt := 31) d_L_settleAll_26 (by decide) (fun h26 => ?_) (fun h26 => ?_)
      · rw [eO_m1 (zer_eO hn)] at h26
        obtain ⟨x, hx⟩ := Option.ne_none_iff_exists'.mp h26
        obtain ⟨hxn, hxd, hxs⟩ := zer_lt hx
        obtain ⟨tx, htx⟩ := Option.isSome_iff_exists.mp hxd
        have hrs := zra_some hx
        have hct : zct F (r + 1) = zct F r + 1 := by show zct F r + (if (zer F (zra F r).1 (zn F)).isSome = true then 1 else 0) = _; rw [hx]; rfl
        refine vq_aload_n d_L_settleAll_31 rfl ?_
        refine vq_getR (k := 6) (C := R_L) (T := T_L) d_L_settleAll_32 rfl in_L w_191 (by decide) rfl (by decide) rfl rfl ?_
        refine vq_iload_n d_L_settleAll_35 rfl ?_
        refine vq_iconst (v := 1) d_L_settleAll_36 (by decide) ?_
        refine vq_zast d_L_settleAll_37 rfl (by decide) rfl (show _ = nI x by rw [hx]; rfl) (show _ < 20 by omega) (by first | exact Or.inl rfl | exact Or.inr rfl | assumption) ?_
        refine vq_aload_n d_L_settleAll_38 rfl ?_
        refine vq_iload_n d_L_settleAll_39 rfl ?_
        refine vq_int (y := nI x) (show _ = nI x by rw [hx]; rfl) ?_
        refine vq_callV (n := 1) (C := R_L) (T := T_L) _ _ d_L_settleAll_40 (ct_L_settleOne l b id D hW (g := sI g1 65 (upd (g1.1 65) x 1)) (hc1.congr (fun q y z9 => sI_n (by omega))) hxn htx (k := (zra F r).2) ⟨hI.2.1.1, hI.2.1.2.1, hI.2.1.2.2⟩ (zra_A hW hxn hxs)) w_246 w_248 sel_L_settleOne w_249 w_6 rfl ⟨by decide, by decide, by decide +kernel⟩ ⟨by decide, by decide⟩ (by decide) rfl rfl rfl rfl (Nat.le_of_ble_eq_true rfl) rfl rfl rfl ⟨by decide, by decide⟩ (fun _ _ h => h.elim) (fun v40 g40 h40 => ?_)
        obtain ⟨rfl, c1, c2, c3⟩ := h40
        refine vq_iinc (k := 2) (lv' := [(1, _), (3, _), (2, _), (0, _)]) d_L_settleAll_43 rfl (ip1 (zct F r)) (by decide) rfl ?_
        refine vq_iinc (k := 2) (lv' := [(2, _), (1, _), (3, _), (0, _)]) d_L_settleAll_46 rfl (ip1 r) (by decide) rfl ?_
        refine vq_goto (tgt := 8) d_L_settleAll_49 (by decide) ?_
        refine vq_pk [0, 1, 3] (lv' := [(2, _), (1, _), (0, _)]) rfl ?_
        rw [← hct]
        refine ih (zn F - (r + 1)) (by omega) (r + 1) _ rfl ⟨by omega, by rw [hrs]; exact c1, fun p hp => ?_, fun q hq => ?_, fun q hq => ?_⟩
        · rw [c2 65 (by omega), sI_s, upd, hrs]
          show _ = bI (if p = x then true else (zra F r).1 p)
          by_cases e1 : p = x
          · rw [if_pos e1, if_pos e1]; rfl
          · rw [if_neg e1, if_neg e1]; exact hI.2.2.1 p hp
        · rw [c2 q (by omega), sI_n (by omega)]; exact hI.2.2.2.1 q hq
        · rw [c3 q hq]; exact hI.2.2.2.2 q hq
      · rw [eO_m1 (zer_eO hn)] at h26
        refine vq_iload_n d_L_settleAll_29 rfl ?_
        refine vq_iret d_L_settleAll_30 rfl (by decide) (by decide) rfl rfl ?_
        have h7 := zra_stay h26 (zn F - r)
        have h8 := zct_stay h26 (zn F - r)
        rw [show r + (zn F - r) = zn F by omega] at h7 h8
        exact ⟨by rw [h8], by rw [h7]; exact hI.2.1, hI.2.2.2.1, hI.2.2.2.2⟩
  refine vq_aload_n d_L_settleAll_0 rfl ?_
  refine vq_callV (n := 0) (C := R_L) (T := T_L) _ _ d_L_settleAll_1 (ct_L_forget l b id D) w_231 w_233 sel_L_forget w_234 w_6 rfl ⟨by decide, by decide, by decide +kernel⟩ ⟨by decide, by decide⟩ (by decide) rfl rfl rfl rfl (Nat.le_of_ble_eq_true rfl) rfl rfl rfl ⟨by decide, by decide⟩ (fun _ _ h => h.elim) (fun v1 g1 h1 => ?_)
  obtain ⟨rfl, a1, a2, a3, a4⟩ := h1
  refine vq_iconst (v := 0) d_L_settleAll_4 (by decide) ?_
  refine vq_istore_n (lv' := [(1, _), (0, _)]) d_L_settleAll_5 (by decide) rfl ?_
  refine vq_iconst (v := 0) d_L_settleAll_6 (by decide) ?_
  refine vq_istore_n (lv' := [(2, _), (1, _), (0, _)]) d_L_settleAll_7 (by decide) rfl ?_
  exact loop (zn F) 0 _ rfl ⟨by omega, a1, a2, fun q hq => a3 q (by omega), fun q hq => a4 q (by omega)⟩
