/-! the reference's stems. Laid by wip/whole/specs/p47.py -/
def FrG (g g1 : Sg) : Prop := (∀ q, q ≠ 67 → q ≠ 75 → q ≠ 76 → q ≠ 77 → q ≠ 80 → g1.1 q = g.1 q) ∧ (∀ k, k < 9 → g1.1 67 k = g.1 67 k) ∧ (∀ q, q ≠ 67 → q ≠ 78 → q ≠ 79 → g1.2 q = g.2 q)
theorem FrG.hm {g g1 : Sg} {F : Fam} (h : FrG g g1) (hm : Hm g F) : Hm g1 F := hm.congr (h.2.1 1 (by decide)) (fun q h1 h2 => h.1 q (by omega) (by omega) (by omega) (by omega) (by omega))
theorem FrG.hn {g g1 : Sg} {k : Lg} (h : FrG g g1) (hl : Hn g k) : Hn g1 k := hl.congr (fun q h1 h2 => h.2.2 q (by omega) (by omega) (by omega))
theorem FrG.dn {g g1 : Sg} (h : FrG g g1) : Dn g g1 := fun q hq => ⟨h.1 q (by omega) (by omega) (by omega) (by omega) (by omega), h.2.2 q (by omega) (by omega) (by omega)⟩
theorem FrE.g {g g1 : Sg} (h : FrE g g1) : FrG g g1 := ⟨fun q a c d e _ => h.1 q a c d e, h.2.1, h.2.2⟩
theorem FrG.go {g g1 g2 : Sg} (h : FrG g g1) (h1 : ∀ q, q ≠ 80 → g2.1 q = g1.1 q) (h2 : ∀ q, q ≠ 67 → q ≠ 78 → q ≠ 79 → g2.2 q = g1.2 q) : FrG g g2 :=
  ⟨fun q a c d e f => by rw [h1 q f]; exact h.1 q a c d e f, fun k hk => by rw [h1 67 (by decide)]; exact h.2.1 k hk, fun q a c d => (h2 q a c d).trans (h.2.2 q a c d)⟩
theorem FrG.m {g g1 : Sg} {F : Fam} {k : Lg} {C : Nat} {A : Option Value} (h : FrG (sI g 67 (upd (g.1 67) 0 (nI C))) g1) (hm : Hm g F) (hl : Hn g k) (hC : C = 0) {v : Option Value} (hv : v = A) {Z : Option Value} : mP C A Z g F k v g1 := by
  refine ⟨by rw [hv, if_pos hC], by rw [h.2.1 0 (by decide), sI_s, upd, if_pos rfl], h.hm (hm.thr _), h.hn hl, fun q hq => ?_⟩
  obtain ⟨a1, a2⟩ := h.dn q hq
  exact ⟨by rw [a1, sI_n (by omega)], a2⟩
theorem LM.g8 {g g' : Sg} {F : Fam} {e : Nat} (h : LM g F e) (h1 : ∀ q, q ≠ 80 → g'.1 q = g.1 q) (h2 : g'.2 67 15 = g.2 67 15) : LM g' F e := h.congr (fun k => by rw [h1 67 (by decide)]) h2 (fun q _ _ => h1 q (by omega))
/-- where a stem begins, as the reference finds it -/
def zbm (F : Fam) (e p : Nat) : Bool := if zt F e = 0 then zch F p e && zX F e p else decide (0 < zup F e (zt F e) (fun q => if q = e then 8 else 0) p)
def zsm (F : Fam) (e w p : Nat) : Bool := zbm F e p && (zl F e w && decide (0 < ztb F e (zPt F e p) w w))
theorem zsm_eq {F : Fam} (hW : zW F) {e w p : Nat} (he : e < zn F) (ht : zt F e ≤ 3) (hw : w < zn F) (hp : p < zn F) (hl : zl F e w = true) : zsm F e w p = (zbg F e p && zR F e p w) := by
  unfold zsm
  rw [hl]
  have h1 : decide (0 < ztb F e (zPt F e p) w w) = zR F e p w := by
    cases hr : zR F e p w with
    | true => exact decide_eq_true ((zst_iff hW hw hl).mpr hr)
    | false => exact decide_eq_false (fun h => by rw [(zst_iff hW hw hl).mp h] at hr; cases hr)
  rw [Bool.true_and, h1]
  cases hr : zR F e p w with
  | false => simp
  | true =>
    have hxw : zX F e w = true := by rw [zX_eq F e hw, hl]; rfl
    have hx : zX F e p = true := zR_X hW p (w + 1) w (Nat.lt_succ_self w) hw hr hxw
    rw [Bool.and_true, Bool.and_true]
    unfold zbm zbg
    by_cases h0 : zt F e = 0
    · rw [if_pos h0, if_pos h0, hx, Bool.and_true]
    · rw [if_neg h0, if_neg h0]
      cases ha : zan F (zt F e) e p with
      | true =>
        refine decide_eq_true ?_
        have h8 : 2 ^ zt F e ≤ 8 := by
          have : ∀ t, t ≤ 3 → 2 ^ t ≤ 8 := by decide
          exact this _ ht
        exact zup_ge hW hx (zt F e) e _ he (by rw [if_pos rfl]; exact h8) ha
      | false =>
        refine decide_eq_false (fun h => ?_)
        obtain ⟨q, hq, hq2, hq3⟩ := zup_ne (F := F) (e := e) (top := p) (zt F e) (fun q => if q = e then 8 else 0) hp (Nat.ne_of_gt h)
        by_cases hqe : q = e
        · rw [hqe, ha] at hq3; cases hq3
        · exact hq2 (by simp [hqe])
theorem zfst_ext {P Q : Nat → Bool} : ∀ {n : Nat}, (∀ q, q < n → P q = Q q) → zfst P n = zfst Q n
  | 0, _ => rfl
  | n + 1, h => by
    show (match zfst P n with | some i => some i | none => if P n = true then some n else none) = (match zfst Q n with | some i => some i | none => if Q n = true then some n else none)
    rw [zfst_ext (n := n) (fun q hq => h q (by omega)), h n (by omega)]
theorem zfst_cut {P : Nat → Bool} {k : Nat} : ∀ (d : Nat), (∀ q, k ≤ q → q < k + d → P q = false) → zfst P (k + d) = zfst P k
  | 0, _ => rfl
  | d + 1, h => by
    show (match zfst P (k + d) with | some i => some i | none => if P (k + d) = true then some (k + d) else none) = _
    rw [zfst_cut d (fun q h1 h2 => h q h1 (by omega)), h (k + d) (by omega) (by omega)]
    cases zfst P k <;> rfl
theorem zst_m {F : Fam} (hW : zW F) {e w : Nat} (he : e < zn F) (ht : zt F e ≤ 3) (hw : w < zn F) : zfst (zsm F e w) (zn F) = zst F e w := by
  unfold zst
  by_cases hl : zl F e w = true
  · rw [if_pos ⟨ht, hl⟩, show zn F = (w + 1) + (zn F - (w + 1)) by omega]
    rw [zfst_cut (P := zsm F e w) (k := w + 1) (zn F - (w + 1)) (fun q h1 h2 => by
      rw [zsm_eq hW he ht hw (by omega) hl]
      cases hr : zR F e q w with
      | false => simp
      | true => have := zR_le hW q (w + 1) w (Nat.lt_succ_self w) hw hr; omega)]
    exact zfst_ext (fun q hq => zsm_eq hW he ht hw (by omega) hl)
  · rw [if_neg (fun h => hl h.2)]
    have h1 : ∀ q, zsm F e w q = false := fun q => by
      unfold zsm
      have : zl F e w = false := by cases h : zl F e w with | false => rfl | true => exact absurd h hl
      rw [this]; simp
    have h2 : zfst (zsm F e w) (0 + zn F) = zfst (zsm F e w) 0 := zfst_cut (zn F) (fun q _ _ => h1 q)
    rw [Nat.zero_add] at h2
    rw [h2]; rfl
set_option maxRecDepth 100000 in
set_option maxHeartbeats 4000000 in
theorem ct_M_stem (l : Launch) (b : Nat) (id : Nat → ClassId) (D : va_G) {g : Sg} {F : Fam} (hV : zV F) (hm : Hm g F) {k : Lg} (hl : Hn g k) (x y : Int32) : qCT l b id D m_M_stem false [.ref (b + 67), .int x, .int y] 85 kT g 85 kT (mP (k_dead2 F x y) (some (.int (eO (zst F (zi x) (zi y))))) (some (.int 0)) g F k) (fun _ _ => False) := by
  have hW := hV.1
  have hn := hW.1
  have h31 : zn F < 2 ^ 31 := by omega
  refine qCT_of rfl (by decide) (Nat.le_of_ble_eq_true rfl) ?_
  show Vq l b id D m_M_stem false 85 kT _ 85 kT _ 85 kT 0 0 0 [(0, .ref (b + 67)), (1, .int x), (2, .int y)] [] g
  refine vq_aload_n d_M_stem_0 rfl ?_
  refine vq_aload_n d_M_stem_1 rfl ?_
  refine vq_iload_n d_M_stem_2 rfl ?_
  refine vq_callV (n := 1) (C := R_M) (T := T_M) _ _ d_M_stem_3 (ct_M_no l b id D hn hm x) w_733 w_735 sel_M_no w_736 w_7 rfl ⟨by decide, by decide, by decide +kernel⟩ ⟨by decide, by decide⟩ (by decide) rfl rfl rfl rfl (Nat.le_of_ble_eq_true rfl) rfl rfl rfl ⟨by decide, by decide⟩ (fun _ _ h => h.elim) (fun v3 g3 h3 => ?_)
  rw [h3.1, h3.2]
  refine vq_if_ne (tgt := 17) d_M_stem_6 (by decide) (fun h6 => ?_) (fun h6 => ?_)
  · rw [bI_n0, no_t, ← zok_u] at h6
    have hk : k_dead2 F x y = 1 := by unfold k_dead2; rw [if_neg (fun hh => h6 hh.1)]
    refine vq_iconst (v := 1) d_M_stem_17 (by decide) ?_
    refine vq_goto (tgt := 35) d_M_stem_18 (by decide) ?_
    refine vq_putI (k := 0) (C := R_M) (T := T_M) (ty := .int) t_M d_M_stem_35 rfl in_M w_655 ty_M nm_M (by decide) rfl (by decide) rfl (by decide +kernel) rfl rfl rfl ?_
    refine vq_aload_n d_M_stem_38 rfl ?_
    refine vq_getI (k := 0) (C := R_M) (T := T_M) d_M_stem_39 rfl in_M w_655 (by decide) rfl (by decide) rfl ?_
    refine vq_int (y := 1) rfl ?_
    refine vq_if_le (tgt := 47) d_M_stem_42 (by decide) (fun h42 => absurd h42 (by decide)) (fun h42 => ?_)
    refine vq_iconst (v := 0) d_M_stem_45 (by decide) ?_
    refine vq_iret d_M_stem_46 rfl (by decide) (by decide) rfl rfl ?_
    rw [hk]
    exact ⟨rfl, rfl, hm.thr _, hl, Dn.thr _⟩
  · rw [bI_0, no_f, ← zok_u] at h6
    refine vq_aload_n d_M_stem_9 rfl ?_
    refine vq_iload_n d_M_stem_10 rfl ?_
    refine vq_callV (n := 1) (C := R_M) (T := T_M) _ _ d_M_stem_11 (ct_M_no l b id D hn hm y) w_733 w_735 sel_M_no w_736 w_7 rfl ⟨by decide, by decide, by decide +kernel⟩ ⟨by decide, by decide⟩ (by decide) rfl rfl rfl rfl (Nat.le_of_ble_eq_true rfl) rfl rfl rfl ⟨by decide, by decide⟩ (fun _ _ h => h.elim) (fun v11 g11 h11 => ?_)
    rw [h11.1, h11.2]
    refine vq_if_eq (tgt := 21) d_M_stem_14 (by decide) (fun h14 => ?_) (fun h14 => ?_)
    · rw [bI_0, no_f, ← zok_u] at h14
      obtain ⟨p, hp, rfl⟩ := zok_p h6
      have hzp : zi (nI p) = p := zi_nI (by omega)
      obtain ⟨r, hr, rfl⟩ := zok_p h14
      have hzr : zi (nI r) = r := zi_nI (by omega)
      refine vq_aload_n d_M_stem_21 rfl ?_
      refine vq_getR (k := 5) (C := R_M) (T := T_M) d_M_stem_22 rfl in_M w_660 (by decide) rfl (by decide) rfl rfl ?_
      refine vq_iload_n d_M_stem_25 rfl ?_
      refine vq_iald d_M_stem_26 (by decide) rfl rfl (show _ < 20 by omega) ?_
      refine vq_int (y := eO (zd F p)) (hm.2.2.2.2.1 p hp) ?_
      refine vq_if_ge (tgt := 34) d_M_stem_27 (by decide) (fun h27 => ?_) (fun h27 => ?_)
      · rw [eO_nn (zd_lt hW hp)] at h27
        obtain ⟨u, hu⟩ := Option.ne_none_iff_exists'.mp h27
        have hk : k_dead2 F (nI p) (nI r) = 0 := by unfold k_dead2; rw [if_pos ⟨h6, h14⟩, hzp, hu]; rfl
        refine vq_iconst (v := 0) d_M_stem_34 (by decide) ?_
        refine vq_putI (k := 0) (C := R_M) (T := T_M) (ty := .int) t_M d_M_stem_35 rfl in_M w_655 ty_M nm_M (by decide) rfl (by decide) rfl (by decide +kernel) rfl rfl rfl ?_
        refine vq_aload_n d_M_stem_38 rfl ?_
        refine vq_getI (k := 0) (C := R_M) (T := T_M) d_M_stem_39 rfl in_M w_655 (by decide) rfl (by decide) rfl ?_
        refine vq_int (y := 0) rfl ?_
        refine vq_if_le (tgt := 47) d_M_stem_42 (by decide) (fun h42 => ?_) (fun h42 => absurd h42 (by decide))
        refine vq_aload_n d_M_stem_47 rfl ?_
        refine vq_iload_n d_M_stem_48 rfl ?_
        refine vq_callV (n := 1) (C := R_M) (T := T_M) _ _ d_M_stem_49 (ct_M_look l b id D hW (hm.thr 0) hp hu) w_786 w_788 sel_M_look w_789 w_7 rfl ⟨by decide, by decide, by decide +kernel⟩ ⟨by decide, by decide⟩ (by decide) rfl rfl rfl rfl (Nat.le_of_ble_eq_true rfl) rfl rfl rfl ⟨by decide, by decide⟩ (fun _ _ h => h.elim) (fun v49 g49 h49 => ?_)
        obtain ⟨e149, a1, a4⟩ := h49
        rw [e149]
        have hpr := zpr_lt (F := F) (e := p) hn
        have ht5 := zt_le F p
        have hF0 := a4.e.g
        refine vq_aload_n d_M_stem_52 rfl ?_
        refine vq_getI (k := 17) (C := R_M) (T := T_M) d_M_stem_53 rfl in_M w_672 (by decide) rfl (by decide) rfl ?_
        refine vq_int (y := nI (zt F p)) a1.2.2.1 ?_
        refine vq_iconst (v := 3) d_M_stem_56 (by decide) ?_
        refine vq_icmp_le (tgt := 62) d_M_stem_57 (by decide) (fun h57 => ?_) (fun h57 => ?_)
        · rw [show (3 : Int32) = nI 3 from rfl, nI_leI (by omega) (by decide)] at h57
          have loopC : ∀ (n9 : Nat) (i : Nat) (g1 : Sg), zn F - i = n9 → (i ≤ zn F ∧ LM g1 F p ∧ FrG (sI g 67 (upd (g.1 67) 0 0)) g1 ∧ (∀ q, q < zn F → g1.1 80 q = bI (zbm F p q)) ∧ zfst (zsm F p r) i = none) → Vq l b id D m_M_stem false 85 kT (mP (k_dead2 F (nI p) (nI r)) (some (.int (eO (zst F (zi (nI p)) (zi (nI r)))))) (some (.int 0)) g F k) 85 kT (fun _ _ => False) 85 kT 0 0 206 [(4, .int (nI i)), (3, .ref (b + 80)), (0, .ref (b + 67)), (1, .int (nI p)), (2, .int (nI r))] [] g1 := by
            intro n9
            induction n9 using Nat.strongRecOn with
            | ind n9 ih =>
            intro i g1 hm9 hI
            have hle := hI.1
            have hm1 : Hm g1 F := hI.2.2.1.hm (hm.thr 0)
            refine vq_iload d_M_stem_206 rfl ?_
            refine vq_aload_n d_M_stem_208 rfl ?_
            refine vq_getI (k := 1) (C := R_M) (T := T_M) d_M_stem_209 rfl in_M w_656 (by decide) rfl (by decide) rfl ?_
            refine vq_int (y := nI (zn F)) hm1.1 ?_
            refine vq_icmp_ge (tgt := 261) d_M_stem_212 (by decide) (fun h212 => ?_) (fun h212 => ?_)
            · have hi : i = zn F := by
                rw [nI_leI (by omega) (by omega)] at h212
                omega
              subst hi
              refine vq_iconst (v := -1) d_M_stem_261 (by decide) ?_
              refine vq_iret d_M_stem_262 rfl (by decide) (by decide) rfl rfl ?_
              refine FrG.m (C := k_dead2 F (nI p) (nI r)) (by rw [hk]; exact hI.2.2.1) hm hl hk ?_
              rw [hzp, hzr, ← zst_m hW hp h57 hr, hI.2.2.2.2]
              rfl
            · have hi : i < zn F := by
                rw [nI_leI (by omega) (by omega)] at h212
                omega
              refine vq_aload_n d_M_stem_215 rfl ?_
              refine vq_iload d_M_stem_216 rfl ?_
              refine vq_zald d_M_stem_218 (by decide) rfl rfl (show _ < 20 by omega) ?_
              refine vq_int (y := bI (zbm F p i)) (hI.2.2.2.1 i hi) ?_
              refine vq_if_eq (tgt := 255) d_M_stem_219 (by decide) (fun h219 => ?_) (fun h219 => ?_)
              · rw [bI_0] at h219
                have hno : zsm F p r i = false := by unfold zsm; rw [h219]; rfl
                refine vq_iinc (k := 0) (lv' := [(4, _), (3, _), (0, _), (1, _), (2, _)]) d_M_stem_255 rfl (ip1 i) (by decide) rfl ?_
                refine vq_goto (tgt := 206) d_M_stem_258 (by decide) ?_
                exact ih (zn F - (i + 1)) (by omega) (i + 1) _ rfl ⟨by omega, hI.2.1, hI.2.2.1, hI.2.2.2.1, zfst_none hI.2.2.2.2 hno⟩
              · rw [bI_n0] at h219
                refine vq_aload_n d_M_stem_222 rfl ?_
                refine vq_callV (n := 0) (C := R_M) (T := T_M) _ _ d_M_stem_223 (ct_M_clear l b id D) w_798 w_800 sel_M_clear w_801 w_7 rfl ⟨by decide, by decide, by decide +kernel⟩ ⟨by decide, by decide⟩ (by decide) rfl rfl rfl rfl (Nat.le_of_ble_eq_true rfl) rfl rfl rfl ⟨by decide, by decide⟩ (fun _ _ h => h.elim) (fun v223 g223 h223 => ?_)
                obtain ⟨e1223, b1, b2, b3, b4⟩ := h223
                rw [e1223]
                refine vq_aload_n d_M_stem_226 rfl ?_
                refine vq_getR (k := 13) (C := R_M) (T := T_M) d_M_stem_227 rfl in_M w_668 (by decide) rfl (by decide) rfl rfl ?_
                refine vq_iload d_M_stem_230 rfl ?_
                refine vq_aload_n d_M_stem_232 rfl ?_
                refine vq_getJ (k := 15) (C := R_M) (T := T_M) d_M_stem_233 rfl in_M w_670 (by decide) rfl (by decide) rfl ?_
                refine vq_long (y := lN (zpr F p)) (by rw [b2 67 (by decide) (by decide)]; exact hI.2.1.2.1) ?_
                refine vq_last d_M_stem_236 rfl (by decide) rfl rfl (show _ < 80 by omega) ?_
                have hm5 : Hm (sJ g223 78 (vp_updL (g223.2 78) i (lN (zpr F p)))) F := hm1.congr (by show g223.1 67 1 = _; rw [b1]) (fun q _ _ => by show g223.1 q = _; rw [b1])
                have hL5 : LM (sJ g223 78 (vp_updL (g223.2 78) i (lN (zpr F p)))) F p := (hI.2.1.go b1 (by rw [b2 67 (by decide) (by decide)])).go rfl (by rw [sJ_n (by decide)])
                have hp5 : ∀ q, q < zn F → (sJ g223 78 (vp_updL (g223.2 78) i (lN (zpr F p)))).2 78 q = lN (zPt F p i q) := fun q hq => by
                  rw [sJ_s, vp_updL]
                  unfold zPt
                  by_cases ep : q = i
                  · rw [if_pos ep, if_pos ep]
                  · rw [if_neg ep, if_neg ep]; exact b3 q (by omega)
                refine vq_aload_n d_M_stem_237 rfl ?_
                refine vq_callV (n := 0) (C := R_M) (T := T_M) _ _ d_M_stem_238 (ct_M_descend l b id D hW (e := p) hm5 hL5.row (P := zPt F p i) (T := fun _ => 0) (by unfold zPt; rw [zsum_pt, if_pos hi]; omega) hp5 (fun q hq => by rw [sJ_n (by decide)]; exact b4 q (by omega))) w_809 w_811 sel_M_descend w_812 w_7 rfl ⟨by decide, by decide, by decide +kernel⟩ ⟨by decide, by decide⟩ (by decide) rfl rfl rfl rfl (Nat.le_of_ble_eq_true rfl) rfl rfl rfl ⟨by decide, by decide⟩ (fun _ _ h => h.elim) (fun v238 g238 h238 => ?_)
                obtain ⟨e1238, c1, c2, c3⟩ := h238
                rw [e1238]
                have hta : zta F p (zPt F p i) (fun _ => 0) r = (if zl F p r = true then ztb F p (zPt F p i) r r else 0) := by unfold zta; exact Nat.zero_add _
                have ht63 : zta F p (zPt F p i) (fun _ => 0) r < 2 ^ 63 := by
                  rw [hta]
                  have h9 : ztb F p (zPt F p i) r r ≤ zsum (zPt F p i) (zn F) := ztb_le (Nat.le_refl r) hr
                  have h8 : zsum (zPt F p i) (zn F) = zpr F p := by unfold zPt; rw [zsum_pt, if_pos hi]
                  split <;> omega
                have hpos : decide (0 < zta F p (zPt F p i) (fun _ => 0) r) = (zl F p r && decide (0 < ztb F p (zPt F p i) r r)) := by
                  rw [hta]
                  cases hl9 : zl F p r <;> simp
                refine vq_aload_n d_M_stem_241 rfl ?_
                refine vq_getR (k := 14) (C := R_M) (T := T_M) d_M_stem_242 rfl in_M w_669 (by decide) rfl (by decide) rfl rfl ?_
                refine vq_iload_n d_M_stem_245 rfl ?_
                refine vq_lald d_M_stem_246 (by decide) rfl rfl (show _ < 20 by omega) ?_
                refine vq_long (y := lN (zta F p (zPt F p i) (fun _ => 0) r)) (c3 r hr) ?_
                refine vq_lconst (v := 0) d_M_stem_247 rfl ?_
                refine vq_lcmp d_M_stem_248 ?_
                refine vq_if_le (tgt := 255) d_M_stem_249 (by decide) (fun h249 => ?_) (fun h249 => ?_)
                · rw [lpos ht63] at h249
                  have hno : zsm F p r i = false := by unfold zsm; rw [h219, ← hpos, h249]; rfl
                  refine vq_iinc (k := 0) (lv' := [(4, _), (3, _), (0, _), (1, _), (2, _)]) d_M_stem_255 rfl (ip1 i) (by decide) rfl ?_
                  refine vq_goto (tgt := 206) d_M_stem_258 (by decide) ?_
                  have hg1 : ∀ q, g238.1 q = g1.1 q := fun q => by rw [c1]; show g223.1 q = _; rw [b1]
                  exact ih (zn F - (i + 1)) (by omega) (i + 1) _ rfl ⟨by omega, hL5.go c1 (by rw [c2 67 (by decide) (by decide)]), hI.2.2.1.go (fun q _ => hg1 q) (fun q h1 h2 h3 => by rw [c2 q h2 h3, sJ_n h2, b2 q h2 h3]), fun q hq => by rw [hg1]; exact hI.2.2.2.1 q hq, zfst_none hI.2.2.2.2 hno⟩
                · rw [lpos ht63] at h249
                  have hyes : zsm F p r i = true := by unfold zsm; rw [h219, ← hpos, decide_eq_true (by omega)]; rfl
                  refine vq_iload d_M_stem_252 rfl ?_
                  refine vq_iret d_M_stem_254 rfl (by decide) (by decide) rfl rfl ?_
                  have hg1 : ∀ q, g238.1 q = g1.1 q := fun q => by rw [c1]; show g223.1 q = _; rw [b1]
                  refine FrG.m (C := k_dead2 F (nI p) (nI r)) (by rw [hk]; exact hI.2.2.1.go (fun q _ => hg1 q) (fun q h1 h2 h3 => by rw [c2 q h2 h3, sJ_n h2, b2 q h2 h3])) hm hl hk ?_
                  have h9 := zfst_on (zfst_some hI.2.2.2.2 hyes) (zn F - (i + 1))
                  rw [show i + 1 + (zn F - (i + 1)) = zn F by omega, zst_m hW hp h57 hr] at h9
                  rw [hzp, hzr, h9]
                  rfl
          have loopB : ∀ (n9 : Nat) (i : Nat) (g1 : Sg), zn F - i = n9 → (i ≤ zn F ∧ LM g1 F p ∧ FrG (sI g 67 (upd (g.1 67) 0 0)) g1 ∧ (∀ q, q < zn F → g1.2 78 q = lN (zup F p (zt F p) (fun q => if q = p then 8 else 0) q)) ∧ ¬ zt F p = 0 ∧ (∀ q, q < i → g1.1 80 q = bI (zbm F p q))) → Vq l b id D m_M_stem false 85 kT (mP (k_dead2 F (nI p) (nI r)) (some (.int (eO (zst F (zi (nI p)) (zi (nI r)))))) (some (.int 0)) g F k) 85 kT (fun _ _ => False) 85 kT 0 0 167 [(4, .int (nI i)), (3, .ref (b + 80)), (0, .ref (b + 67)), (1, .int (nI p)), (2, .int (nI r))] [] g1 := by
            intro n9
            induction n9 using Nat.strongRecOn with
            | ind n9 ih =>
            intro i g1 hm9 hI
            have hle := hI.1
            have hm1 : Hm g1 F := hI.2.2.1.hm (hm.thr 0)
            refine vq_iload d_M_stem_167 rfl ?_
            refine vq_aload_n d_M_stem_169 rfl ?_
            refine vq_getI (k := 1) (C := R_M) (T := T_M) d_M_stem_170 rfl in_M w_656 (by decide) rfl (by decide) rfl ?_
            refine vq_int (y := nI (zn F)) hm1.1 ?_
            refine vq_icmp_ge (tgt := 203) d_M_stem_173 (by decide) (fun h173 => ?_) (fun h173 => ?_)
            · have hi : i = zn F := by
                rw [nI_leI (by omega) (by omega)] at h173
                omega
              subst hi
              refine vq_iconst (v := 0) d_M_stem_203 (by decide) ?_
              refine vq_istore (lv' := [(4, _), (3, _), (0, _), (1, _), (2, _)]) d_M_stem_204 (by decide) rfl ?_
              exact loopC (zn F) 0 _ rfl ⟨by omega, hI.2.1, hI.2.2.1, hI.2.2.2.2.2, rfl⟩
            · have hi : i < zn F := by
                rw [nI_leI (by omega) (by omega)] at h173
                omega
              have hu63 : zup F p (zt F p) (fun q => if q = p then 8 else 0) i < 2 ^ 63 := by
                have h9 := zup_le hW (e := p) (zt F p) (fun q => if q = p then 8 else 0)
                rw [zsum_pt, if_pos hp] at h9
                have h8 := zsum_one (f := zup F p (zt F p) (fun q => if q = p then 8 else 0)) hi
                omega
              refine vq_aload_n d_M_stem_176 rfl ?_
              refine vq_iload d_M_stem_177 rfl ?_
              refine vq_aload_n d_M_stem_179 rfl ?_
              refine vq_getR (k := 13) (C := R_M) (T := T_M) d_M_stem_180 rfl in_M w_668 (by decide) rfl (by decide) rfl rfl ?_
              refine vq_iload d_M_stem_183 rfl ?_
              refine vq_lald d_M_stem_185 (by decide) rfl rfl (show _ < 80 by omega) ?_
              refine vq_long (y := lN (zup F p (zt F p) (fun q => if q = p then 8 else 0) i)) (hI.2.2.2.1 i hi) ?_
              refine vq_lconst (v := 0) d_M_stem_186 rfl ?_
              refine vq_lcmp d_M_stem_187 ?_
              refine vq_if_le (tgt := 195) d_M_stem_188 (by decide) (fun h188 => ?_) (fun h188 => ?_)
              · rw [lpos hu63] at h188
                have hv9 : zbm F p i = false := by unfold zbm; rw [if_neg hI.2.2.2.2.1]; exact decide_eq_false (by omega)
                refine vq_iconst (v := 0) d_M_stem_195 (by decide) ?_
                refine vq_zast d_M_stem_196 rfl (by decide) rfl rfl (show _ < 20 by omega) (by first | exact Or.inl rfl | exact Or.inr rfl | assumption) ?_
                refine vq_iinc (k := 0) (lv' := [(4, _), (3, _), (0, _), (1, _), (2, _)]) d_M_stem_197 rfl (ip1 i) (by decide) rfl ?_
                refine vq_goto (tgt := 167) d_M_stem_200 (by decide) ?_
                refine ih (zn F - (i + 1)) (by omega) (i + 1) _ rfl ⟨by omega, hI.2.1.g8 (fun q hq => sI_n hq) rfl, hI.2.2.1.go (fun q hq => sI_n hq) (fun q _ _ _ => rfl), hI.2.2.2.1, hI.2.2.2.2.1, fun q hq => ?_⟩
                rw [sI_s, upd]
                by_cases e1 : q = i
                · rw [if_pos e1, e1, hv9]; rfl
                · rw [if_neg e1]; exact hI.2.2.2.2.2 q (by omega)
              · rw [lpos hu63] at h188
                have hv9 : zbm F p i = true := by unfold zbm; rw [if_neg hI.2.2.2.2.1]; exact decide_eq_true (by omega)
                refine vq_iconst (v := 1) d_M_stem_191 (by decide) ?_
                refine vq_goto (tgt := 196) d_M_stem_192 (by decide) ?_
                refine vq_zast d_M_stem_196 rfl (by decide) rfl rfl (show _ < 20 by omega) (by first | exact Or.inl rfl | exact Or.inr rfl | assumption) ?_
                refine vq_iinc (k := 0) (lv' := [(4, _), (3, _), (0, _), (1, _), (2, _)]) d_M_stem_197 rfl (ip1 i) (by decide) rfl ?_
                refine vq_goto (tgt := 167) d_M_stem_200 (by decide) ?_
                refine ih (zn F - (i + 1)) (by omega) (i + 1) _ rfl ⟨by omega, hI.2.1.g8 (fun q hq => sI_n hq) rfl, hI.2.2.1.go (fun q hq => sI_n hq) (fun q _ _ _ => rfl), hI.2.2.2.1, hI.2.2.2.2.1, fun q hq => ?_⟩
                rw [sI_s, upd]
                by_cases e1 : q = i
                · rw [if_pos e1, e1, hv9]; rfl
                · rw [if_neg e1]; exact hI.2.2.2.2.2 q (by omega)
          have loopA : ∀ (n9 : Nat) (i : Nat) (g1 : Sg), 20 - i = n9 → (i ≤ 20 ∧ LM g1 F p ∧ FrG (sI g 67 (upd (g.1 67) 0 0)) g1 ∧ (∀ q, q < i → g1.1 80 q = bI (decide (q < zn F) && decide (zt F p = 0) && zch F q p && zX F p q))) → Vq l b id D m_M_stem false 85 kT (mP (k_dead2 F (nI p) (nI r)) (some (.int (eO (zst F (zi (nI p)) (zi (nI r)))))) (some (.int 0)) g F k) 85 kT (fun _ _ => False) 85 kT 0 0 70 [(4, .int (nI i)), (3, .ref (b + 80)), (0, .ref (b + 67)), (1, .int (nI p)), (2, .int (nI r))] [] g1 := by
            intro n9
            induction n9 using Nat.strongRecOn with
            | ind n9 ih =>
            intro i g1 hm9 hI
            have hle := hI.1
            have hm1 : Hm g1 F := hI.2.2.1.hm (hm.thr 0)
            refine vq_iload d_M_stem_70 rfl ?_
            refine vq_bipush (v := 20) d_M_stem_72 (by decide) ?_
            refine vq_icmp_ge (tgt := 128) d_M_stem_74 (by decide) (fun h74 => ?_) (fun h74 => ?_)
            · have hi : i = 20 := by
                rw [show (20 : Int32) = nI 20 from rfl, nI_leI (by decide) (by omega)] at h74
                omega
              subst hi
              refine vq_aload_n d_M_stem_128 rfl ?_
              refine vq_getI (k := 17) (C := R_M) (T := T_M) d_M_stem_129 rfl in_M w_672 (by decide) rfl (by decide) rfl ?_
              refine vq_int (y := nI (zt F p)) hI.2.1.2.2.1 ?_
              refine vq_if_le (tgt := 203) d_M_stem_132 (by decide) (fun h132 => ?_) (fun h132 => ?_)
              · rw [nI_n0 (by omega)] at h132
                refine vq_iconst (v := 0) d_M_stem_203 (by decide) ?_
                refine vq_istore (lv' := [(4, _), (3, _), (0, _), (1, _), (2, _)]) d_M_stem_204 (by decide) rfl ?_
                refine loopC (zn F) 0 _ rfl ⟨by omega, hI.2.1, hI.2.2.1, fun q hq => ?_, rfl⟩
                rw [hI.2.2.2 q (by omega)]
                unfold zbm
                rw [if_pos h132, decide_eq_true hq, decide_eq_true h132]
                rfl
              · rw [nI_n0 (by omega)] at h132
                refine vq_aload_n d_M_stem_135 rfl ?_
                refine vq_callV (n := 0) (C := R_M) (T := T_M) _ _ d_M_stem_136 (ct_M_clear l b id D) w_798 w_800 sel_M_clear w_801 w_7 rfl ⟨by decide, by decide, by decide +kernel⟩ ⟨by decide, by decide⟩ (by decide) rfl rfl rfl rfl (Nat.le_of_ble_eq_true rfl) rfl rfl rfl ⟨by decide, by decide⟩ (fun _ _ h => h.elim) (fun v136 g136 h136 => ?_)
                obtain ⟨e1136, b1, b2, b3, b4⟩ := h136
                rw [e1136]
                have hL2 : LM g136 F p := hI.2.1.go b1 (by rw [b2 67 (by decide) (by decide)])
                refine vq_aload_n d_M_stem_139 rfl ?_
                refine vq_getR (k := 13) (C := R_M) (T := T_M) d_M_stem_140 rfl in_M w_668 (by decide) rfl (by decide) rfl rfl ?_
                refine vq_bipush (v := 20) d_M_stem_143 (by decide) ?_
                refine vq_aload_n d_M_stem_145 rfl ?_
                refine vq_getI (k := 17) (C := R_M) (T := T_M) d_M_stem_146 rfl in_M w_672 (by decide) rfl (by decide) rfl ?_
                refine vq_int (y := nI (zt F p)) (by first | exact hL2.2.2.1 | exact hL3.2.2.1) ?_
                refine vq_imul d_M_stem_149 ?_
                refine vq_iload_n d_M_stem_150 rfl ?_
                refine vq_iadd d_M_stem_151 ?_
                rw [ix20m]
                refine vq_ldc2 d_M_stem_152 w_832 ?_
                refine vq_last d_M_stem_155 rfl (by decide) rfl rfl (show _ < 80 by omega) ?_
                have hm4 : Hm (sJ g136 78 (vp_updL (g136.2 78) (20 * zt F p + p) 8)) F := hm1.congr (by show g136.1 67 1 = _; rw [b1]) (fun q _ _ => by show g136.1 q = _; rw [b1])
                have hL4 : LM (sJ g136 78 (vp_updL (g136.2 78) (20 * zt F p + p) 8)) F p := hL2.go rfl (by rw [sJ_n (by decide)])
                have hv4 : ∀ q, q < zn F → (sJ g136 78 (vp_updL (g136.2 78) (20 * zt F p + p) 8)).2 78 (20 * zt F p + q) = lN ((fun q => if q = p then 8 else 0) q) := fun q hq => by
                  rw [sJ_s, vp_updL]
                  by_cases ep : q = p
                  · rw [if_pos (by omega)]; simp only [ep, if_true]; rfl
                  · rw [if_neg (by omega)]; simp only [ep, if_false]; exact b3 _ (by omega)
                have hz4 : ∀ j, j < zt F p → ∀ q, q < zn F → (sJ g136 78 (vp_updL (g136.2 78) (20 * zt F p + p) 8)).2 78 (20 * j + q) = 0 := fun j hj q hq => by
                  rw [sJ_s, vp_updL, if_neg (by omega)]; exact b3 _ (by omega)
                have hL3 : LM (sJ g136 78 (vp_updL (g136.2 78) (20 * zt F p + p) 8)) F p := hL4
                refine vq_aload_n d_M_stem_156 rfl ?_
                refine vq_aload_n d_M_stem_157 rfl ?_
                refine vq_getI (k := 17) (C := R_M) (T := T_M) d_M_stem_158 rfl in_M w_672 (by decide) rfl (by decide) rfl ?_
                refine vq_int (y := nI (zt F p)) (by first | exact hL2.2.2.1 | exact hL3.2.2.1) ?_
                refine vq_callV (n := 1) (C := R_M) (T := T_M) _ _ d_M_stem_161 (ct_M_climb l b id D hW hm4 (e := p) (t := zt F p) (v := fun q => if q = p then 8 else 0) (by omega) hL4.2.2.2.2.2.2 (by rw [zsum_pt, if_pos hp]; decide) hv4 hz4) w_805 w_807 sel_M_climb w_808 w_7 rfl ⟨by decide, by decide, by decide +kernel⟩ ⟨by decide, by decide⟩ (by decide) rfl rfl rfl rfl (Nat.le_of_ble_eq_true rfl) rfl rfl rfl ⟨by decide, by decide⟩ (fun _ _ h => h.elim) (fun v161 g161 h161 => ?_)
                obtain ⟨e1161, d1, d2, d3⟩ := h161
                rw [e1161]
                refine vq_iconst (v := 0) d_M_stem_164 (by decide) ?_
                refine vq_istore (lv' := [(4, _), (3, _), (0, _), (1, _), (2, _)]) d_M_stem_165 (by decide) rfl ?_
                exact loopB (zn F) 0 _ rfl ⟨by omega, hL4.go d1 (by rw [d2 67 (by decide)]), hI.2.2.1.go (fun q _ => by rw [d1]; show g136.1 q = _; rw [b1]) (fun q h1 h2 h3 => by rw [d2 q h2, sJ_n h2, b2 q h2 h3]), d3, h132, fun q hq => by omega⟩
            · have hi20 : i < 20 := by
                rw [show (20 : Int32) = nI 20 from rfl, nI_leI (by decide) (by omega)] at h74
                omega
              refine vq_aload_n d_M_stem_77 rfl ?_
              refine vq_iload d_M_stem_78 rfl ?_
              refine vq_iload d_M_stem_80 rfl ?_
              refine vq_aload_n d_M_stem_82 rfl ?_
              refine vq_getI (k := 1) (C := R_M) (T := T_M) d_M_stem_83 rfl in_M w_656 (by decide) rfl (by decide) rfl ?_
              refine vq_int (y := nI (zn F)) hm1.1 ?_
              refine vq_icmp_ge (tgt := 120) d_M_stem_86 (by decide) (fun h86 => ?_) (fun h86 => ?_)
              · rw [nI_leI (by omega) (by omega)] at h86
                have hv9 : (decide (i < zn F) && decide (zt F p = 0) && zch F i p && zX F p i) = false := by rw [decide_eq_false (by omega)]; rfl
                refine vq_iconst (v := 0) d_M_stem_120 (by decide) ?_
                refine vq_zast d_M_stem_121 rfl (by decide) rfl rfl (show _ < 20 by omega) (by first | exact Or.inl rfl | exact Or.inr rfl | assumption) ?_
                refine vq_iinc (k := 0) (lv' := [(4, _), (3, _), (0, _), (1, _), (2, _)]) d_M_stem_122 rfl (ip1 i) (by decide) rfl ?_
                refine vq_goto (tgt := 70) d_M_stem_125 (by decide) ?_
                refine ih (20 - (i + 1)) (by omega) (i + 1) _ rfl ⟨by omega, hI.2.1.g8 (fun q hq => sI_n hq) rfl, hI.2.2.1.go (fun q hq => sI_n hq) (fun q _ _ _ => rfl), fun q hq => ?_⟩
                rw [sI_s, upd]
                by_cases e1 : q = i
                · rw [if_pos e1, e1, hv9]; rfl
                · rw [if_neg e1]; exact hI.2.2.2 q (by omega)
              · rw [nI_leI (by omega) (by omega)] at h86
                have hi : i < zn F := by omega
                refine vq_aload_n d_M_stem_89 rfl ?_
                refine vq_getI (k := 17) (C := R_M) (T := T_M) d_M_stem_90 rfl in_M w_672 (by decide) rfl (by decide) rfl ?_
                refine vq_int (y := nI (zt F p)) hI.2.1.2.2.1 ?_
                refine vq_if_ne (tgt := 120) d_M_stem_93 (by decide) (fun h93 => ?_) (fun h93 => ?_)
                · rw [show (0 : Int32) = nI 0 from rfl, nI_eq (by omega) (by decide)] at h93
                  have hv9 : (decide (i < zn F) && decide (zt F p = 0) && zch F i p && zX F p i) = false := by rw [decide_eq_false h93, Bool.and_false]; rfl
                  refine vq_iconst (v := 0) d_M_stem_120 (by decide) ?_
                  refine vq_zast d_M_stem_121 rfl (by decide) rfl rfl (show _ < 20 by omega) (by first | exact Or.inl rfl | exact Or.inr rfl | assumption) ?_
                  refine vq_iinc (k := 0) (lv' := [(4, _), (3, _), (0, _), (1, _), (2, _)]) d_M_stem_122 rfl (ip1 i) (by decide) rfl ?_
                  refine vq_goto (tgt := 70) d_M_stem_125 (by decide) ?_
                  refine ih (20 - (i + 1)) (by omega) (i + 1) _ rfl ⟨by omega, hI.2.1.g8 (fun q hq => sI_n hq) rfl, hI.2.2.1.go (fun q hq => sI_n hq) (fun q _ _ _ => rfl), fun q hq => ?_⟩
                  rw [sI_s, upd]
                  by_cases e1 : q = i
                  · rw [if_pos e1, e1, hv9]; rfl
                  · rw [if_neg e1]; exact hI.2.2.2 q (by omega)
                · rw [show (0 : Int32) = nI 0 from rfl, nI_eq (by omega) (by decide)] at h93
                  refine vq_aload_n d_M_stem_96 rfl ?_
                  refine vq_iload d_M_stem_97 rfl ?_
                  refine vq_iload_n d_M_stem_99 rfl ?_
                  refine vq_callV (n := 2) (C := R_M) (T := T_M) _ _ d_M_stem_100 (ct_M_isChild l b id D hW hm1 hi hp) w_790 w_792 sel_M_isChild w_793 w_7 rfl ⟨by decide, by decide, by decide +kernel⟩ ⟨by decide, by decide⟩ (by decide) rfl rfl rfl rfl (Nat.le_of_ble_eq_true rfl) rfl rfl rfl ⟨by decide, by decide⟩ (fun _ _ h => h.elim) (fun v100 g100 h100 => ?_)
                  rw [h100.1, h100.2]
                  refine vq_if_eq (tgt := 120) d_M_stem_103 (by decide) (fun h103 => ?_) (fun h103 => ?_)
                  · rw [bI_0] at h103
                    have hv9 : (decide (i < zn F) && decide (zt F p = 0) && zch F i p && zX F p i) = false := by rw [h103, Bool.and_false]; rfl
                    refine vq_iconst (v := 0) d_M_stem_120 (by decide) ?_
                    refine vq_zast d_M_stem_121 rfl (by decide) rfl rfl (show _ < 20 by omega) (by first | exact Or.inl rfl | exact Or.inr rfl | assumption) ?_
                    refine vq_iinc (k := 0) (lv' := [(4, _), (3, _), (0, _), (1, _), (2, _)]) d_M_stem_122 rfl (ip1 i) (by decide) rfl ?_
                    refine vq_goto (tgt := 70) d_M_stem_125 (by decide) ?_
                    refine ih (20 - (i + 1)) (by omega) (i + 1) _ rfl ⟨by omega, hI.2.1.g8 (fun q hq => sI_n hq) rfl, hI.2.2.1.go (fun q hq => sI_n hq) (fun q _ _ _ => rfl), fun q hq => ?_⟩
                    rw [sI_s, upd]
                    by_cases e1 : q = i
                    · rw [if_pos e1, e1, hv9]; rfl
                    · rw [if_neg e1]; exact hI.2.2.2 q (by omega)
                  · rw [bI_n0] at h103
                    refine vq_aload_n d_M_stem_106 rfl ?_
                    refine vq_getR (k := 12) (C := R_M) (T := T_M) d_M_stem_107 rfl in_M w_667 (by decide) rfl (by decide) rfl rfl ?_
                    refine vq_iload d_M_stem_110 rfl ?_
                    refine vq_zald d_M_stem_112 (by decide) rfl rfl (show _ < 80 by omega) ?_
                    refine vq_int (y := bI (zX F p i)) (hI.2.1.row.2.2 i hi) ?_
                    refine vq_if_eq (tgt := 120) d_M_stem_113 (by decide) (fun h113 => ?_) (fun h113 => ?_)
                    · rw [bI_0] at h113
                      have hv9 : (decide (i < zn F) && decide (zt F p = 0) && zch F i p && zX F p i) = false := by rw [h113, Bool.and_false]
                      refine vq_iconst (v := 0) d_M_stem_120 (by decide) ?_
                      refine vq_zast d_M_stem_121 rfl (by decide) rfl rfl (show _ < 20 by omega) (by first | exact Or.inl rfl | exact Or.inr rfl | assumption) ?_
                      refine vq_iinc (k := 0) (lv' := [(4, _), (3, _), (0, _), (1, _), (2, _)]) d_M_stem_122 rfl (ip1 i) (by decide) rfl ?_
                      refine vq_goto (tgt := 70) d_M_stem_125 (by decide) ?_
                      refine ih (20 - (i + 1)) (by omega) (i + 1) _ rfl ⟨by omega, hI.2.1.g8 (fun q hq => sI_n hq) rfl, hI.2.2.1.go (fun q hq => sI_n hq) (fun q _ _ _ => rfl), fun q hq => ?_⟩
                      rw [sI_s, upd]
                      by_cases e1 : q = i
                      · rw [if_pos e1, e1, hv9]; rfl
                      · rw [if_neg e1]; exact hI.2.2.2 q (by omega)
                    · rw [bI_n0] at h113
                      have hv9 : (decide (i < zn F) && decide (zt F p = 0) && zch F i p && zX F p i) = true := by rw [h113, h103, decide_eq_true h93, decide_eq_true hi]; rfl
                      refine vq_iconst (v := 1) d_M_stem_116 (by decide) ?_
                      refine vq_goto (tgt := 121) d_M_stem_117 (by decide) ?_
                      refine vq_zast d_M_stem_121 rfl (by decide) rfl rfl (show _ < 20 by omega) (by first | exact Or.inl rfl | exact Or.inr rfl | assumption) ?_
                      refine vq_iinc (k := 0) (lv' := [(4, _), (3, _), (0, _), (1, _), (2, _)]) d_M_stem_122 rfl (ip1 i) (by decide) rfl ?_
                      refine vq_goto (tgt := 70) d_M_stem_125 (by decide) ?_
                      refine ih (20 - (i + 1)) (by omega) (i + 1) _ rfl ⟨by omega, hI.2.1.g8 (fun q hq => sI_n hq) rfl, hI.2.2.1.go (fun q hq => sI_n hq) (fun q _ _ _ => rfl), fun q hq => ?_⟩
                      rw [sI_s, upd]
                      by_cases e1 : q = i
                      · rw [if_pos e1, e1, hv9]; rfl
                      · rw [if_neg e1]; exact hI.2.2.2 q (by omega)
          refine vq_aload_n d_M_stem_62 rfl ?_
          refine vq_getR (k := 19) (C := R_M) (T := T_M) d_M_stem_63 rfl in_M w_674 (by decide) rfl (by decide) rfl rfl ?_
          refine vq_astore_n (lv' := [(3, _), (0, _), (1, _), (2, _)]) d_M_stem_66 (by decide) rfl ?_
          refine vq_iconst (v := 0) d_M_stem_67 (by decide) ?_
          refine vq_istore (lv' := [(4, _), (3, _), (0, _), (1, _), (2, _)]) d_M_stem_68 (by decide) rfl ?_
          exact loopA 20 0 _ rfl ⟨by decide, a1, hF0, fun q hq => by omega⟩
        · rw [show (3 : Int32) = nI 3 from rfl, nI_leI (by omega) (by decide)] at h57
          refine vq_iconst (v := -1) d_M_stem_60 (by decide) ?_
          refine vq_iret d_M_stem_61 rfl (by decide) (by decide) rfl rfl ?_
          refine FrE.m (C := k_dead2 F (nI p) (nI r)) (by rw [hk]; exact a4.e) hm hl hk ?_
          rw [hzp, hzr]
          unfold zst
          rw [if_neg (fun h => h57 h.1)]
          rfl
      · rw [eO_nn (zd_lt hW hp)] at h27
        have hk : k_dead2 F (nI p) (nI r) = 2 := by unfold k_dead2; rw [if_pos ⟨h6, h14⟩, hzp, Decidable.not_not.mp h27]; rfl
        refine vq_iconst (v := 2) d_M_stem_30 (by decide) ?_
        refine vq_goto (tgt := 35) d_M_stem_31 (by decide) ?_
        refine vq_putI (k := 0) (C := R_M) (T := T_M) (ty := .int) t_M d_M_stem_35 rfl in_M w_655 ty_M nm_M (by decide) rfl (by decide) rfl (by decide +kernel) rfl rfl rfl ?_
        refine vq_aload_n d_M_stem_38 rfl ?_
        refine vq_getI (k := 0) (C := R_M) (T := T_M) d_M_stem_39 rfl in_M w_655 (by decide) rfl (by decide) rfl ?_
        refine vq_int (y := 2) rfl ?_
        refine vq_if_le (tgt := 47) d_M_stem_42 (by decide) (fun h42 => absurd h42 (by decide)) (fun h42 => ?_)
        refine vq_iconst (v := 0) d_M_stem_45 (by decide) ?_
        refine vq_iret d_M_stem_46 rfl (by decide) (by decide) rfl rfl ?_
        rw [hk]
        exact ⟨rfl, rfl, hm.thr _, hl, Dn.thr _⟩
    · rw [bI_n0, no_t, ← zok_u] at h14
      have hk : k_dead2 F x y = 1 := by unfold k_dead2; rw [if_neg (fun hh => h14 hh.2)]
      refine vq_iconst (v := 1) d_M_stem_17 (by decide) ?_
      refine vq_goto (tgt := 35) d_M_stem_18 (by decide) ?_
      refine vq_putI (k := 0) (C := R_M) (T := T_M) (ty := .int) t_M d_M_stem_35 rfl in_M w_655 ty_M nm_M (by decide) rfl (by decide) rfl (by decide +kernel) rfl rfl rfl ?_
      refine vq_aload_n d_M_stem_38 rfl ?_
      refine vq_getI (k := 0) (C := R_M) (T := T_M) d_M_stem_39 rfl in_M w_655 (by decide) rfl (by decide) rfl ?_
      refine vq_int (y := 1) rfl ?_
      refine vq_if_le (tgt := 47) d_M_stem_42 (by decide) (fun h42 => absurd h42 (by decide)) (fun h42 => ?_)
      refine vq_iconst (v := 0) d_M_stem_45 (by decide) ?_
      refine vq_iret d_M_stem_46 rfl (by decide) (by decide) rfl rfl ?_
      rw [hk]
      exact ⟨rfl, rfl, hm.thr _, hl, Dn.thr _⟩
