/-! more calls. Laid by wip/whole/specs/p37.py -/
theorem isN {o : Option Nat} (h : o.isSome = true) : ¬ o.isNone = true := by cases o <;> simp_all
theorem isS {o : Option Nat} (h : o.isSome = false) : o.isNone = true := by cases o <;> simp_all
set_option maxRecDepth 100000 in
set_option maxHeartbeats 4000000 in
theorem ct_S_marry (l : Launch) (b : Nat) (id : Nat → ClassId) (D : va_G) (htr : l.stackTraces = false) {g : Sg} {F : Fam} (hV : zV F) (hc : Hc g F) {k : Lg} (hl : Hl g k) (x y : Int32) : qCT l b id D m_S_marry false [.ref (b + 0), .int x, .int y] 85 kT g 85 kT (cP (k_marry F x y) none g (f_marry F x y) k) (cX (k_marry F x y) g) := by
  have hW := hV.1
  have hn := hW.1
  refine qCT_of rfl (by decide) (Nat.le_of_ble_eq_true rfl) ?_
  show Vq l b id D m_S_marry false 85 kT _ 85 kT _ 85 kT 0 0 0 [(0, .ref (b + 0)), (1, .int x), (2, .int y)] [] g
  refine vq_aload_n d_S_marry_0 rfl ?_
  refine vq_iload_n d_S_marry_1 rfl ?_
  refine vq_callV (n := 1) (C := R_S) (T := T_S) _ _ d_S_marry_2 (ct_S_requirePerson l b id D htr hn hc x) w_473 w_475 sel_S_requirePerson w_476 w_1 rfl ⟨by decide, by decide, by decide +kernel⟩ ⟨by decide, by decide⟩ (by decide) rfl rfl rfl rfl (Nat.le_of_ble_eq_true rfl) rfl rfl rfl ⟨by decide, by decide⟩ (fun E g9 h => ⟨Or.inl ⟨by unfold k_marry; rw [if_neg (fun hh => h.2.1 hh.1)], h.1⟩, h.2.2⟩) (fun v2 g2 h2 => ?_)
  obtain ⟨e12, hx, e22⟩ := h2
  rw [e12, e22]
  obtain ⟨p, hp, rfl⟩ := zok_p hx
  have hz : zi (nI p) = p := zi_nI (by omega)
  refine vq_aload_n d_S_marry_5 rfl ?_
  refine vq_iload_n d_S_marry_6 rfl ?_
  refine vq_callV (n := 1) (C := R_S) (T := T_S) _ _ d_S_marry_7 (ct_S_requirePerson l b id D htr hn hc y) w_473 w_475 sel_S_requirePerson w_476 w_1 rfl ⟨by decide, by decide, by decide +kernel⟩ ⟨by decide, by decide⟩ (by decide) rfl rfl rfl rfl (Nat.le_of_ble_eq_true rfl) rfl rfl rfl ⟨by decide, by decide⟩ (fun E g9 h => ⟨Or.inl ⟨by unfold k_marry; rw [if_neg (fun hh => h.2.1 hh.2.1)], h.1⟩, h.2.2⟩) (fun v7 g7 h7 => ?_)
  obtain ⟨e17, hy, e27⟩ := h7
  rw [e17, e27]
  obtain ⟨r, hr, rfl⟩ := zok_p hy
  have hz2 : zi (nI r) = r := zi_nI (by omega)
  have ht1 := nI_toInt (show p < 2 ^ 31 by omega)
  have ht2 := nI_toInt (show r < 2 ^ 31 by omega)
  refine vq_iload_n d_S_marry_10 rfl ?_
  refine vq_iload_n d_S_marry_11 rfl ?_
  refine vq_icmp_ne (tgt := 25) d_S_marry_12 (by decide) (fun h12 => ?_) (fun h12 => ?_)
  · rw [nI_eq (by omega) (by omega)] at h12
    refine vq_aload_n d_S_marry_25 rfl ?_
    refine vq_getR (k := 0) (C := R_S) (T := T_S) d_S_marry_26 rfl in_S w_210 (by decide) rfl (by decide) rfl rfl ?_
    refine vq_iload_n d_S_marry_29 rfl ?_
    refine vq_callV (n := 1) (C := R_F) (T := T_F) _ _ d_S_marry_30 (ct_F_isFree l b id D hW hc hp) w_486 w_487 w_488 w_489 w_2 rfl ⟨by decide, by decide, by decide +kernel⟩ ⟨by decide, by decide⟩ (by decide) rfl rfl rfl rfl (Nat.le_of_ble_eq_true rfl) rfl rfl rfl ⟨by decide, by decide⟩ (fun _ _ h => h.elim) (fun v30 g30 h30 => ?_)
    rw [h30.1, h30.2]
    refine vq_if_eq (tgt := 47) d_S_marry_33 (by decide) (fun h33 => ?_) (fun h33 => ?_)
    · rw [bI_0] at h33
      refine vq_throw (text := "one of them died or has a living spouse") (names := ["java/lang/RuntimeException", "java/lang/Exception"]) htr d_S_marry_47 d_S_marry_50 d_S_marry_51 d_S_marry_53 d_S_marry_56 (by decide) (by decide) w_446 w_12 w_447 (by decide) (by decide +kernel) rfl (by decide) (by decide) (Nat.le_of_ble_eq_true rfl) (Nat.le_of_ble_eq_true rfl) rfl rfl ?_
      refine ⟨Or.inr ⟨?_, rfl⟩, rfl⟩
      unfold k_marry
      rw [if_pos ⟨hx, hy, by rw [ht1, ht2]; omega⟩, hz, hz2, if_neg (fun hh => ?_)]
      first
        | (rw [hh.1] at h33; cases h33; done)
        | (rw [hh.2] at h44; cases h44; done)
    · rw [bI_n0] at h33
      refine vq_aload_n d_S_marry_36 rfl ?_
      refine vq_getR (k := 0) (C := R_S) (T := T_S) d_S_marry_37 rfl in_S w_210 (by decide) rfl (by decide) rfl rfl ?_
      refine vq_iload_n d_S_marry_40 rfl ?_
      refine vq_callV (n := 1) (C := R_F) (T := T_F) _ _ d_S_marry_41 (ct_F_isFree l b id D hW hc hr) w_486 w_487 w_488 w_489 w_2 rfl ⟨by decide, by decide, by decide +kernel⟩ ⟨by decide, by decide⟩ (by decide) rfl rfl rfl rfl (Nat.le_of_ble_eq_true rfl) rfl rfl rfl ⟨by decide, by decide⟩ (fun _ _ h => h.elim) (fun v41 g41 h41 => ?_)
      rw [h41.1, h41.2]
      refine vq_if_ne (tgt := 57) d_S_marry_44 (by decide) (fun h44 => ?_) (fun h44 => ?_)
      · rw [bI_n0] at h44
        refine vq_aload_n d_S_marry_57 rfl ?_
        refine vq_getR (k := 0) (C := R_S) (T := T_S) d_S_marry_58 rfl in_S w_210 (by decide) rfl (by decide) rfl rfl ?_
        refine vq_getR (k := 3) (C := R_F) (T := T_F) d_S_marry_61 rfl in_F w_47 (by decide) rfl (by decide) rfl rfl ?_
        refine vq_iload_n d_S_marry_64 rfl ?_
        refine vq_iload_n d_S_marry_65 rfl ?_
        refine vq_iast d_S_marry_66 rfl (by decide) rfl rfl (show _ < 20 by omega) ?_
        refine vq_aload_n d_S_marry_67 rfl ?_
        refine vq_getR (k := 0) (C := R_S) (T := T_S) d_S_marry_68 rfl in_S w_210 (by decide) rfl (by decide) rfl rfl ?_
        refine vq_getR (k := 3) (C := R_F) (T := T_F) d_S_marry_71 rfl in_F w_47 (by decide) rfl (by decide) rfl rfl ?_
        refine vq_iload_n d_S_marry_74 rfl ?_
        refine vq_iload_n d_S_marry_75 rfl ?_
        refine vq_iast d_S_marry_76 rfl (by decide) rfl rfl (show _ < 20 by omega) ?_
        refine vq_vret d_S_marry_77 rfl (by decide) (by decide) rfl rfl ?_
        have hk : k_marry F (nI p) (nI r) = 0 := by unfold k_marry; rw [if_pos ⟨hx, hy, by rw [ht1, ht2]; omega⟩, hz, hz2, if_pos ⟨h33, h44⟩]
        obtain ⟨c1, c2, c3, c4, c5, c6, c7, c8⟩ := hc
        have hF : f_marry F (nI p) (nI r) = (zn F, za F, zb F, zset (zset (zs F) p (some r)) r (some p), zd F, zo F, zg F, zx F) := by unfold f_marry; rw [if_pos hk, hz, hz2]
        rw [hF]
        refine ⟨hk, rfl, ⟨c1, c2, c3, fun i hi => ?_, c5, c6, fun c i h1 h2 => ?_, c8⟩, hl.congr (fun q _ _ => rfl), fun q hq => ⟨?_, rfl⟩⟩
        · show upd (upd (g.1 4) p (nI r)) r (nI p) i = eO (zset (zset (zs F) p (some r)) r (some p) i)
          rw [upd]
          by_cases e : i = r
          · rw [if_pos e, e, zset_s]; rfl
          · rw [if_neg e, zset_n e, upd]
            by_cases e2 : i = p
            · rw [if_pos e2, e2, zset_s]; rfl
            · rw [if_neg e2, zset_n e2]; exact c4 i hi
        · rw [sI_n (by omega), sI_n (by omega)]; exact c7 c i h1 h2
        · rw [sI_n (by omega), sI_n (by omega)]
      · rw [bI_0] at h44
        refine vq_throw (text := "one of them died or has a living spouse") (names := ["java/lang/RuntimeException", "java/lang/Exception"]) htr d_S_marry_47 d_S_marry_50 d_S_marry_51 d_S_marry_53 d_S_marry_56 (by decide) (by decide) w_446 w_12 w_447 (by decide) (by decide +kernel) rfl (by decide) (by decide) (Nat.le_of_ble_eq_true rfl) (Nat.le_of_ble_eq_true rfl) rfl rfl ?_
        refine ⟨Or.inr ⟨?_, rfl⟩, rfl⟩
        unfold k_marry
        rw [if_pos ⟨hx, hy, by rw [ht1, ht2]; omega⟩, hz, hz2, if_neg (fun hh => ?_)]
        first
          | (rw [hh.1] at h33; cases h33; done)
          | (rw [hh.2] at h44; cases h44; done)
  · rw [nI_eq (by omega) (by omega)] at h12
    refine vq_throw (text := "nobody marries itself") (names := ["java/lang/RuntimeException", "java/lang/Exception"]) htr d_S_marry_15 d_S_marry_18 d_S_marry_19 d_S_marry_21 d_S_marry_24 (by decide) (by decide) w_378 w_11 w_379 (by decide) (by decide +kernel) rfl (by decide) (by decide) (Nat.le_of_ble_eq_true rfl) (Nat.le_of_ble_eq_true rfl) rfl rfl ?_
    exact ⟨Or.inl ⟨by unfold k_marry; rw [if_neg (fun hh => hh.2.2 (by rw [h12]))], rfl⟩, rfl⟩
set_option maxRecDepth 100000 in
set_option maxHeartbeats 4000000 in
theorem ct_S_spouse (l : Launch) (b : Nat) (id : Nat → ClassId) (D : va_G) (htr : l.stackTraces = false) {g : Sg} {F : Fam} (hV : zV F) (hc : Hc g F) {k : Lg} (hl : Hl g k) (x : Int32) : qCT l b id D m_S_spouse false [.ref (b + 0), .int x] 85 kT g 85 kT (cP (k_one F x) (some (.int (eO (zs F (zi x))))) g F k) (cX (k_one F x) g) := by
  have hW := hV.1
  have hn := hW.1
  refine qCT_of rfl (by decide) (Nat.le_of_ble_eq_true rfl) ?_
  show Vq l b id D m_S_spouse false 85 kT _ 85 kT _ 85 kT 0 0 0 [(0, .ref (b + 0)), (1, .int x)] [] g
  refine vq_aload_n d_S_spouse_0 rfl ?_
  refine vq_iload_n d_S_spouse_1 rfl ?_
  refine vq_callV (n := 1) (C := R_S) (T := T_S) _ _ d_S_spouse_2 (ct_S_requirePerson l b id D htr hn hc x) w_473 w_475 sel_S_requirePerson w_476 w_1 rfl ⟨by decide, by decide, by decide +kernel⟩ ⟨by decide, by decide⟩ (by decide) rfl rfl rfl rfl (Nat.le_of_ble_eq_true rfl) rfl rfl rfl ⟨by decide, by decide⟩ (fun E g9 h => ⟨Or.inl ⟨by unfold k_one; rw [if_neg h.2.1], h.1⟩, h.2.2⟩) (fun v2 g2 h2 => ?_)
  obtain ⟨e12, hx, e22⟩ := h2
  rw [e12, e22]
  obtain ⟨p, hp, rfl⟩ := zok_p hx
  have hz : zi (nI p) = p := zi_nI (by omega)
  refine vq_aload_n d_S_spouse_5 rfl ?_
  refine vq_getR (k := 0) (C := R_S) (T := T_S) d_S_spouse_6 rfl in_S w_210 (by decide) rfl (by decide) rfl rfl ?_
  refine vq_getR (k := 3) (C := R_F) (T := T_F) d_S_spouse_9 rfl in_F w_47 (by decide) rfl (by decide) rfl rfl ?_
  refine vq_iload_n d_S_spouse_12 rfl ?_
  refine vq_iald d_S_spouse_13 (by decide) rfl rfl (show _ < 20 by omega) ?_
  refine vq_iret d_S_spouse_14 rfl (by decide) (by decide) rfl rfl ?_
  exact ⟨by unfold k_one; rw [if_pos hx], by rw [hz, ← hc.2.2.2.1 p hp], hc, hl, fun q hq => ⟨rfl, rfl⟩⟩
set_option maxRecDepth 100000 in
set_option maxHeartbeats 4000000 in
theorem ct_S_divorce (l : Launch) (b : Nat) (id : Nat → ClassId) (D : va_G) (htr : l.stackTraces = false) {g : Sg} {F : Fam} (hV : zV F) (hc : Hc g F) {k : Lg} (hl : Hl g k) (x : Int32) : qCT l b id D m_S_divorce false [.ref (b + 0), .int x] 85 kT g 85 kT (cP (k_one F x) (some (.int (bI (zdv F (zi x)).isSome))) g (f_divorce F x) k) (cX (k_one F x) g) := by
  have hW := hV.1
  have hn := hW.1
  refine qCT_of rfl (by decide) (Nat.le_of_ble_eq_true rfl) ?_
  show Vq l b id D m_S_divorce false 85 kT _ 85 kT _ 85 kT 0 0 0 [(0, .ref (b + 0)), (1, .int x)] [] g
  refine vq_aload_n d_S_divorce_0 rfl ?_
  refine vq_iload_n d_S_divorce_1 rfl ?_
  refine vq_callV (n := 1) (C := R_S) (T := T_S) _ _ d_S_divorce_2 (ct_S_requirePerson l b id D htr hn hc x) w_473 w_475 sel_S_requirePerson w_476 w_1 rfl ⟨by decide, by decide, by decide +kernel⟩ ⟨by decide, by decide⟩ (by decide) rfl rfl rfl rfl (Nat.le_of_ble_eq_true rfl) rfl rfl rfl ⟨by decide, by decide⟩ (fun E g9 h => ⟨Or.inl ⟨by unfold k_one; rw [if_neg h.2.1], h.1⟩, h.2.2⟩) (fun v2 g2 h2 => ?_)
  obtain ⟨e12, hx, e22⟩ := h2
  rw [e12, e22]
  obtain ⟨p, hp, rfl⟩ := zok_p hx
  have hz : zi (nI p) = p := zi_nI (by omega)
  have hk : k_one F (nI p) = 0 := by unfold k_one; rw [if_pos hx]
  refine vq_aload_n d_S_divorce_5 rfl ?_
  refine vq_getR (k := 0) (C := R_S) (T := T_S) d_S_divorce_6 rfl in_S w_210 (by decide) rfl (by decide) rfl rfl ?_
  refine vq_getR (k := 3) (C := R_F) (T := T_F) d_S_divorce_9 rfl in_F w_47 (by decide) rfl (by decide) rfl rfl ?_
  refine vq_iload_n d_S_divorce_12 rfl ?_
  refine vq_iald d_S_divorce_13 (by decide) rfl rfl (show _ < 20 by omega) ?_
  refine vq_int (y := eO (zs F p)) (hc.2.2.2.1 p hp) ?_
  refine vq_istore_n (lv' := [(2, _), (0, _), (1, _)]) d_S_divorce_14 (by decide) rfl ?_
  refine vq_iload_n d_S_divorce_15 rfl ?_
  refine vq_iconst (v := -1) d_S_divorce_16 (by decide) ?_
  refine vq_icmp_eq (tgt := 42) d_S_divorce_17 (by decide) (fun h17 => ?_) (fun h17 => ?_)
  · rw [eO_m1 (zs_lt hW hp)] at h17
    have hv : zdv F p = none := by unfold zdv; rw [h17]
    refine vq_iconst (v := 0) d_S_divorce_42 (by decide) ?_
    refine vq_zret d_S_divorce_43 rfl (by first | exact Or.inl rfl | exact Or.inr rfl | assumption) (by decide) (by decide) rfl rfl ?_
    have hF : f_divorce F (nI p) = F := by unfold f_divorce; rw [if_pos hk, hz, hv]
    rw [hF]
    exact ⟨hk, by rw [hz, hv]; rfl, hc, hl, fun q hq => ⟨rfl, rfl⟩⟩
  · rw [eO_m1 (zs_lt hW hp)] at h17
    obtain ⟨j, hj⟩ := Option.ne_none_iff_exists'.mp h17
    have hjn := hW.2.2.2.2.1 p j hp hj
    rw [show eO (zs F p) = nI j by rw [hj]; rfl]
    refine vq_aload_n d_S_divorce_20 rfl ?_
    refine vq_getR (k := 0) (C := R_S) (T := T_S) d_S_divorce_21 rfl in_S w_210 (by decide) rfl (by decide) rfl rfl ?_
    refine vq_iload_n d_S_divorce_24 rfl ?_
    refine vq_callV (n := 1) (C := R_F) (T := T_F) _ _ d_S_divorce_25 (ct_F_died l b id D hW hc hp) w_498 w_243 w_244 w_245 w_2 rfl ⟨by decide, by decide, by decide +kernel⟩ ⟨by decide, by decide⟩ (by decide) rfl rfl rfl rfl (Nat.le_of_ble_eq_true rfl) rfl rfl rfl ⟨by decide, by decide⟩ (fun _ _ h => h.elim) (fun v25 g25 h25 => ?_)
    rw [h25.1, h25.2]
    refine vq_if_ne (tgt := 42) d_S_divorce_28 (by decide) (fun h28 => ?_) (fun h28 => ?_)
    · rw [bI_n0] at h28
      have hv : zdv F p = none := by unfold zdv; rw [hj]; exact if_neg (fun hh => isN h28 hh.1)
      refine vq_iconst (v := 0) d_S_divorce_42 (by decide) ?_
      refine vq_zret d_S_divorce_43 rfl (by first | exact Or.inl rfl | exact Or.inr rfl | assumption) (by decide) (by decide) rfl rfl ?_
      have hF : f_divorce F (nI p) = F := by unfold f_divorce; rw [if_pos hk, hz, hv]
      rw [hF]
      exact ⟨hk, by rw [hz, hv]; rfl, hc, hl, fun q hq => ⟨rfl, rfl⟩⟩
    · rw [bI_0] at h28
      refine vq_aload_n d_S_divorce_31 rfl ?_
      refine vq_getR (k := 0) (C := R_S) (T := T_S) d_S_divorce_32 rfl in_S w_210 (by decide) rfl (by decide) rfl rfl ?_
      refine vq_iload_n d_S_divorce_35 rfl ?_
      refine vq_callV (n := 1) (C := R_F) (T := T_F) _ _ d_S_divorce_36 (ct_F_died l b id D hW hc hjn) w_498 w_243 w_244 w_245 w_2 rfl ⟨by decide, by decide, by decide +kernel⟩ ⟨by decide, by decide⟩ (by decide) rfl rfl rfl rfl (Nat.le_of_ble_eq_true rfl) rfl rfl rfl ⟨by decide, by decide⟩ (fun _ _ h => h.elim) (fun v36 g36 h36 => ?_)
      rw [h36.1, h36.2]
      refine vq_if_eq (tgt := 44) d_S_divorce_39 (by decide) (fun h39 => ?_) (fun h39 => ?_)
      · rw [bI_0] at h39
        have hv : zdv F p = some j := by unfold zdv; rw [hj]; exact if_pos ⟨isS h28, isS h39⟩
        refine vq_aload_n d_S_divorce_44 rfl ?_
        refine vq_getR (k := 0) (C := R_S) (T := T_S) d_S_divorce_45 rfl in_S w_210 (by decide) rfl (by decide) rfl rfl ?_
        refine vq_getR (k := 3) (C := R_F) (T := T_F) d_S_divorce_48 rfl in_F w_47 (by decide) rfl (by decide) rfl rfl ?_
        refine vq_iload_n d_S_divorce_51 rfl ?_
        refine vq_iconst (v := -1) d_S_divorce_52 (by decide) ?_
        refine vq_iast d_S_divorce_53 rfl (by decide) rfl rfl (show _ < 20 by omega) ?_
        refine vq_aload_n d_S_divorce_54 rfl ?_
        refine vq_getR (k := 0) (C := R_S) (T := T_S) d_S_divorce_55 rfl in_S w_210 (by decide) rfl (by decide) rfl rfl ?_
        refine vq_getR (k := 3) (C := R_F) (T := T_F) d_S_divorce_58 rfl in_F w_47 (by decide) rfl (by decide) rfl rfl ?_
        refine vq_iload_n d_S_divorce_61 rfl ?_
        refine vq_iconst (v := -1) d_S_divorce_62 (by decide) ?_
        refine vq_iast d_S_divorce_63 rfl (by decide) rfl rfl (show _ < 20 by omega) ?_
        refine vq_iconst (v := 1) d_S_divorce_64 (by decide) ?_
        refine vq_zret d_S_divorce_65 rfl (by first | exact Or.inl rfl | exact Or.inr rfl | assumption) (by decide) (by decide) rfl rfl ?_
        obtain ⟨c1, c2, c3, c4, c5, c6, c7, c8⟩ := hc
        have hF : f_divorce F (nI p) = (zn F, za F, zb F, zset (zset (zs F) p none) j none, zd F, zo F, zg F, zx F) := by unfold f_divorce; rw [if_pos hk, hz, hv]
        rw [hF]
        refine ⟨hk, by rw [hz, hv]; rfl, ⟨c1, c2, c3, fun i hi => ?_, c5, c6, fun c i h1 h2 => ?_, c8⟩, hl.congr (fun q _ _ => rfl), fun q hq => ⟨?_, rfl⟩⟩
        · show upd (upd (g.1 4) p (-1)) j (-1) i = eO (zset (zset (zs F) p none) j none i)
          rw [upd]
          by_cases e : i = j
          · rw [if_pos e, e, zset_s]; rfl
          · rw [if_neg e, zset_n e, upd]
            by_cases e2 : i = p
            · rw [if_pos e2, e2, zset_s]; rfl
            · rw [if_neg e2, zset_n e2]; exact c4 i hi
        · rw [sI_n (by omega), sI_n (by omega)]; exact c7 c i h1 h2
        · rw [sI_n (by omega), sI_n (by omega)]
      · rw [bI_n0] at h39
        have hv : zdv F p = none := by unfold zdv; rw [hj]; exact if_neg (fun hh => isN h39 hh.2)
        refine vq_iconst (v := 0) d_S_divorce_42 (by decide) ?_
        refine vq_zret d_S_divorce_43 rfl (by first | exact Or.inl rfl | exact Or.inr rfl | assumption) (by decide) (by decide) rfl rfl ?_
        have hF : f_divorce F (nI p) = F := by unfold f_divorce; rw [if_pos hk, hz, hv]
        rw [hF]
        exact ⟨hk, by rw [hz, hv]; rfl, hc, hl, fun q hq => ⟨rfl, rfl⟩⟩
