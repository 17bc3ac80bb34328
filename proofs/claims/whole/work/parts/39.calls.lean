/-! more calls. Laid by wip/whole/specs/p37.py -/
set_option maxRecDepth 100000 in
set_option maxHeartbeats 4000000 in
theorem ct_S_dies (l : Launch) (b : Nat) (id : Nat → ClassId) (D : va_G) (htr : l.stackTraces = false) {g : Sg} {F : Fam} (hV : zV F) (hc : Hc g F) {k : Lg} (hl : Hl g k) (x y : Int32) : qCT l b id D m_S_dies false [.ref (b + 0), .int x, .int y] 85 kT g 85 kT (cP (k_dies F x y) none g (f_dies F x y) k) (cX (k_dies F x y) g) := by
  have hW := hV.1
  have hn := hW.1
  refine qCT_of rfl (by decide) (Nat.le_of_ble_eq_true rfl) ?_
  show Vq l b id D m_S_dies false 85 kT _ 85 kT _ 85 kT 0 0 0 [(0, .ref (b + 0)), (1, .int x), (2, .int y)] [] g
  refine vq_aload_n d_S_dies_0 rfl ?_
  refine vq_iload_n d_S_dies_1 rfl ?_
  refine vq_callV (n := 1) (C := R_S) (T := T_S) _ _ d_S_dies_2 (ct_S_requirePerson l b id D htr hn hc x) w_473 w_475 sel_S_requirePerson w_476 w_1 rfl ⟨by decide, by decide, by decide +kernel⟩ ⟨by decide, by decide⟩ (by decide) rfl rfl rfl rfl (Nat.le_of_ble_eq_true rfl) rfl rfl rfl ⟨by decide, by decide⟩ (fun E g9 h => ⟨Or.inl ⟨by unfold k_dies; rw [if_neg (fun hh => h.2.1 hh.1)], h.1⟩, h.2.2⟩) (fun v2 g2 h2 => ?_)
  obtain ⟨e12, hx, e22⟩ := h2
  rw [e12, e22]
  obtain ⟨p, hp, rfl⟩ := zok_p hx
  have hz : zi (nI p) = p := zi_nI (by omega)
  refine vq_iload_n d_S_dies_5 rfl ?_
  refine vq_if_lt (tgt := 16) d_S_dies_6 (by decide) (fun h6 => ?_) (fun h6 => ?_)
  · simp only [Int32.lt_iff_toInt_lt, Int32.le_iff_toInt_le, ← Int32.toInt_inj, tI0, tI1, tIm1, tI999, tIm, tI20] at h6
    refine vq_throw (text := "a day is 0 to 999") (names := ["java/lang/RuntimeException", "java/lang/Exception"]) htr d_S_dies_16 d_S_dies_19 d_S_dies_20 d_S_dies_22 d_S_dies_25 (by decide) (by decide) w_378 w_11 w_379 (by decide) (by decide +kernel) rfl (by decide) (by decide) (Nat.le_of_ble_eq_true rfl) (Nat.le_of_ble_eq_true rfl) rfl rfl ?_
    exact ⟨Or.inl ⟨by unfold k_dies; rw [if_neg (fun hh => by omega)], rfl⟩, rfl⟩
  · simp only [Int32.lt_iff_toInt_lt, Int32.le_iff_toInt_le, ← Int32.toInt_inj, tI0, tI1, tIm1, tI999, tIm, tI20] at h6
    refine vq_iload_n d_S_dies_9 rfl ?_
    refine vq_sipush (v := 999) d_S_dies_10 (by decide) ?_
    refine vq_icmp_le (tgt := 26) d_S_dies_13 (by decide) (fun h13 => ?_) (fun h13 => ?_)
    · simp only [Int32.lt_iff_toInt_lt, Int32.le_iff_toInt_le, ← Int32.toInt_inj, tI0, tI1, tIm1, tI999, tIm, tI20] at h13
      refine vq_aload_n d_S_dies_26 rfl ?_
      refine vq_getR (k := 0) (C := R_S) (T := T_S) d_S_dies_27 rfl in_S w_210 (by decide) rfl (by decide) rfl rfl ?_
      refine vq_iload_n d_S_dies_30 rfl ?_
      refine vq_callV (n := 1) (C := R_F) (T := T_F) _ _ d_S_dies_31 (ct_F_died l b id D hW hc hp) w_498 w_243 w_244 w_245 w_2 rfl ⟨by decide, by decide, by decide +kernel⟩ ⟨by decide, by decide⟩ (by decide) rfl rfl rfl rfl (Nat.le_of_ble_eq_true rfl) rfl rfl rfl ⟨by decide, by decide⟩ (fun _ _ h => h.elim) (fun v31 g31 h31 => ?_)
      rw [h31.1, h31.2]
      refine vq_if_eq (tgt := 47) d_S_dies_34 (by decide) (fun h34 => ?_) (fun h34 => ?_)
      · rw [bI_0] at h34
        refine vq_aload_n d_S_dies_47 rfl ?_
        refine vq_getR (k := 0) (C := R_S) (T := T_S) d_S_dies_48 rfl in_S w_210 (by decide) rfl (by decide) rfl rfl ?_
        refine vq_getR (k := 4) (C := R_F) (T := T_F) d_S_dies_51 rfl in_F w_50 (by decide) rfl (by decide) rfl rfl ?_
        refine vq_iload_n d_S_dies_54 rfl ?_
        refine vq_iload_n d_S_dies_55 rfl ?_
        refine vq_iast d_S_dies_56 rfl (by decide) rfl rfl (show _ < 20 by omega) ?_
        refine vq_vret d_S_dies_57 rfl (by decide) (by decide) rfl rfl ?_
        have hk : k_dies F (nI p) y = 0 := by unfold k_dies; rw [if_pos ⟨hx, by omega, by omega⟩, hz, if_neg (by rw [h34]; decide)]
        obtain ⟨c1, c2, c3, c4, c5, c6, c7, c8⟩ := hc
        have hF : f_dies F (nI p) y = (zn F, za F, zb F, zs F, zset (zd F) p (some (zi y)), zo F, zg F, zx F) := by unfold f_dies; rw [if_pos hk, hz]
        rw [hF]
        refine ⟨hk, rfl, ⟨c1, c2, c3, c4, fun i hi => ?_, c6, fun c i h1 h2 => ?_, c8⟩, hl.congr (fun q _ _ => rfl), fun q hq => ⟨?_, rfl⟩⟩
        · show upd (g.1 5) p y i = eO (zset (zd F) p (some (zi y)) i)
          rw [upd]
          by_cases e : i = p
          · rw [if_pos e, e, zset_s]; exact nI_zi (by omega)
          · rw [if_neg e, zset_n e]; exact c5 i hi
        · rw [sI_n (by omega)]; exact c7 c i h1 h2
        · rw [sI_n (by omega)]
      · rw [bI_n0] at h34
        refine vq_throw (text := "it died already") (names := ["java/lang/RuntimeException", "java/lang/Exception"]) htr d_S_dies_37 d_S_dies_40 d_S_dies_41 d_S_dies_43 d_S_dies_46 (by decide) (by decide) w_446 w_12 w_447 (by decide) (by decide +kernel) rfl (by decide) (by decide) (Nat.le_of_ble_eq_true rfl) (Nat.le_of_ble_eq_true rfl) rfl rfl ?_
        exact ⟨Or.inr ⟨by unfold k_dies; rw [if_pos ⟨hx, by omega, by omega⟩, hz, if_pos h34], rfl⟩, rfl⟩
    · simp only [Int32.lt_iff_toInt_lt, Int32.le_iff_toInt_le, ← Int32.toInt_inj, tI0, tI1, tIm1, tI999, tIm, tI20] at h13
      refine vq_throw (text := "a day is 0 to 999") (names := ["java/lang/RuntimeException", "java/lang/Exception"]) htr d_S_dies_16 d_S_dies_19 d_S_dies_20 d_S_dies_22 d_S_dies_25 (by decide) (by decide) w_378 w_11 w_379 (by decide) (by decide +kernel) rfl (by decide) (by decide) (Nat.le_of_ble_eq_true rfl) (Nat.le_of_ble_eq_true rfl) rfl rfl ?_
      exact ⟨Or.inl ⟨by unfold k_dies; rw [if_neg (fun hh => by omega)], rfl⟩, rfl⟩
set_option maxRecDepth 100000 in
set_option maxHeartbeats 4000000 in
theorem ct_S_estate (l : Launch) (b : Nat) (id : Nat → ClassId) (D : va_G) (htr : l.stackTraces = false) {g : Sg} {F : Fam} (hV : zV F) (hc : Hc g F) {k : Lg} (hl : Hl g k) (x y : Int32) : qCT l b id D m_S_estate false [.ref (b + 0), .int x, .int y] 85 kT g 85 kT (cP (k_estate F x y) none g (f_estate F x y) k) (cX (k_estate F x y) g) := by
  have hW := hV.1
  have hn := hW.1
  refine qCT_of rfl (by decide) (Nat.le_of_ble_eq_true rfl) ?_
  show Vq l b id D m_S_estate false 85 kT _ 85 kT _ 85 kT 0 0 0 [(0, .ref (b + 0)), (1, .int x), (2, .int y)] [] g
  refine vq_aload_n d_S_estate_0 rfl ?_
  refine vq_iload_n d_S_estate_1 rfl ?_
  refine vq_callV (n := 1) (C := R_S) (T := T_S) _ _ d_S_estate_2 (ct_S_requirePerson l b id D htr hn hc x) w_473 w_475 sel_S_requirePerson w_476 w_1 rfl ⟨by decide, by decide, by decide +kernel⟩ ⟨by decide, by decide⟩ (by decide) rfl rfl rfl rfl (Nat.le_of_ble_eq_true rfl) rfl rfl rfl ⟨by decide, by decide⟩ (fun E g9 h => ⟨Or.inl ⟨by unfold k_estate; rw [if_neg (fun hh => h.2.1 hh.1)], h.1⟩, h.2.2⟩) (fun v2 g2 h2 => ?_)
  obtain ⟨e12, hx, e22⟩ := h2
  rw [e12, e22]
  obtain ⟨p, hp, rfl⟩ := zok_p hx
  have hz : zi (nI p) = p := zi_nI (by omega)
  refine vq_iload_n d_S_estate_5 rfl ?_
  refine vq_if_lt (tgt := 15) d_S_estate_6 (by decide) (fun h6 => ?_) (fun h6 => ?_)
  · simp only [Int32.lt_iff_toInt_lt, Int32.le_iff_toInt_le, ← Int32.toInt_inj, tI0, tI1, tIm1, tI999, tIm, tI20] at h6
    refine vq_throw (text := "an estate is 0 to 1000000 cents") (names := ["java/lang/RuntimeException", "java/lang/Exception"]) htr d_S_estate_15 d_S_estate_18 d_S_estate_19 d_S_estate_21 d_S_estate_24 (by decide) (by decide) w_378 w_11 w_379 (by decide) (by decide +kernel) rfl (by decide) (by decide) (Nat.le_of_ble_eq_true rfl) (Nat.le_of_ble_eq_true rfl) rfl rfl ?_
    exact ⟨Or.inl ⟨by unfold k_estate; rw [if_neg (fun hh => by omega)], rfl⟩, rfl⟩
  · simp only [Int32.lt_iff_toInt_lt, Int32.le_iff_toInt_le, ← Int32.toInt_inj, tI0, tI1, tIm1, tI999, tIm, tI20] at h6
    refine vq_iload_n d_S_estate_9 rfl ?_
    refine vq_ldc d_S_estate_10 w_536 ?_
    refine vq_icmp_le (tgt := 25) d_S_estate_12 (by decide) (fun h12 => ?_) (fun h12 => ?_)
    · simp only [Int32.lt_iff_toInt_lt, Int32.le_iff_toInt_le, ← Int32.toInt_inj, tI0, tI1, tIm1, tI999, tIm, tI20] at h12
      refine vq_aload_n d_S_estate_25 rfl ?_
      refine vq_getR (k := 0) (C := R_S) (T := T_S) d_S_estate_26 rfl in_S w_210 (by decide) rfl (by decide) rfl rfl ?_
      refine vq_getR (k := 5) (C := R_F) (T := T_F) d_S_estate_29 rfl in_F w_53 (by decide) rfl (by decide) rfl rfl ?_
      refine vq_iload_n d_S_estate_32 rfl ?_
      refine vq_iload_n d_S_estate_33 rfl ?_
      refine vq_iast d_S_estate_34 rfl (by decide) rfl rfl (show _ < 20 by omega) ?_
      refine vq_vret d_S_estate_35 rfl (by decide) (by decide) rfl rfl ?_
      have hk : k_estate F (nI p) y = 0 := by unfold k_estate; rw [if_pos ⟨hx, by omega, by omega⟩]
      obtain ⟨c1, c2, c3, c4, c5, c6, c7, c8⟩ := hc
      have hF : f_estate F (nI p) y = (zn F, za F, zb F, zs F, zd F, zset (zo F) p (zi y), zg F, zx F) := by unfold f_estate; rw [if_pos hk, hz]
      rw [hF]
      refine ⟨hk, rfl, ⟨c1, c2, c3, c4, c5, fun i hi => ?_, fun c i h1 h2 => ?_, c8⟩, hl.congr (fun q _ _ => rfl), fun q hq => ⟨?_, rfl⟩⟩
      · show upd (g.1 6) p y i = nI (zset (zo F) p (zi y) i)
        rw [upd]
        by_cases e : i = p
        · rw [if_pos e, e, zset_s]; exact nI_zi (by omega)
        · rw [if_neg e, zset_n e]; exact c6 i hi
      · rw [sI_n (by omega)]; exact c7 c i h1 h2
      · rw [sI_n (by omega)]
    · simp only [Int32.lt_iff_toInt_lt, Int32.le_iff_toInt_le, ← Int32.toInt_inj, tI0, tI1, tIm1, tI999, tIm, tI20] at h12
      refine vq_throw (text := "an estate is 0 to 1000000 cents") (names := ["java/lang/RuntimeException", "java/lang/Exception"]) htr d_S_estate_15 d_S_estate_18 d_S_estate_19 d_S_estate_21 d_S_estate_24 (by decide) (by decide) w_378 w_11 w_379 (by decide) (by decide +kernel) rfl (by decide) (by decide) (Nat.le_of_ble_eq_true rfl) (Nat.le_of_ble_eq_true rfl) rfl rfl ?_
      exact ⟨Or.inl ⟨by unfold k_estate; rw [if_neg (fun hh => by omega)], rfl⟩, rfl⟩
set_option maxRecDepth 100000 in
set_option maxHeartbeats 4000000 in
theorem ct_S_exclude (l : Launch) (b : Nat) (id : Nat → ClassId) (D : va_G) (htr : l.stackTraces = false) {g : Sg} {F : Fam} (hV : zV F) (hc : Hc g F) {k : Lg} (hl : Hl g k) (x y : Int32) (is : Bool) : qCT l b id D m_S_exclude false [.ref (b + 0), .int x, .int y, .int (bI is)] 85 kT g 85 kT (cP (k_two F x y) (some (.int (bI (!(zx F (zi x) (zi y) == is))))) g (f_exclude F x y is) k) (cX (k_two F x y) g) := by
  have hW := hV.1
  have hn := hW.1
  refine qCT_of rfl (by decide) (Nat.le_of_ble_eq_true rfl) ?_
  show Vq l b id D m_S_exclude false 85 kT _ 85 kT _ 85 kT 0 0 0 [(0, .ref (b + 0)), (1, .int x), (2, .int y), (3, .int (bI is))] [] g
  refine vq_aload_n d_S_exclude_0 rfl ?_
  refine vq_iload_n d_S_exclude_1 rfl ?_
  refine vq_callV (n := 1) (C := R_S) (T := T_S) _ _ d_S_exclude_2 (ct_S_requirePerson l b id D htr hn hc x) w_473 w_475 sel_S_requirePerson w_476 w_1 rfl ⟨by decide, by decide, by decide +kernel⟩ ⟨by decide, by decide⟩ (by decide) rfl rfl rfl rfl (Nat.le_of_ble_eq_true rfl) rfl rfl rfl ⟨by decide, by decide⟩ (fun E g9 h => ⟨Or.inl ⟨by unfold k_two; rw [if_neg (fun hh => h.2.1 hh.1)], h.1⟩, h.2.2⟩) (fun v2 g2 h2 => ?_)
  obtain ⟨e12, hx, e22⟩ := h2
  rw [e12, e22]
  obtain ⟨p, hp, rfl⟩ := zok_p hx
  have hz : zi (nI p) = p := zi_nI (by omega)
  refine vq_aload_n d_S_exclude_5 rfl ?_
  refine vq_iload_n d_S_exclude_6 rfl ?_
  refine vq_callV (n := 1) (C := R_S) (T := T_S) _ _ d_S_exclude_7 (ct_S_requirePerson l b id D htr hn hc y) w_473 w_475 sel_S_requirePerson w_476 w_1 rfl ⟨by decide, by decide, by decide +kernel⟩ ⟨by decide, by decide⟩ (by decide) rfl rfl rfl rfl (Nat.le_of_ble_eq_true rfl) rfl rfl rfl ⟨by decide, by decide⟩ (fun E g9 h => ⟨Or.inl ⟨by unfold k_two; rw [if_neg (fun hh => h.2.1 hh.2)], h.1⟩, h.2.2⟩) (fun v7 g7 h7 => ?_)
  obtain ⟨e17, hy, e27⟩ := h7
  rw [e17, e27]
  obtain ⟨r, hr, rfl⟩ := zok_p hy
  have hz2 : zi (nI r) = r := zi_nI (by omega)
  have hk : k_two F (nI p) (nI r) = 0 := by unfold k_two; rw [if_pos ⟨hx, hy⟩]
  have hF : f_exclude F (nI p) (nI r) is = (zn F, za F, zb F, zs F, zd F, zo F, zg F, zset (zx F) p (zset (zx F p) r is)) := by unfold f_exclude; rw [if_pos hk, hz, hz2]
  refine vq_aload_n d_S_exclude_10 rfl ?_
  refine vq_getR (k := 0) (C := R_S) (T := T_S) d_S_exclude_11 rfl in_S w_210 (by decide) rfl (by decide) rfl rfl ?_
  refine vq_iload_n d_S_exclude_14 rfl ?_
  refine vq_iload_n d_S_exclude_15 rfl ?_
  refine vq_callV (n := 2) (C := R_F) (T := T_F) _ _ d_S_exclude_16 (ct_F_isExcluded l b id D hW hc (w := p) (f := r) (by omega) (by omega)) w_522 w_266 w_267 w_268 w_2 rfl ⟨by decide, by decide, by decide +kernel⟩ ⟨by decide, by decide⟩ (by decide) rfl rfl rfl rfl (Nat.le_of_ble_eq_true rfl) rfl rfl rfl ⟨by decide, by decide⟩ (fun _ _ h => h.elim) (fun v16 g16 h16 => ?_)
  rw [h16.1, h16.2]
  refine vq_iload_n d_S_exclude_19 rfl ?_
  refine vq_icmp_ne (tgt := 25) d_S_exclude_20 (by decide) (fun h20 => ?_) (fun h20 => ?_)
  · refine vq_aload_n d_S_exclude_25 rfl ?_
    refine vq_getR (k := 0) (C := R_S) (T := T_S) d_S_exclude_26 rfl in_S w_210 (by decide) rfl (by decide) rfl rfl ?_
    refine vq_iload_n d_S_exclude_29 rfl ?_
    refine vq_iload_n d_S_exclude_30 rfl ?_
    refine vq_iload_n d_S_exclude_31 rfl ?_
    refine vq_callV (n := 3) (C := R_F) (T := T_F) _ _ d_S_exclude_32 (ct_F_setExcluded l b id D (w := p) (f := r) (by omega) (by omega) is) w_523 w_524 w_525 w_526 w_2 rfl ⟨by decide, by decide, by decide +kernel⟩ ⟨by decide, by decide⟩ (by decide) rfl rfl rfl rfl (Nat.le_of_ble_eq_true rfl) rfl rfl rfl ⟨by decide, by decide⟩ (fun _ _ h => h.elim) (fun v32 g32 h32 => ?_)
    obtain ⟨rfl, y, rfl, hy9⟩ := h32
    refine vq_iconst (v := 1) d_S_exclude_35 (by decide) ?_
    refine vq_zret d_S_exclude_36 rfl (by first | exact Or.inl rfl | exact Or.inr rfl | assumption) (by decide) (by decide) rfl rfl ?_
    have e1 : ¬ zx F p r = is := fun h => h20 (by rw [h])
    obtain ⟨c1, c2, c3, c4, c5, c6, c7, c8⟩ := hc
    rw [hF]
    refine ⟨hk, by rw [hz, hz2, show (zx F p r == is) = false by simp [e1]]; rfl, ⟨c1, c2, c3, c4, c5, c6, fun c i h1 h2 => ?_, fun w f h1 h2 => ?_⟩, hl.congr (fun q _ _ => rfl), fun q hq => ⟨?_, rfl⟩⟩
    · rw [sI_n (by omega)]; exact c7 c i h1 h2
    · rw [sI_s, upd]
      show _ = zset (zx F) p (zset (zx F p) r is) w f
      by_cases e3 : f = r
      · rw [if_pos e3, hy9 w h1]
        by_cases e4 : w = p
        · rw [if_pos e4, e4, zset_s, e3, zset_s]
        · rw [if_neg e4, zset_n e4, e3]; exact c8 w r h1 (by omega)
      · rw [if_neg e3, c8 w f h1 h2]
        by_cases e4 : w = p
        · rw [e4, zset_s, zset_n e3]
        · rw [zset_n e4]
    · rw [sI_n (by omega)]
  · refine vq_iconst (v := 0) d_S_exclude_23 (by decide) ?_
    refine vq_zret d_S_exclude_24 rfl (by first | exact Or.inl rfl | exact Or.inr rfl | assumption) (by decide) (by decide) rfl rfl ?_
    have e1 : zx F p r = is := by cases h1 : zx F p r <;> cases h2 : is <;> rw [h1, h2] at h20 <;> first | rfl | cases h20
    rw [hF]
    refine ⟨hk, by rw [hz, hz2, e1]; simp [bI], ?_, hl, fun q hq => ⟨rfl, rfl⟩⟩
    have e2 : zset (zx F) p (zset (zx F p) r is) = zx F := by
      funext w f
      by_cases e3 : w = p
      · rw [e3, zset_s]
        by_cases e4 : f = r
        · rw [e4, zset_s, e1]
        · rw [zset_n e4]
      · rw [zset_n e3]
    rw [e2]
    exact hc
set_option maxRecDepth 100000 in
set_option maxHeartbeats 4000000 in
theorem ct_S_gift (l : Launch) (b : Nat) (id : Nat → ClassId) (D : va_G) (htr : l.stackTraces = false) {g : Sg} {F : Fam} (hV : zV F) (hc : Hc g F) {k : Lg} (hl : Hl g k) (x y w : Int32) : qCT l b id D m_S_gift false [.ref (b + 0), .int x, .int y, .int w] 85 kT g 85 kT (cP (k_gift F x y w) (some (.int (nI (zg F (zi x) (zi y) + zi w)))) g (f_gift F x y w) k) (cX (k_gift F x y w) g) := by
  have hW := hV.1
  have hn := hW.1
  refine qCT_of rfl (by decide) (Nat.le_of_ble_eq_true rfl) ?_
  show Vq l b id D m_S_gift false 85 kT _ 85 kT _ 85 kT 0 0 0 [(0, .ref (b + 0)), (1, .int x), (2, .int y), (3, .int w)] [] g
  refine vq_aload_n d_S_gift_0 rfl ?_
  refine vq_iload_n d_S_gift_1 rfl ?_
  refine vq_callV (n := 1) (C := R_S) (T := T_S) _ _ d_S_gift_2 (ct_S_requirePerson l b id D htr hn hc x) w_473 w_475 sel_S_requirePerson w_476 w_1 rfl ⟨by decide, by decide, by decide +kernel⟩ ⟨by decide, by decide⟩ (by decide) rfl rfl rfl rfl (Nat.le_of_ble_eq_true rfl) rfl rfl rfl ⟨by decide, by decide⟩ (fun E g9 h => ⟨Or.inl ⟨by unfold k_gift; rw [if_neg (fun hh => h.2.1 hh.1)], h.1⟩, h.2.2⟩) (fun v2 g2 h2 => ?_)
  obtain ⟨e12, hx, e22⟩ := h2
  rw [e12, e22]
  obtain ⟨p, hp, rfl⟩ := zok_p hx
  have hz : zi (nI p) = p := zi_nI (by omega)
  refine vq_aload_n d_S_gift_5 rfl ?_
  refine vq_iload_n d_S_gift_6 rfl ?_
  refine vq_callV (n := 1) (C := R_S) (T := T_S) _ _ d_S_gift_7 (ct_S_requirePerson l b id D htr hn hc y) w_473 w_475 sel_S_requirePerson w_476 w_1 rfl ⟨by decide, by decide, by decide +kernel⟩ ⟨by decide, by decide⟩ (by decide) rfl rfl rfl rfl (Nat.le_of_ble_eq_true rfl) rfl rfl rfl ⟨by decide, by decide⟩ (fun E g9 h => ⟨Or.inl ⟨by unfold k_gift; rw [if_neg (fun hh => h.2.1 hh.2.1)], h.1⟩, h.2.2⟩) (fun v7 g7 h7 => ?_)
  obtain ⟨e17, hy, e27⟩ := h7
  rw [e17, e27]
  obtain ⟨r, hr, rfl⟩ := zok_p hy
  have hz2 : zi (nI r) = r := zi_nI (by omega)
  refine vq_aload_n d_S_gift_10 rfl ?_
  refine vq_getR (k := 0) (C := R_S) (T := T_S) d_S_gift_11 rfl in_S w_210 (by decide) rfl (by decide) rfl rfl ?_
  refine vq_iload_n d_S_gift_14 rfl ?_
  refine vq_iload_n d_S_gift_15 rfl ?_
  refine vq_callV (n := 2) (C := R_F) (T := T_F) _ _ d_S_gift_16 (ct_F_isChild l b id D hW hc hp hr) w_534 w_303 w_304 w_305 w_2 rfl ⟨by decide, by decide, by decide +kernel⟩ ⟨by decide, by decide⟩ (by decide) rfl rfl rfl rfl (Nat.le_of_ble_eq_true rfl) rfl rfl rfl ⟨by decide, by decide⟩ (fun _ _ h => h.elim) (fun v16 g16 h16 => ?_)
  rw [h16.1, h16.2]
  refine vq_if_ne (tgt := 32) d_S_gift_19 (by decide) (fun h19 => ?_) (fun h19 => ?_)
  · rw [bI_n0] at h19
    refine vq_iload_n d_S_gift_32 rfl ?_
    refine vq_iconst (v := 1) d_S_gift_33 (by decide) ?_
    refine vq_icmp_lt (tgt := 43) d_S_gift_34 (by decide) (fun h34 => ?_) (fun h34 => ?_)
    · simp only [Int32.lt_iff_toInt_lt, Int32.le_iff_toInt_le, ← Int32.toInt_inj, tI0, tI1, tIm1, tI999, tIm, tI20] at h34
      refine vq_throw (text := "a gift is 1 to 1000000 cents") (names := ["java/lang/RuntimeException", "java/lang/Exception"]) htr d_S_gift_43 d_S_gift_46 d_S_gift_47 d_S_gift_49 d_S_gift_52 (by decide) (by decide) w_378 w_11 w_379 (by decide) (by decide +kernel) rfl (by decide) (by decide) (Nat.le_of_ble_eq_true rfl) (Nat.le_of_ble_eq_true rfl) rfl rfl ?_
      exact ⟨Or.inl ⟨by unfold k_gift; rw [if_neg (fun hh => by omega)], rfl⟩, rfl⟩
    · simp only [Int32.lt_iff_toInt_lt, Int32.le_iff_toInt_le, ← Int32.toInt_inj, tI0, tI1, tIm1, tI999, tIm, tI20] at h34
      refine vq_iload_n d_S_gift_37 rfl ?_
      refine vq_ldc d_S_gift_38 w_536 ?_
      refine vq_icmp_le (tgt := 53) d_S_gift_40 (by decide) (fun h40 => ?_) (fun h40 => ?_)
      · simp only [Int32.lt_iff_toInt_lt, Int32.le_iff_toInt_le, ← Int32.toInt_inj, tI0, tI1, tIm1, tI999, tIm, tI20] at h40
        refine vq_aload_n d_S_gift_53 rfl ?_
        refine vq_getR (k := 0) (C := R_S) (T := T_S) d_S_gift_54 rfl in_S w_210 (by decide) rfl (by decide) rfl rfl ?_
        refine vq_getR (k := 6) (C := R_F) (T := T_F) d_S_gift_57 rfl in_F w_56 (by decide) rfl (by decide) rfl rfl ?_
        refine vq_iload_n d_S_gift_60 rfl ?_
        refine vq_aald4 d_S_gift_61 (by decide) rfl rfl (show _ < 20 by omega) ?_
        refine vq_iload_n d_S_gift_62 rfl ?_
        refine vq_iald d_S_gift_63 (show 8 + _ < 85 by omega) (qK_gi _ (by omega)) rfl (Nat.lt_of_lt_of_eq (show _ < 20 by omega) (qL_gi _ (by omega)).symm) ?_
        refine vq_int (y := nI (zg F p r)) (hc.2.2.2.2.2.2.1 p r (by omega) (by omega)) ?_
        refine vq_iload_n d_S_gift_64 rfl ?_
        refine vq_iadd d_S_gift_65 ?_
        rw [show nI (zg F p r) + w = nI (zg F p r + zi w) by rw [← nI_add, ← nI_zi (x := w) (by omega)]]
        refine vq_istore (lv' := [(4, _), (0, _), (1, _), (2, _), (3, _)]) d_S_gift_66 (by decide) rfl ?_
        refine vq_iload d_S_gift_68 rfl ?_
        refine vq_ldc d_S_gift_70 w_536 ?_
        refine vq_icmp_le (tgt := 85) d_S_gift_72 (by decide) (fun h72 => ?_) (fun h72 => ?_)
        · simp only [Int32.lt_iff_toInt_lt, Int32.le_iff_toInt_le, ← Int32.toInt_inj, tI0, tI1, tIm1, tI999, tIm, tI20, nI_toInt (show zg F p r + zi w < 2 ^ 31 by have := hW.2.2.2.2.2.2.2 p r; unfold zi; omega)] at h72
          refine vq_aload_n d_S_gift_85 rfl ?_
          refine vq_getR (k := 0) (C := R_S) (T := T_S) d_S_gift_86 rfl in_S w_210 (by decide) rfl (by decide) rfl rfl ?_
          refine vq_getR (k := 6) (C := R_F) (T := T_F) d_S_gift_89 rfl in_F w_56 (by decide) rfl (by decide) rfl rfl ?_
          refine vq_iload_n d_S_gift_92 rfl ?_
          refine vq_aald4 d_S_gift_93 (by decide) rfl rfl (show _ < 20 by omega) ?_
          refine vq_iload_n d_S_gift_94 rfl ?_
          refine vq_iload d_S_gift_95 rfl ?_
          refine vq_iast d_S_gift_97 rfl (show 8 + _ < 85 by omega) (qK_gi _ (by omega)) rfl (Nat.lt_of_lt_of_eq (show _ < 20 by omega) (qL_gi _ (by omega)).symm) ?_
          refine vq_iload d_S_gift_98 rfl ?_
          refine vq_iret d_S_gift_100 rfl (by decide) (by decide) rfl rfl ?_
          have hk : k_gift F (nI p) (nI r) w = 0 := by unfold k_gift; rw [hz, hz2, if_pos ⟨hx, hy, h19, by omega, by omega⟩, if_pos (by omega)]
          have hq7 : qC 7 = 8 := rfl
          obtain ⟨c1, c2, c3, c4, c5, c6, c7, c8⟩ := hc
          have hF : f_gift F (nI p) (nI r) w = (zn F, za F, zb F, zs F, zd F, zo F, zset (zg F) p (zset (zg F p) r (zg F p r + zi w)), zx F) := by unfold f_gift; rw [if_pos hk, hz, hz2]
          rw [hF]
          refine ⟨hk, by rw [hz, hz2], ⟨?_, fun i hi => ?_, fun i hi => ?_, fun i hi => ?_, fun i hi => ?_, fun i hi => ?_, fun c i h1 h2 => ?_, fun w9 f h1 h2 => ?_⟩, hl.congr (fun q _ _ => rfl), fun q hq => ⟨?_, rfl⟩⟩
          · rw [sI_n (by omega)]; exact c1
          · rw [sI_n (by omega)]; exact c2 i hi
          · rw [sI_n (by omega)]; exact c3 i hi
          · rw [sI_n (by omega)]; exact c4 i hi
          · rw [sI_n (by omega)]; exact c5 i hi
          · rw [sI_n (by omega)]; exact c6 i hi
          · show (sI g (8 + p) (upd (g.1 (8 + p)) r (nI (zg F p r + zi w)))).1 (8 + c) i = nI (zset (zg F) p (zset (zg F p) r (zg F p r + zi w)) c i)
            by_cases e : c = p
            · rw [e, sI_s, upd, zset_s]
              by_cases e2 : i = r
              · rw [if_pos e2, e2, zset_s]
              · rw [if_neg e2, zset_n e2]; exact c7 p i (by omega) h2
            · rw [sI_n (by omega), zset_n e]; exact c7 c i h1 h2
          · rw [sI_n (by omega)]; exact c8 w9 f h1 h2
          · rw [sI_n (by omega)]
        · simp only [Int32.lt_iff_toInt_lt, Int32.le_iff_toInt_le, ← Int32.toInt_inj, tI0, tI1, tIm1, tI999, tIm, tI20, nI_toInt (show zg F p r + zi w < 2 ^ 31 by have := hW.2.2.2.2.2.2.2 p r; unfold zi; omega)] at h72
          refine vq_throw (text := "all gifts would be above 1000000 cents") (names := ["java/lang/RuntimeException", "java/lang/Exception"]) htr d_S_gift_75 d_S_gift_78 d_S_gift_79 d_S_gift_81 d_S_gift_84 (by decide) (by decide) w_446 w_12 w_447 (by decide) (by decide +kernel) rfl (by decide) (by decide) (Nat.le_of_ble_eq_true rfl) (Nat.le_of_ble_eq_true rfl) rfl rfl ?_
          exact ⟨Or.inr ⟨by unfold k_gift; rw [hz, hz2, if_pos ⟨hx, hy, h19, by omega, by omega⟩, if_neg (by omega)], rfl⟩, rfl⟩
      · simp only [Int32.lt_iff_toInt_lt, Int32.le_iff_toInt_le, ← Int32.toInt_inj, tI0, tI1, tIm1, tI999, tIm, tI20] at h40
        refine vq_throw (text := "a gift is 1 to 1000000 cents") (names := ["java/lang/RuntimeException", "java/lang/Exception"]) htr d_S_gift_43 d_S_gift_46 d_S_gift_47 d_S_gift_49 d_S_gift_52 (by decide) (by decide) w_378 w_11 w_379 (by decide) (by decide +kernel) rfl (by decide) (by decide) (Nat.le_of_ble_eq_true rfl) (Nat.le_of_ble_eq_true rfl) rfl rfl ?_
        exact ⟨Or.inl ⟨by unfold k_gift; rw [if_neg (fun hh => by omega)], rfl⟩, rfl⟩
  · rw [bI_0] at h19
    refine vq_throw (text := "gifts that count come from a parent") (names := ["java/lang/RuntimeException", "java/lang/Exception"]) htr d_S_gift_22 d_S_gift_25 d_S_gift_26 d_S_gift_28 d_S_gift_31 (by decide) (by decide) w_378 w_11 w_379 (by decide) (by decide +kernel) rfl (by decide) (by decide) (Nat.le_of_ble_eq_true rfl) (Nat.le_of_ble_eq_true rfl) rfl rfl ?_
    exact ⟨Or.inl ⟨by unfold k_gift; rw [hz, hz2, if_neg (fun hh => by rw [hh.2.2.1] at h19; cases h19)], rfl⟩, rfl⟩
