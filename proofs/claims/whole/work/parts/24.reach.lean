/-! SuccessionClerk$Survey: stems. Laid by wip/whole/specs/p24.py -/
def zfst (P : Nat → Bool) : Nat → Option Nat
  | 0 => none
  | k + 1 => match zfst P k with
    | some i => some i
    | none => if P k = true then some k else none
theorem zfst_none {P : Nat → Bool} {k : Nat} (h : zfst P k = none) (hp : P k = false) : zfst P (k + 1) = none := by
  show (match zfst P k with | some i => some i | none => if P k = true then some k else none) = none
  rw [h]; simp [hp]
theorem zfst_some {P : Nat → Bool} {k : Nat} (h : zfst P k = none) (hp : P k = true) : zfst P (k + 1) = some k := by
  show (match zfst P k with | some i => some i | none => if P k = true then some k else none) = some k
  rw [h]; simp [hp]
theorem zfst_on {P : Nat → Bool} {k i : Nat} (h : zfst P k = some i) : ∀ d, zfst P (k + d) = some i
  | 0 => h
  | d + 1 => by
    show (match zfst P (k + d) with | some i => some i | none => if P (k + d) = true then some (k + d) else none) = some i
    rw [zfst_on h d]
theorem zfst_congr {P Q : Nat → Bool} : ∀ {k : Nat}, (∀ i, i < k → P i = Q i) → zfst P k = zfst Q k
  | 0, _ => rfl
  | k + 1, h => by
    show (match zfst P k with | some i => some i | none => if P k = true then some k else none) = (match zfst Q k with | some i => some i | none => if Q k = true then some k else none)
    rw [zfst_congr (k := k) (fun i hi => h i (by omega)), h k (by omega)]
def zbg (F : Fam) (e top : Nat) : Bool := if zt F e = 0 then zch F top e else zan F (zt F e) e top
def zst (F : Fam) (e w : Nat) : Option Nat := if zt F e ≤ 3 ∧ zl F e w = true then zfst (fun t => zbg F e t && zR F e t w) (w + 1) else none
def m_V_passesOn : Mt := (y_V_passesOn, c_V_passesOn, 2, { frames := 8, cells := 0, slots := 0, locals := 130 }, (some .boolean), none)
def m_V_stemReaches : Mt := (y_V_stemReaches, c_V_stemReaches, 4, { frames := 9, cells := 0, slots := 0, locals := 175 }, (some .boolean), none)
def m_V_beginsOrder : Mt := (y_V_beginsOrder, c_V_beginsOrder, 2, { frames := 14, cells := 0, slots := 0, locals := 400 }, (some .boolean), none)
def m_V_leastStemOver : Mt := (y_V_leastStemOver, c_V_leastStemOver, 3, { frames := 15, cells := 0, slots := 0, locals := 445 }, (some .int), none)
set_option maxRecDepth 100000 in
set_option maxHeartbeats 4000000 in
theorem ct_V_passesOn (l : Launch) (b : Nat) (id : Nat → ClassId) (D : va_G) {g : Sg} {o : Option Nat} {Rf Lf : Nat → Bool} (hL : ∀ j, o = some j → j < 20 ∧ g.1 33 j = bI (Rf j) ∧ g.1 30 j = bI (Lf j)) : qCT l b id D m_V_passesOn false [.ref (b + 29), .int (eO o)] 85 kT g 85 kT (fun v g' => v = some (.int (bI (zoB o (fun j => Rf j && !Lf j)))) ∧ g' = g) (fun _ _ => False) := by
  refine qCT_of rfl (by decide) (Nat.le_of_ble_eq_true rfl) ?_
  show Vq l b id D m_V_passesOn false 85 kT _ 85 kT _ 85 kT 0 0 0 [(0, .ref (b + 29)), (1, .int (eO o))] [] g
  refine vq_iload_n d_V_passesOn_0 rfl ?_
  refine vq_iconst (v := -1) d_V_passesOn_1 (by decide) ?_
  refine vq_icmp_eq (tgt := 27) d_V_passesOn_2 (by decide) (fun h2 => ?_) (fun h2 => ?_)
  · have ho : o = none := (eO_m1 (fun j hj => Nat.lt_trans (hL j hj).1 (by decide))).mp h2
    refine vq_iconst (v := 0) d_V_passesOn_27 (by decide) ?_
    refine vq_zret d_V_passesOn_28 rfl (by first | exact Or.inl rfl | exact Or.inr rfl | assumption) (by decide) (by decide) rfl rfl ?_
    first | refine ⟨r0 ?_, rfl⟩ | refine ⟨r1 ?_, rfl⟩
    first | (rw [ho]; rfl) | (simp [zoB, h11]; done) | (simp [zoB, h11, h20]; done)
  · obtain ⟨j, rfl⟩ : ∃ j, o = some j := by cases o with | none => exact absurd rfl h2 | some j => exact ⟨j, rfl⟩
    obtain ⟨hj, hv, hw⟩ := hL j rfl
    refine vq_aload_n d_V_passesOn_5 rfl ?_
    refine vq_getR (k := 7) (C := R_V) (T := T_V) d_V_passesOn_6 rfl in_V w_97 (by decide) rfl (by decide) rfl rfl ?_
    refine vq_iload_n d_V_passesOn_9 rfl ?_
    refine vq_zald d_V_passesOn_10 (by decide) rfl rfl (show _ < 20 by omega) ?_
    refine vq_if_eq (tgt := 27) d_V_passesOn_11 (by decide) (fun h11 => ?_) (fun h11 => ?_)
    · rw [hv, bI_0] at h11
      refine vq_iconst (v := 0) d_V_passesOn_27 (by decide) ?_
      refine vq_zret d_V_passesOn_28 rfl (by first | exact Or.inl rfl | exact Or.inr rfl | assumption) (by decide) (by decide) rfl rfl ?_
      first | refine ⟨r0 ?_, rfl⟩ | refine ⟨r1 ?_, rfl⟩
      first | (rw [ho]; rfl) | (simp [zoB, h11]; done) | (simp [zoB, h11, h20]; done)
    · rw [hv, bI_n0] at h11
      refine vq_aload_n d_V_passesOn_14 rfl ?_
      refine vq_getR (k := 4) (C := R_V) (T := T_V) d_V_passesOn_15 rfl in_V w_92 (by decide) rfl (by decide) rfl rfl ?_
      refine vq_iload_n d_V_passesOn_18 rfl ?_
      refine vq_zald d_V_passesOn_19 (by decide) rfl rfl (show _ < 20 by omega) ?_
      refine vq_if_ne (tgt := 27) d_V_passesOn_20 (by decide) (fun h20 => ?_) (fun h20 => ?_)
      · rw [hw, bI_n0] at h20
        refine vq_iconst (v := 0) d_V_passesOn_27 (by decide) ?_
        refine vq_zret d_V_passesOn_28 rfl (by first | exact Or.inl rfl | exact Or.inr rfl | assumption) (by decide) (by decide) rfl rfl ?_
        first | refine ⟨r0 ?_, rfl⟩ | refine ⟨r1 ?_, rfl⟩
        first | (rw [ho]; rfl) | (simp [zoB, h11]; done) | (simp [zoB, h11, h20]; done)
      · rw [hw, bI_0] at h20
        refine vq_iconst (v := 1) d_V_passesOn_23 (by decide) ?_
        refine vq_goto (tgt := 28) d_V_passesOn_24 (by decide) ?_
        refine vq_zret d_V_passesOn_28 rfl (by first | exact Or.inl rfl | exact Or.inr rfl | assumption) (by decide) (by decide) rfl rfl ?_
        first | refine ⟨r0 ?_, rfl⟩ | refine ⟨r1 ?_, rfl⟩
        first | (rw [ho]; rfl) | (simp [zoB, h11]; done) | (simp [zoB, h11, h20]; done)
set_option maxRecDepth 100000 in
set_option maxHeartbeats 4000000 in
theorem ct_V_stemReaches (l : Launch) (b : Nat) (id : Nat → ClassId) (D : va_G) {g : Sg} {F : Fam} (hW : zW F) (hc : Hc g F) {e t w : Nat} (hl30 : ∀ p, p < zn F → g.1 30 p = bI (zl F e p)) (ht : t < zn F) (hw : w < zn F) : qCT l b id D m_V_stemReaches false [.ref (b + 29), .int (nI t), .int (nI w)] 85 kT g 85 kT (fun v g' => v = some (.int (bI (zR F e t w))) ∧ g'.2 = g.2 ∧ ∀ q, q ≠ 33 → g'.1 q = g.1 q) (fun _ _ => False) := by
  have hn := hW.1
  refine qCT_of rfl (by decide) (Nat.le_of_ble_eq_true rfl) ?_
  show Vq l b id D m_V_stemReaches false 85 kT _ 85 kT _ 85 kT 0 0 0 [(0, .ref (b + 29)), (1, .int (nI t)), (2, .int (nI w))] [] g
  have loop : ∀ (n9 : Nat) (i : Nat) (g1 : Sg), w + 1 - i = n9 → (i ≤ w + 1 ∧ g1.2 = g.2 ∧ (∀ q, q ≠ 33 → g1.1 q = g.1 q) ∧ ∀ j, j < i → g1.1 33 j = bI (zR F e t j)) → Vq l b id D m_V_stemReaches false 85 kT (fun v g' => v = some (.int (bI (zR F e t w))) ∧ g'.2 = g.2 ∧ ∀ q, q ≠ 33 → g'.1 q = g.1 q) 85 kT (fun _ _ => False) 85 kT 0 0 2 [(3, .int (nI i)), (0, .ref (b + 29)), (1, .int (nI t)), (2, .int (nI w))] [] g1 := by
    intro n9
    induction n9 using Nat.strongRecOn with
    | ind n9 ih =>
    intro i g1 hm hI
    have hi1 := hI.1
    refine vq_iload_n d_V_stemReaches_2 rfl ?_
    refine vq_iload_n d_V_stemReaches_3 rfl ?_
    refine vq_icmp_gt (tgt := 61) d_V_stemReaches_4 (by decide) (fun h4 => ?_) (fun h4 => ?_)
    · have hi : i = w + 1 := by
        rw [nI_ltI (by omega) (by omega)] at h4
        omega
      refine vq_aload_n d_V_stemReaches_61 rfl ?_
      refine vq_getR (k := 7) (C := R_V) (T := T_V) d_V_stemReaches_62 rfl in_V w_97 (by decide) rfl (by decide) rfl rfl ?_
      refine vq_iload_n d_V_stemReaches_65 rfl ?_
      refine vq_zald d_V_stemReaches_66 (by decide) rfl rfl (show _ < 20 by omega) ?_
      refine vq_int (y := bI (zR F e t w)) (hI.2.2.2 w (by omega)) ?_
      refine vq_zret d_V_stemReaches_67 rfl (bI_01 _) (by decide) (by decide) rfl rfl ?_
      exact ⟨rfl, hI.2.1, hI.2.2.1⟩
    · have hi : i ≤ w := by
        rw [nI_ltI (by omega) (by omega)] at h4
        omega
      have hin : i < zn F := by omega
      have hc1 : Hc g1 F := hc.congr (fun q a c => hI.2.2.1 q (by omega))
      have hza := hc1.2.1 i hin
      have hzb := hc1.2.2.1 i hin
      have hq := zR_eq (e := e) hW t hin
      have hL1 : ∀ (o : Option Nat), (∀ j, o = some j → j < i) → ∀ j, o = some j → j < 20 ∧ g1.1 33 j = bI (zR F e t j) ∧ g1.1 30 j = bI (zl F e j) := fun o ho j hj => ⟨by have := ho j hj; omega, hI.2.2.2 j (ho j hj), by rw [hI.2.2.1 30 (by decide)]; exact hl30 j (by have := ho j hj; omega)⟩
      have s55 : ∀ (g2 : Sg), (g2.2 = g.2 ∧ (∀ q, q ≠ 33 → g2.1 q = g.1 q) ∧ ∀ j, j < i + 1 → g2.1 33 j = bI (zR F e t j)) → Vq l b id D m_V_stemReaches false 85 kT (fun v g' => v = some (.int (bI (zR F e t w))) ∧ g'.2 = g.2 ∧ ∀ q, q ≠ 33 → g'.1 q = g.1 q) 85 kT (fun _ _ => False) 85 kT 0 0 55 [(3, .int (nI i)), (0, .ref (b + 29)), (1, .int (nI t)), (2, .int (nI w))] [] g2 := by
        intro g2 hI2
        refine vq_iinc (k := 0) (lv' := [(3, _), (0, _), (1, _), (2, _)]) d_V_stemReaches_55 rfl (ip1 i) (by decide) rfl ?_
        refine vq_goto (tgt := 2) d_V_stemReaches_58 (by decide) ?_
        exact ih (w + 1 - (i + 1)) (by omega) (i + 1) _ rfl ⟨by omega, hI2⟩
      refine vq_aload_n d_V_stemReaches_7 rfl ?_
      refine vq_getR (k := 7) (C := R_V) (T := T_V) d_V_stemReaches_8 rfl in_V w_97 (by decide) rfl (by decide) rfl rfl ?_
      refine vq_iload_n d_V_stemReaches_11 rfl ?_
      refine vq_iload_n d_V_stemReaches_12 rfl ?_
      refine vq_iload_n d_V_stemReaches_13 rfl ?_
      refine vq_icmp_eq (tgt := 49) d_V_stemReaches_14 (by decide) (fun h14 => ?_) (fun h14 => ?_)
      · rw [nI_eq (by omega) (by omega)] at h14
        have hx : zR F e t i = true := by rw [hq]; simp [h14]
        refine vq_iconst (v := 1) d_V_stemReaches_49 (by decide) ?_
        refine vq_goto (tgt := 54) d_V_stemReaches_50 (by decide) ?_
        refine vq_zast d_V_stemReaches_54 rfl (by decide) rfl rfl (show _ < 20 by omega) (by first | exact Or.inl rfl | exact Or.inr rfl) ?_
        refine s55 _ ⟨hI.2.1, fun q hq9 => by rw [sI_n hq9]; exact hI.2.2.1 q hq9, fun j hj => ?_⟩
        rw [sI_s, upd]
        by_cases e1 : j = i
        · rw [if_pos e1, e1, hx]; rfl
        · rw [if_neg e1]; exact hI.2.2.2 j (by omega)
      · rw [nI_eq (by omega) (by omega)] at h14
        refine vq_aload_n d_V_stemReaches_17 rfl ?_
        refine vq_aload_n d_V_stemReaches_18 rfl ?_
        refine vq_getR (k := 0) (C := R_V) (T := T_V) d_V_stemReaches_19 rfl in_V w_82 (by decide) rfl (by decide) rfl rfl ?_
        refine vq_getR (k := 1) (C := R_F) (T := T_F) d_V_stemReaches_22 rfl in_F w_39 (by decide) rfl (by decide) rfl rfl ?_
        refine vq_iload_n d_V_stemReaches_25 rfl ?_
        refine vq_iald d_V_stemReaches_26 (by decide) rfl rfl (show _ < 20 by omega) ?_
        refine vq_int (y := eO (za F i)) hza ?_
        refine vq_callV (n := 1) (C := R_V) (T := T_V) _ _ d_V_stemReaches_27 (ct_V_passesOn l b id D (o := za F i) (Rf := zR F e t) (Lf := zl F e) (hL1 _ (fun j hj => hW.2.1 i j hin hj))) w_620 w_622 sel_V_passesOn w_623 w_3 rfl ⟨by decide, by decide, by decide +kernel⟩ ⟨by decide, by decide⟩ (by decide) rfl rfl rfl rfl (Nat.le_of_ble_eq_true rfl) rfl rfl rfl ⟨by decide, by decide⟩ (fun _ _ h => h.elim) (fun v27 g27 h27 => ?_)
        rw [h27.1, h27.2]
        refine vq_if_ne (tgt := 49) d_V_stemReaches_30 (by decide) (fun h30 => ?_) (fun h30 => ?_)
        · have hx : zR F e t i = true := by rw [hq, bI_n0.mp h30]; simp
          refine vq_iconst (v := 1) d_V_stemReaches_49 (by decide) ?_
          refine vq_goto (tgt := 54) d_V_stemReaches_50 (by decide) ?_
          refine vq_zast d_V_stemReaches_54 rfl (by decide) rfl rfl (show _ < 20 by omega) (by first | exact Or.inl rfl | exact Or.inr rfl) ?_
          refine s55 _ ⟨hI.2.1, fun q hq9 => by rw [sI_n hq9]; exact hI.2.2.1 q hq9, fun j hj => ?_⟩
          rw [sI_s, upd]
          by_cases e1 : j = i
          · rw [if_pos e1, e1, hx]; rfl
          · rw [if_neg e1]; exact hI.2.2.2 j (by omega)
        · have hp1 := bI_0.mp h30
          refine vq_aload_n d_V_stemReaches_33 rfl ?_
          refine vq_aload_n d_V_stemReaches_34 rfl ?_
          refine vq_getR (k := 0) (C := R_V) (T := T_V) d_V_stemReaches_35 rfl in_V w_82 (by decide) rfl (by decide) rfl rfl ?_
          refine vq_getR (k := 2) (C := R_F) (T := T_F) d_V_stemReaches_38 rfl in_F w_43 (by decide) rfl (by decide) rfl rfl ?_
          refine vq_iload_n d_V_stemReaches_41 rfl ?_
          refine vq_iald d_V_stemReaches_42 (by decide) rfl rfl (show _ < 20 by omega) ?_
          refine vq_int (y := eO (zb F i)) hzb ?_
          refine vq_callV (n := 1) (C := R_V) (T := T_V) _ _ d_V_stemReaches_43 (ct_V_passesOn l b id D (o := zb F i) (Rf := zR F e t) (Lf := zl F e) (hL1 _ (fun j hj => hW.2.2.1 i j hin hj))) w_620 w_622 sel_V_passesOn w_623 w_3 rfl ⟨by decide, by decide, by decide +kernel⟩ ⟨by decide, by decide⟩ (by decide) rfl rfl rfl rfl (Nat.le_of_ble_eq_true rfl) rfl rfl rfl ⟨by decide, by decide⟩ (fun _ _ h => h.elim) (fun v43 g43 h43 => ?_)
          rw [h43.1, h43.2]
          refine vq_if_eq (tgt := 53) d_V_stemReaches_46 (by decide) (fun h46 => ?_) (fun h46 => ?_)
          · have hx : zR F e t i = false := by rw [hq, hp1, bI_0.mp h46]; simp [h14]
            refine vq_iconst (v := 0) d_V_stemReaches_53 (by decide) ?_
            refine vq_zast d_V_stemReaches_54 rfl (by decide) rfl rfl (show _ < 20 by omega) (by first | exact Or.inl rfl | exact Or.inr rfl) ?_
            refine s55 _ ⟨hI.2.1, fun q hq9 => by rw [sI_n hq9]; exact hI.2.2.1 q hq9, fun j hj => ?_⟩
            rw [sI_s, upd]
            by_cases e1 : j = i
            · rw [if_pos e1, e1, hx]; rfl
            · rw [if_neg e1]; exact hI.2.2.2 j (by omega)
          · have hx : zR F e t i = true := by rw [hq, hp1, bI_n0.mp h46]; simp [h14]
            refine vq_iconst (v := 1) d_V_stemReaches_49 (by decide) ?_
            refine vq_goto (tgt := 54) d_V_stemReaches_50 (by decide) ?_
            refine vq_zast d_V_stemReaches_54 rfl (by decide) rfl rfl (show _ < 20 by omega) (by first | exact Or.inl rfl | exact Or.inr rfl) ?_
            refine s55 _ ⟨hI.2.1, fun q hq9 => by rw [sI_n hq9]; exact hI.2.2.1 q hq9, fun j hj => ?_⟩
            rw [sI_s, upd]
            by_cases e1 : j = i
            · rw [if_pos e1, e1, hx]; rfl
            · rw [if_neg e1]; exact hI.2.2.2 j (by omega)
  refine vq_iconst (v := 0) d_V_stemReaches_0 (by decide) ?_
  refine vq_istore_n (lv' := [(3, _), (0, _), (1, _), (2, _)]) d_V_stemReaches_1 (by decide) rfl ?_
  exact loop (w + 1) 0 _ rfl ⟨by omega, rfl, fun q hq => rfl, fun j hj => absurd hj (Nat.not_lt_zero j)⟩
def m_V_isAncestor0 : Mt := (y_V_isAncestor, c_V_isAncestor, 4, { frames := 8, cells := 0, slots := 0, locals := 130 }, (some .boolean), none)
def m_V_isAncestor1 : Mt := (y_V_isAncestor, c_V_isAncestor, 4, { frames := 9, cells := 0, slots := 0, locals := 175 }, (some .boolean), none)
def m_V_isAncestor2 : Mt := (y_V_isAncestor, c_V_isAncestor, 4, { frames := 10, cells := 0, slots := 0, locals := 220 }, (some .boolean), none)
def m_V_isAncestor3 : Mt := (y_V_isAncestor, c_V_isAncestor, 4, { frames := 11, cells := 0, slots := 0, locals := 265 }, (some .boolean), none)
set_option maxRecDepth 100000 in
set_option maxHeartbeats 4000000 in
theorem ct_V_isAncestor0 (l : Launch) (b : Nat) (id : Nat → ClassId) (D : va_G) {g : Sg} {F : Fam} (hW : zW F) (hc : Hc g F) {o : Option Nat} {t : Nat} (ho : ∀ j, o = some j → j < zn F) (ht : t < zn F) : qCT l b id D m_V_isAncestor0 false [.ref (b + 1), .int (nI t), .int (eO o), .int (nI 0)] 85 kT g 85 kT (fun v g' => v = some (.int (bI (zoB o (fun j => zan F 0 j t)))) ∧ g' = g) (fun _ _ => False) := by
  have hn := hW.1
  refine qCT_of rfl (by decide) (Nat.le_of_ble_eq_true rfl) ?_
  show Vq l b id D m_V_isAncestor0 false 85 kT _ 85 kT _ 85 kT 0 0 0 [(0, .ref (b + 1)), (1, .int (nI t)), (2, .int (eO o)), (3, .int (nI 0))] [] g
  refine vq_iload_n d_V_isAncestor_0 rfl ?_
  refine vq_iconst (v := -1) d_V_isAncestor_1 (by decide) ?_
  refine vq_icmp_eq (tgt := 9) d_V_isAncestor_2 (by decide) (fun h2 => ?_) (fun h2 => ?_)
  · have hj : o = none := (eO_m1 (fun j hj => Nat.lt_trans (ho j hj) (by omega))).mp h2
    subst hj
    refine vq_iload_n d_V_isAncestor_9 rfl ?_
    refine vq_iload_n d_V_isAncestor_10 rfl ?_
    refine vq_icmp_ne (tgt := 18) d_V_isAncestor_11 (by decide) (fun h11 => ?_) (fun h11 => ?_)
    · first | (rw [show eO (some j) = nI j from rfl, nI_eq (by omega) (by omega)] at h11) | (have h11b : ¬ nI t = -1 := nI_ne_m1 (by omega))
      refine vq_iconst (v := 0) d_V_isAncestor_18 (by decide) ?_
      refine vq_zret d_V_isAncestor_19 rfl (by first | exact Or.inl rfl | exact Or.inr rfl | assumption) (by decide) (by decide) rfl rfl ?_
      first | refine ⟨r0 ?_, rfl⟩ | refine ⟨r1 ?_, rfl⟩
      first | rfl | (show (j == t) = _; simp [h11]; done) | (exact absurd h11.symm h11b)
    · first | (rw [show eO (some j) = nI j from rfl, nI_eq (by omega) (by omega)] at h11) | (have h11b : ¬ nI t = -1 := nI_ne_m1 (by omega))
      refine vq_iconst (v := 1) d_V_isAncestor_14 (by decide) ?_
      refine vq_goto (tgt := 19) d_V_isAncestor_15 (by decide) ?_
      refine vq_zret d_V_isAncestor_19 rfl (by first | exact Or.inl rfl | exact Or.inr rfl | assumption) (by decide) (by decide) rfl rfl ?_
      first | refine ⟨r0 ?_, rfl⟩ | refine ⟨r1 ?_, rfl⟩
      first | rfl | (show (j == t) = _; simp [h11]; done) | (exact absurd h11.symm h11b)
  · obtain ⟨j, rfl⟩ : ∃ j, o = some j := by cases o with | none => exact absurd rfl h2 | some j => exact ⟨j, rfl⟩
    have hj := ho j rfl
    have hza := hc.2.1 j hj
    have hzb := hc.2.2.1 j hj
    refine vq_iload_n d_V_isAncestor_5 rfl ?_
    refine vq_if_gt (tgt := 20) d_V_isAncestor_6 (by decide) (fun h6 => absurd h6 (by decide)) (fun h6 => ?_)
    refine vq_iload_n d_V_isAncestor_9 rfl ?_
    refine vq_iload_n d_V_isAncestor_10 rfl ?_
    refine vq_icmp_ne (tgt := 18) d_V_isAncestor_11 (by decide) (fun h11 => ?_) (fun h11 => ?_)
    · first | (rw [show eO (some j) = nI j from rfl, nI_eq (by omega) (by omega)] at h11) | (have h11b : ¬ nI t = -1 := nI_ne_m1 (by omega))
      refine vq_iconst (v := 0) d_V_isAncestor_18 (by decide) ?_
      refine vq_zret d_V_isAncestor_19 rfl (by first | exact Or.inl rfl | exact Or.inr rfl | assumption) (by decide) (by decide) rfl rfl ?_
      first | refine ⟨r0 ?_, rfl⟩ | refine ⟨r1 ?_, rfl⟩
      first | rfl | (show (j == t) = _; simp [h11]; done) | (exact absurd h11.symm h11b)
    · first | (rw [show eO (some j) = nI j from rfl, nI_eq (by omega) (by omega)] at h11) | (have h11b : ¬ nI t = -1 := nI_ne_m1 (by omega))
      refine vq_iconst (v := 1) d_V_isAncestor_14 (by decide) ?_
      refine vq_goto (tgt := 19) d_V_isAncestor_15 (by decide) ?_
      refine vq_zret d_V_isAncestor_19 rfl (by first | exact Or.inl rfl | exact Or.inr rfl | assumption) (by decide) (by decide) rfl rfl ?_
      first | refine ⟨r0 ?_, rfl⟩ | refine ⟨r1 ?_, rfl⟩
      first | rfl | (show (j == t) = _; simp [h11]; done) | (exact absurd h11.symm h11b)
set_option maxRecDepth 100000 in
set_option maxHeartbeats 4000000 in
theorem ct_V_isAncestor1 (l : Launch) (b : Nat) (id : Nat → ClassId) (D : va_G) {g : Sg} {F : Fam} (hW : zW F) (hc : Hc g F) {o : Option Nat} {t : Nat} (ho : ∀ j, o = some j → j < zn F) (ht : t < zn F) : qCT l b id D m_V_isAncestor1 false [.ref (b + 1), .int (nI t), .int (eO o), .int (nI 1)] 85 kT g 85 kT (fun v g' => v = some (.int (bI (zoB o (fun j => zan F 1 j t)))) ∧ g' = g) (fun _ _ => False) := by
  have hn := hW.1
  refine qCT_of rfl (by decide) (Nat.le_of_ble_eq_true rfl) ?_
  show Vq l b id D m_V_isAncestor1 false 85 kT _ 85 kT _ 85 kT 0 0 0 [(0, .ref (b + 1)), (1, .int (nI t)), (2, .int (eO o)), (3, .int (nI 1))] [] g
  refine vq_iload_n d_V_isAncestor_0 rfl ?_
  refine vq_iconst (v := -1) d_V_isAncestor_1 (by decide) ?_
  refine vq_icmp_eq (tgt := 9) d_V_isAncestor_2 (by decide) (fun h2 => ?_) (fun h2 => ?_)
  · have hj : o = none := (eO_m1 (fun j hj => Nat.lt_trans (ho j hj) (by omega))).mp h2
    subst hj
    refine vq_iload_n d_V_isAncestor_9 rfl ?_
    refine vq_iload_n d_V_isAncestor_10 rfl ?_
    refine vq_icmp_ne (tgt := 18) d_V_isAncestor_11 (by decide) (fun h11 => ?_) (fun h11 => ?_)
    · first | (rw [show eO (some j) = nI j from rfl, nI_eq (by omega) (by omega)] at h11) | (have h11b : ¬ nI t = -1 := nI_ne_m1 (by omega))
      refine vq_iconst (v := 0) d_V_isAncestor_18 (by decide) ?_
      refine vq_zret d_V_isAncestor_19 rfl (by first | exact Or.inl rfl | exact Or.inr rfl | assumption) (by decide) (by decide) rfl rfl ?_
      first | refine ⟨r0 ?_, rfl⟩ | refine ⟨r1 ?_, rfl⟩
      first | rfl | (exact absurd h11.symm h11b) | (show (zoB (za F j) (fun i => zan F 0 i t) || zoB (zb F j) (fun i => zan F 0 i t)) = _; first | (rw [hp1]; rfl) | (rw [hp1, hp2]; rfl))
    · first | (rw [show eO (some j) = nI j from rfl, nI_eq (by omega) (by omega)] at h11) | (have h11b : ¬ nI t = -1 := nI_ne_m1 (by omega))
      refine vq_iconst (v := 1) d_V_isAncestor_14 (by decide) ?_
      refine vq_goto (tgt := 19) d_V_isAncestor_15 (by decide) ?_
      refine vq_zret d_V_isAncestor_19 rfl (by first | exact Or.inl rfl | exact Or.inr rfl | assumption) (by decide) (by decide) rfl rfl ?_
      first | refine ⟨r0 ?_, rfl⟩ | refine ⟨r1 ?_, rfl⟩
      first | rfl | (exact absurd h11.symm h11b) | (show (zoB (za F j) (fun i => zan F 0 i t) || zoB (zb F j) (fun i => zan F 0 i t)) = _; first | (rw [hp1]; rfl) | (rw [hp1, hp2]; rfl))
  · obtain ⟨j, rfl⟩ : ∃ j, o = some j := by cases o with | none => exact absurd rfl h2 | some j => exact ⟨j, rfl⟩
    have hj := ho j rfl
    have hza := hc.2.1 j hj
    have hzb := hc.2.2.1 j hj
    refine vq_iload_n d_V_isAncestor_5 rfl ?_
    refine vq_if_gt (tgt := 20) d_V_isAncestor_6 (by decide) (fun h6 => ?_) (fun h6 => absurd h6 (by decide))
    refine vq_aload_n d_V_isAncestor_20 rfl ?_
    refine vq_iload_n d_V_isAncestor_21 rfl ?_
    refine vq_aload_n d_V_isAncestor_22 rfl ?_
    refine vq_getR (k := 1) (C := R_F) (T := T_F) d_V_isAncestor_23 rfl in_F w_39 (by decide) rfl (by decide) rfl rfl ?_
    refine vq_iload_n d_V_isAncestor_26 rfl ?_
    refine vq_iald d_V_isAncestor_27 (by decide) rfl rfl (show _ < 20 by omega) ?_
    refine vq_int (y := eO (za F j)) hza ?_
    refine vq_iload_n d_V_isAncestor_28 rfl ?_
    refine vq_iconst (v := 1) d_V_isAncestor_29 (by decide) ?_
    refine vq_isub d_V_isAncestor_30 ?_
    refine vq_int (show _ = nI 0 from rfl) ?_
    refine vq_callS (n := 4) _ _ d_V_isAncestor_31 (ct_V_isAncestor0 l b id D hW hc (o := za F j) (fun i hi => by have := hW.2.1 j i hj hi; omega) ht) w_613 w_614 w_615 w_3 rfl ⟨by decide, by decide, by decide +kernel⟩ ⟨by decide, by decide⟩ rfl rfl (Nat.le_of_ble_eq_true rfl) rfl rfl rfl ⟨by decide, by decide⟩ (fun _ _ h => h.elim) (fun v31 g31 h31 => ?_)
    rw [h31.1, h31.2]
    refine vq_if_ne (tgt := 54) d_V_isAncestor_34 (by decide) (fun h34 => ?_) (fun h34 => ?_)
    · have hp1 := bI_n0.mp h34
      refine vq_iconst (v := 1) d_V_isAncestor_54 (by decide) ?_
      refine vq_goto (tgt := 59) d_V_isAncestor_55 (by decide) ?_
      refine vq_zret d_V_isAncestor_59 rfl (by first | exact Or.inl rfl | exact Or.inr rfl | assumption) (by decide) (by decide) rfl rfl ?_
      first | refine ⟨r0 ?_, rfl⟩ | refine ⟨r1 ?_, rfl⟩
      first | rfl | (exact absurd h11.symm h11b) | (show (zoB (za F j) (fun i => zan F 0 i t) || zoB (zb F j) (fun i => zan F 0 i t)) = _; first | (rw [hp1]; rfl) | (rw [hp1, hp2]; rfl))
    · have hp1 := bI_0.mp h34
      refine vq_aload_n d_V_isAncestor_37 rfl ?_
      refine vq_iload_n d_V_isAncestor_38 rfl ?_
      refine vq_aload_n d_V_isAncestor_39 rfl ?_
      refine vq_getR (k := 2) (C := R_F) (T := T_F) d_V_isAncestor_40 rfl in_F w_43 (by decide) rfl (by decide) rfl rfl ?_
      refine vq_iload_n d_V_isAncestor_43 rfl ?_
      refine vq_iald d_V_isAncestor_44 (by decide) rfl rfl (show _ < 20 by omega) ?_
      refine vq_int (y := eO (zb F j)) hzb ?_
      refine vq_iload_n d_V_isAncestor_45 rfl ?_
      refine vq_iconst (v := 1) d_V_isAncestor_46 (by decide) ?_
      refine vq_isub d_V_isAncestor_47 ?_
      refine vq_int (show _ = nI 0 from rfl) ?_
      refine vq_callS (n := 4) _ _ d_V_isAncestor_48 (ct_V_isAncestor0 l b id D hW hc (o := zb F j) (fun i hi => by have := hW.2.2.1 j i hj hi; omega) ht) w_613 w_614 w_615 w_3 rfl ⟨by decide, by decide, by decide +kernel⟩ ⟨by decide, by decide⟩ rfl rfl (Nat.le_of_ble_eq_true rfl) rfl rfl rfl ⟨by decide, by decide⟩ (fun _ _ h => h.elim) (fun v48 g48 h48 => ?_)
      rw [h48.1, h48.2]
      refine vq_if_eq (tgt := 58) d_V_isAncestor_51 (by decide) (fun h51 => ?_) (fun h51 => ?_)
      · have hp2 := bI_0.mp h51
        refine vq_iconst (v := 0) d_V_isAncestor_58 (by decide) ?_
        refine vq_zret d_V_isAncestor_59 rfl (by first | exact Or.inl rfl | exact Or.inr rfl | assumption) (by decide) (by decide) rfl rfl ?_
        first | refine ⟨r0 ?_, rfl⟩ | refine ⟨r1 ?_, rfl⟩
        first | rfl | (exact absurd h11.symm h11b) | (show (zoB (za F j) (fun i => zan F 0 i t) || zoB (zb F j) (fun i => zan F 0 i t)) = _; first | (rw [hp1]; rfl) | (rw [hp1, hp2]; rfl))
      · have hp2 := bI_n0.mp h51
        refine vq_iconst (v := 1) d_V_isAncestor_54 (by decide) ?_
        refine vq_goto (tgt := 59) d_V_isAncestor_55 (by decide) ?_
        refine vq_zret d_V_isAncestor_59 rfl (by first | exact Or.inl rfl | exact Or.inr rfl | assumption) (by decide) (by decide) rfl rfl ?_
        first | refine ⟨r0 ?_, rfl⟩ | refine ⟨r1 ?_, rfl⟩
        first | rfl | (exact absurd h11.symm h11b) | (show (zoB (za F j) (fun i => zan F 0 i t) || zoB (zb F j) (fun i => zan F 0 i t)) = _; first | (rw [hp1]; rfl) | (rw [hp1, hp2]; rfl))
set_option maxRecDepth 100000 in
set_option maxHeartbeats 4000000 in
theorem ct_V_isAncestor2 (l : Launch) (b : Nat) (id : Nat → ClassId) (D : va_G) {g : Sg} {F : Fam} (hW : zW F) (hc : Hc g F) {o : Option Nat} {t : Nat} (ho : ∀ j, o = some j → j < zn F) (ht : t < zn F) : qCT l b id D m_V_isAncestor2 false [.ref (b + 1), .int (nI t), .int (eO o), .int (nI 2)] 85 kT g 85 kT (fun v g' => v = some (.int (bI (zoB o (fun j => zan F 2 j t)))) ∧ g' = g) (fun _ _ => False) := by
  have hn := hW.1
  refine qCT_of rfl (by decide) (Nat.le_of_ble_eq_true rfl) ?_
  show Vq l b id D m_V_isAncestor2 false 85 kT _ 85 kT _ 85 kT 0 0 0 [(0, .ref (b + 1)), (1, .int (nI t)), (2, .int (eO o)), (3, .int (nI 2))] [] g
  refine vq_iload_n d_V_isAncestor_0 rfl ?_
  refine vq_iconst (v := -1) d_V_isAncestor_1 (by decide) ?_
  refine vq_icmp_eq (tgt := 9) d_V_isAncestor_2 (by decide) (fun h2 => ?_) (fun h2 => ?_)
  · have hj : o = none := (eO_m1 (fun j hj => Nat.lt_trans (ho j hj) (by omega))).mp h2
    subst hj
    refine vq_iload_n d_V_isAncestor_9 rfl ?_
    refine vq_iload_n d_V_isAncestor_10 rfl ?_
    refine vq_icmp_ne (tgt := 18) d_V_isAncestor_11 (by decide) (fun h11 => ?_) (fun h11 => ?_)
    · first | (rw [show eO (some j) = nI j from rfl, nI_eq (by omega) (by omega)] at h11) | (have h11b : ¬ nI t = -1 := nI_ne_m1 (by omega))
      refine vq_iconst (v := 0) d_V_isAncestor_18 (by decide) ?_
      refine vq_zret d_V_isAncestor_19 rfl (by first | exact Or.inl rfl | exact Or.inr rfl | assumption) (by decide) (by decide) rfl rfl ?_
      first | refine ⟨r0 ?_, rfl⟩ | refine ⟨r1 ?_, rfl⟩
      first | rfl | (exact absurd h11.symm h11b) | (show (zoB (za F j) (fun i => zan F 1 i t) || zoB (zb F j) (fun i => zan F 1 i t)) = _; first | (rw [hp1]; rfl) | (rw [hp1, hp2]; rfl))
    · first | (rw [show eO (some j) = nI j from rfl, nI_eq (by omega) (by omega)] at h11) | (have h11b : ¬ nI t = -1 := nI_ne_m1 (by omega))
      refine vq_iconst (v := 1) d_V_isAncestor_14 (by decide) ?_
      refine vq_goto (tgt := 19) d_V_isAncestor_15 (by decide) ?_
      refine vq_zret d_V_isAncestor_19 rfl (by first | exact Or.inl rfl | exact Or.inr rfl | assumption) (by decide) (by decide) rfl rfl ?_
      first | refine ⟨r0 ?_, rfl⟩ | refine ⟨r1 ?_, rfl⟩
      first | rfl | (exact absurd h11.symm h11b) | (show (zoB (za F j) (fun i => zan F 1 i t) || zoB (zb F j) (fun i => zan F 1 i t)) = _; first | (rw [hp1]; rfl) | (rw [hp1, hp2]; rfl))
  · obtain ⟨j, rfl⟩ : ∃ j, o = some j := by cases o with | none => exact absurd rfl h2 | some j => exact ⟨j, rfl⟩
    have hj := ho j rfl
    have hza := hc.2.1 j hj
    have hzb := hc.2.2.1 j hj
    refine vq_iload_n d_V_isAncestor_5 rfl ?_
    refine vq_if_gt (tgt := 20) d_V_isAncestor_6 (by decide) (fun h6 => ?_) (fun h6 => absurd h6 (by decide))
    refine vq_aload_n d_V_isAncestor_20 rfl ?_
    refine vq_iload_n d_V_isAncestor_21 rfl ?_
    refine vq_aload_n d_V_isAncestor_22 rfl ?_
    refine vq_getR (k := 1) (C := R_F) (T := T_F) d_V_isAncestor_23 rfl in_F w_39 (by decide) rfl (by decide) rfl rfl ?_
    refine vq_iload_n d_V_isAncestor_26 rfl ?_
    refine vq_iald d_V_isAncestor_27 (by decide) rfl rfl (show _ < 20 by omega) ?_
    refine vq_int (y := eO (za F j)) hza ?_
    refine vq_iload_n d_V_isAncestor_28 rfl ?_
    refine vq_iconst (v := 1) d_V_isAncestor_29 (by decide) ?_
    refine vq_isub d_V_isAncestor_30 ?_
    refine vq_int (show _ = nI 1 from rfl) ?_
    refine vq_callS (n := 4) _ _ d_V_isAncestor_31 (ct_V_isAncestor1 l b id D hW hc (o := za F j) (fun i hi => by have := hW.2.1 j i hj hi; omega) ht) w_613 w_614 w_615 w_3 rfl ⟨by decide, by decide, by decide +kernel⟩ ⟨by decide, by decide⟩ rfl rfl (Nat.le_of_ble_eq_true rfl) rfl rfl rfl ⟨by decide, by decide⟩ (fun _ _ h => h.elim) (fun v31 g31 h31 => ?_)
    rw [h31.1, h31.2]
    refine vq_if_ne (tgt := 54) d_V_isAncestor_34 (by decide) (fun h34 => ?_) (fun h34 => ?_)
    · have hp1 := bI_n0.mp h34
      refine vq_iconst (v := 1) d_V_isAncestor_54 (by decide) ?_
      refine vq_goto (tgt := 59) d_V_isAncestor_55 (by decide) ?_
      refine vq_zret d_V_isAncestor_59 rfl (by first | exact Or.inl rfl | exact Or.inr rfl | assumption) (by decide) (by decide) rfl rfl ?_
      first | refine ⟨r0 ?_, rfl⟩ | refine ⟨r1 ?_, rfl⟩
      first | rfl | (exact absurd h11.symm h11b) | (show (zoB (za F j) (fun i => zan F 1 i t) || zoB (zb F j) (fun i => zan F 1 i t)) = _; first | (rw [hp1]; rfl) | (rw [hp1, hp2]; rfl))
    · have hp1 := bI_0.mp h34
      refine vq_aload_n d_V_isAncestor_37 rfl ?_
      refine vq_iload_n d_V_isAncestor_38 rfl ?_
      refine vq_aload_n d_V_isAncestor_39 rfl ?_
      refine vq_getR (k := 2) (C := R_F) (T := T_F) d_V_isAncestor_40 rfl in_F w_43 (by decide) rfl (by decide) rfl rfl ?_
      refine vq_iload_n d_V_isAncestor_43 rfl ?_
      refine vq_iald d_V_isAncestor_44 (by decide) rfl rfl (show _ < 20 by omega) ?_
      refine vq_int (y := eO (zb F j)) hzb ?_
      refine vq_iload_n d_V_isAncestor_45 rfl ?_
      refine vq_iconst (v := 1) d_V_isAncestor_46 (by decide) ?_
      refine vq_isub d_V_isAncestor_47 ?_
      refine vq_int (show _ = nI 1 from rfl) ?_
      refine vq_callS (n := 4) _ _ d_V_isAncestor_48 (ct_V_isAncestor1 l b id D hW hc (o := zb F j) (fun i hi => by have := hW.2.2.1 j i hj hi; omega) ht) w_613 w_614 w_615 w_3 rfl ⟨by decide, by decide, by decide +kernel⟩ ⟨by decide, by decide⟩ rfl rfl (Nat.le_of_ble_eq_true rfl) rfl rfl rfl ⟨by decide, by decide⟩ (fun _ _ h => h.elim) (fun v48 g48 h48 => ?_)
      rw [h48.1, h48.2]
      refine vq_if_eq (tgt := 58) d_V_isAncestor_51 (by decide) (fun h51 => ?_) (fun h51 => ?_)
      · have hp2 := bI_0.mp h51
        refine vq_iconst (v := 0) d_V_isAncestor_58 (by decide) ?_
        refine vq_zret d_V_isAncestor_59 rfl (by first | exact Or.inl rfl | exact Or.inr rfl | assumption) (by decide) (by decide) rfl rfl ?_
        first | refine ⟨r0 ?_, rfl⟩ | refine ⟨r1 ?_, rfl⟩
        first | rfl | (exact absurd h11.symm h11b) | (show (zoB (za F j) (fun i => zan F 1 i t) || zoB (zb F j) (fun i => zan F 1 i t)) = _; first | (rw [hp1]; rfl) | (rw [hp1, hp2]; rfl))
      · have hp2 := bI_n0.mp h51
        refine vq_iconst (v := 1) d_V_isAncestor_54 (by decide) ?_
        refine vq_goto (tgt := 59) d_V_isAncestor_55 (by decide) ?_
        refine vq_zret d_V_isAncestor_59 rfl (by first | exact Or.inl rfl | exact Or.inr rfl | assumption) (by decide) (by decide) rfl rfl ?_
        first | refine ⟨r0 ?_, rfl⟩ | refine ⟨r1 ?_, rfl⟩
        first | rfl | (exact absurd h11.symm h11b) | (show (zoB (za F j) (fun i => zan F 1 i t) || zoB (zb F j) (fun i => zan F 1 i t)) = _; first | (rw [hp1]; rfl) | (rw [hp1, hp2]; rfl))
set_option maxRecDepth 100000 in
set_option maxHeartbeats 4000000 in
theorem ct_V_isAncestor3 (l : Launch) (b : Nat) (id : Nat → ClassId) (D : va_G) {g : Sg} {F : Fam} (hW : zW F) (hc : Hc g F) {o : Option Nat} {t : Nat} (ho : ∀ j, o = some j → j < zn F) (ht : t < zn F) : qCT l b id D m_V_isAncestor3 false [.ref (b + 1), .int (nI t), .int (eO o), .int (nI 3)] 85 kT g 85 kT (fun v g' => v = some (.int (bI (zoB o (fun j => zan F 3 j t)))) ∧ g' = g) (fun _ _ => False) := by
  have hn := hW.1
  refine qCT_of rfl (by decide) (Nat.le_of_ble_eq_true rfl) ?_
  show Vq l b id D m_V_isAncestor3 false 85 kT _ 85 kT _ 85 kT 0 0 0 [(0, .ref (b + 1)), (1, .int (nI t)), (2, .int (eO o)), (3, .int (nI 3))] [] g
  refine vq_iload_n d_V_isAncestor_0 rfl ?_
  refine vq_iconst (v := -1) d_V_isAncestor_1 (by decide) ?_
  refine vq_icmp_eq (tgt := 9) d_V_isAncestor_2 (by decide) (fun h2 => ?_) (fun h2 => ?_)
  · have hj : o = none := (eO_m1 (fun j hj => Nat.lt_trans (ho j hj) (by omega))).mp h2
    subst hj
    refine vq_iload_n d_V_isAncestor_9 rfl ?_
    refine vq_iload_n d_V_isAncestor_10 rfl ?_
    refine vq_icmp_ne (tgt := 18) d_V_isAncestor_11 (by decide) (fun h11 => ?_) (fun h11 => ?_)
    · first | (rw [show eO (some j) = nI j from rfl, nI_eq (by omega) (by omega)] at h11) | (have h11b : ¬ nI t = -1 := nI_ne_m1 (by omega))
      refine vq_iconst (v := 0) d_V_isAncestor_18 (by decide) ?_
      refine vq_zret d_V_isAncestor_19 rfl (by first | exact Or.inl rfl | exact Or.inr rfl | assumption) (by decide) (by decide) rfl rfl ?_
      first | refine ⟨r0 ?_, rfl⟩ | refine ⟨r1 ?_, rfl⟩
      first | rfl | (exact absurd h11.symm h11b) | (show (zoB (za F j) (fun i => zan F 2 i t) || zoB (zb F j) (fun i => zan F 2 i t)) = _; first | (rw [hp1]; rfl) | (rw [hp1, hp2]; rfl))
    · first | (rw [show eO (some j) = nI j from rfl, nI_eq (by omega) (by omega)] at h11) | (have h11b : ¬ nI t = -1 := nI_ne_m1 (by omega))
      refine vq_iconst (v := 1) d_V_isAncestor_14 (by decide) ?_
      refine vq_goto (tgt := 19) d_V_isAncestor_15 (by decide) ?_
      refine vq_zret d_V_isAncestor_19 rfl (by first | exact Or.inl rfl | exact Or.inr rfl | assumption) (by decide) (by decide) rfl rfl ?_
      first | refine ⟨r0 ?_, rfl⟩ | refine ⟨r1 ?_, rfl⟩
      first | rfl | (exact absurd h11.symm h11b) | (show (zoB (za F j) (fun i => zan F 2 i t) || zoB (zb F j) (fun i => zan F 2 i t)) = _; first | (rw [hp1]; rfl) | (rw [hp1, hp2]; rfl))
  · obtain ⟨j, rfl⟩ : ∃ j, o = some j := by cases o with | none => exact absurd rfl h2 | some j => exact ⟨j, rfl⟩
    have hj := ho j rfl
    have hza := hc.2.1 j hj
    have hzb := hc.2.2.1 j hj
    refine vq_iload_n d_V_isAncestor_5 rfl ?_
    refine vq_if_gt (tgt := 20) d_V_isAncestor_6 (by decide) (fun h6 => ?_) (fun h6 => absurd h6 (by decide))
    refine vq_aload_n d_V_isAncestor_20 rfl ?_
    refine vq_iload_n d_V_isAncestor_21 rfl ?_
    refine vq_aload_n d_V_isAncestor_22 rfl ?_
    refine vq_getR (k := 1) (C := R_F) (T := T_F) d_V_isAncestor_23 rfl in_F w_39 (by decide) rfl (by decide) rfl rfl ?_
    refine vq_iload_n d_V_isAncestor_26 rfl ?_
    refine vq_iald d_V_isAncestor_27 (by decide) rfl rfl (show _ < 20 by omega) ?_
    refine vq_int (y := eO (za F j)) hza ?_
    refine vq_iload_n d_V_isAncestor_28 rfl ?_
    refine vq_iconst (v := 1) d_V_isAncestor_29 (by decide) ?_
    refine vq_isub d_V_isAncestor_30 ?_
    refine vq_int (show _ = nI 2 from rfl) ?_
    refine vq_callS (n := 4) _ _ d_V_isAncestor_31 (ct_V_isAncestor2 l b id D hW hc (o := za F j) (fun i hi => by have := hW.2.1 j i hj hi; omega) ht) w_613 w_614 w_615 w_3 rfl ⟨by decide, by decide, by decide +kernel⟩ ⟨by decide, by decide⟩ rfl rfl (Nat.le_of_ble_eq_true rfl) rfl rfl rfl ⟨by decide, by decide⟩ (fun _ _ h => h.elim) (fun v31 g31 h31 => ?_)
    rw [h31.1, h31.2]
    refine vq_if_ne (tgt := 54) d_V_isAncestor_34 (by decide) (fun h34 => ?_) (fun h34 => ?_)
    · have hp1 := bI_n0.mp h34
      refine vq_iconst (v := 1) d_V_isAncestor_54 (by decide) ?_
      refine vq_goto (tgt := 59) d_V_isAncestor_55 (by decide) ?_
      refine vq_zret d_V_isAncestor_59 rfl (by first | exact Or.inl rfl | exact Or.inr rfl | assumption) (by decide) (by decide) rfl rfl ?_
      first | refine ⟨r0 ?_, rfl⟩ | refine ⟨r1 ?_, rfl⟩
      first | rfl | (exact absurd h11.symm h11b) | (show (zoB (za F j) (fun i => zan F 2 i t) || zoB (zb F j) (fun i => zan F 2 i t)) = _; first | (rw [hp1]; rfl) | (rw [hp1, hp2]; rfl))
    · have hp1 := bI_0.mp h34
      refine vq_aload_n d_V_isAncestor_37 rfl ?_
      refine vq_iload_n d_V_isAncestor_38 rfl ?_
      refine vq_aload_n d_V_isAncestor_39 rfl ?_
      refine vq_getR (k := 2) (C := R_F) (T := T_F) d_V_isAncestor_40 rfl in_F w_43 (by decide) rfl (by decide) rfl rfl ?_
      refine vq_iload_n d_V_isAncestor_43 rfl ?_
      refine vq_iald d_V_isAncestor_44 (by decide) rfl rfl (show _ < 20 by omega) ?_
      refine vq_int (y := eO (zb F j)) hzb ?_
      refine vq_iload_n d_V_isAncestor_45 rfl ?_
      refine vq_iconst (v := 1) d_V_isAncestor_46 (by decide) ?_
      refine vq_isub d_V_isAncestor_47 ?_
      refine vq_int (show _ = nI 2 from rfl) ?_
      refine vq_callS (n := 4) _ _ d_V_isAncestor_48 (ct_V_isAncestor2 l b id D hW hc (o := zb F j) (fun i hi => by have := hW.2.2.1 j i hj hi; omega) ht) w_613 w_614 w_615 w_3 rfl ⟨by decide, by decide, by decide +kernel⟩ ⟨by decide, by decide⟩ rfl rfl (Nat.le_of_ble_eq_true rfl) rfl rfl rfl ⟨by decide, by decide⟩ (fun _ _ h => h.elim) (fun v48 g48 h48 => ?_)
      rw [h48.1, h48.2]
      refine vq_if_eq (tgt := 58) d_V_isAncestor_51 (by decide) (fun h51 => ?_) (fun h51 => ?_)
      · have hp2 := bI_0.mp h51
        refine vq_iconst (v := 0) d_V_isAncestor_58 (by decide) ?_
        refine vq_zret d_V_isAncestor_59 rfl (by first | exact Or.inl rfl | exact Or.inr rfl | assumption) (by decide) (by decide) rfl rfl ?_
        first | refine ⟨r0 ?_, rfl⟩ | refine ⟨r1 ?_, rfl⟩
        first | rfl | (exact absurd h11.symm h11b) | (show (zoB (za F j) (fun i => zan F 2 i t) || zoB (zb F j) (fun i => zan F 2 i t)) = _; first | (rw [hp1]; rfl) | (rw [hp1, hp2]; rfl))
      · have hp2 := bI_n0.mp h51
        refine vq_iconst (v := 1) d_V_isAncestor_54 (by decide) ?_
        refine vq_goto (tgt := 59) d_V_isAncestor_55 (by decide) ?_
        refine vq_zret d_V_isAncestor_59 rfl (by first | exact Or.inl rfl | exact Or.inr rfl | assumption) (by decide) (by decide) rfl rfl ?_
        first | refine ⟨r0 ?_, rfl⟩ | refine ⟨r1 ?_, rfl⟩
        first | rfl | (exact absurd h11.symm h11b) | (show (zoB (za F j) (fun i => zan F 2 i t) || zoB (zb F j) (fun i => zan F 2 i t)) = _; first | (rw [hp1]; rfl) | (rw [hp1, hp2]; rfl))
