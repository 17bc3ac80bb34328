/-! all estates settled, by the reference. Laid by wip/whole/specs/p51.py -/
theorem zxt_0 {n d A : Nat} {S : Nat → Nat} (hn : 0 < n) (hd : 0 < d) (h : zsum S n = A * d) {p : Nat} (hp : S p = 0) : ∀ r, r ≤ zun n S d A → zxt n (fun p => S p % d) r p = 0
  | 0, _ => rfl
  | r + 1, hr => by
    show zxt n (fun p => S p % d) r p + (if p = zgr (zrs n (fun p => S p % d) r) n then 1 else 0) = 0
    rw [zxt_0 hn hd h hp r (by omega)]
    have h1 := zrs_pos hn hd h (show r < zun n S d A by omega)
    have h2 := zrs_le n (fun p => S p % d) r (zgr (zrs n (fun p => S p % d) r) n)
    rw [if_neg]
    intro e
    rw [← e] at h1 h2
    have h3 : S p % d = 0 := by rw [hp]; exact Nat.zero_mod d
    omega
theorem zS_0 {F : Fam} (hW : zW F) {e a p : Nat} (he : e < zn F) (hl : zl F e p = false) : zS F e a p = 0 := by
  have hw : ¬ zw F e = some p := fun h => by have := (zw_lt hW he h).2; rw [hl] at this; cases this
  unfold zS
  split
  · show zta F e (zPg F e a) (zTg F e a) p = 0
    unfold zta zTg
    rw [if_neg hw, hl]; rfl
  · show zta F e (zP0 F e a) (zT0 F e a) p = 0
    unfold zta zT0
    rw [if_neg hw, hl]; rfl
theorem zdue_0 {F : Fam} (hW : zW F) {e A p : Nat} (he : e < zn F) (hp : p < zn F) (hl : zl F e p = false) : zdue F e A p = 0 := by
  have hn := hW.1
  unfold zdue
  by_cases h5 : zt F e = 5
  · rw [if_pos h5, if_neg (by omega)]
  · rw [if_neg h5, if_pos hp]
    have h0 := zS_0 (a := A) hW he hl
    unfold zpy
    rw [h0, Nat.zero_div, zxt_0 (by omega) (zdn_pos he) (zS_sum hW he (zt_5 h5)) h0 _ (Nat.le_refl _)]
theorem zer_low {F : Fam} {st : Nat → Bool} {i d : Nat} (h : ∀ p t, zd F p = some t → st p = false → p < i → d < t) : ∀ k, k ≤ i → ∀ x, zer F st k = some x → d < zday F x := by
  intro k hk x hx
  obtain ⟨h1, h2, h3⟩ := zer_lt hx
  obtain ⟨t, ht⟩ := Option.isSome_iff_exists.mp h2
  have := h x t ht h3 (by omega)
  unfold zday
  rw [ht]
  exact this
theorem zer_first {F : Fam} {st : Nat → Bool} {i d : Nat} (hd : zd F i = some d) (hs : st i = false) (h : ∀ p t, zd F p = some t → st p = false → d < t ∨ (t = d ∧ i ≤ p)) : ∀ m, zer F st (i + 1 + m) = some i
  | 0 => by
    show (if ((zd F i).isSome && !st i && (match zer F st i with | none => true | some b => decide (zday F i < zday F b))) = true then some i else zer F st i) = some i
    rw [if_pos]
    rw [hd, hs]
    have hlow := zer_low (F := F) (st := st) (i := i) (d := d) (fun p t h1 h2 h3 => by rcases h p t h1 h2 with h4 | h4 <;> omega) i (Nat.le_refl i)
    cases hz : zer F st i with
    | none => rfl
    | some x =>
      have h9 := hlow x hz
      have h8 : zday F i = d := by unfold zday; rw [hd]; rfl
      show (true && decide (zday F i < zday F x)) = true
      rw [h8, decide_eq_true h9]; rfl
  | m + 1 => by
    show (if ((zd F (i + 1 + m)).isSome && !st (i + 1 + m) && (match zer F st (i + 1 + m) with | none => true | some b => decide (zday F (i + 1 + m) < zday F b))) = true then some (i + 1 + m) else zer F st (i + 1 + m)) = some i
    rw [zer_first hd hs h m]
    rw [if_neg]
    intro h9
    simp only [Bool.and_eq_true, decide_eq_true_eq] at h9
    obtain ⟨⟨h1, h2⟩, h3⟩ := h9
    obtain ⟨t, ht⟩ := Option.isSome_iff_exists.mp h1
    have h4 : st (i + 1 + m) = false := by simpa using h2
    have h5 : zday F i = d := by unfold zday; rw [hd]; rfl
    have h6 : zday F (i + 1 + m) = t := by unfold zday; rw [ht]; rfl
    rw [h5, h6] at h3
    rcases h _ t ht h4 with h7 | h7 <;> omega
theorem zer_none {F : Fam} {st : Nat → Bool} : ∀ k, (∀ p, p < k → (zd F p).isSome = true → st p = true) → zer F st k = none
  | 0, _ => rfl
  | k + 1, h => by
    show (if ((zd F k).isSome && !st k && (match zer F st k with | none => true | some b => decide (zday F k < zday F b))) = true then some k else zer F st k) = none
    rw [zer_none k (fun p hp => h p (by omega)), if_neg]
    intro h9
    simp only [Bool.and_eq_true] at h9
    have := h k (by omega) h9.1.1
    rw [this] at h9
    simp at h9
/-- who is settled when the days below d are done, and on the day d the numbers below i -/
def Qd (F : Fam) (r d i : Nat) : Prop := (∀ p, p < zn F → ((zra F r).1 p = true ↔ ∃ t, zd F p = some t ∧ (t < d ∨ (t = d ∧ p < i)))) ∧ zct F r = r ∧ zsum (fun p => if (zra F r).1 p = true then 1 else 0) (zn F) = r
theorem Qd.skip {F : Fam} {r d i : Nat} (h : Qd F r d i) (hd : ¬ zd F i = some d) : Qd F r d (i + 1) := by
  refine ⟨fun p hp => (h.1 p hp).trans ⟨?_, ?_⟩, h.2⟩
  · rintro ⟨t, h1, h2⟩
    exact ⟨t, h1, by omega⟩
  · rintro ⟨t, h1, h2⟩
    refine ⟨t, h1, ?_⟩
    rcases h2 with h2 | ⟨h2, h3⟩
    · exact Or.inl h2
    · refine Or.inr ⟨h2, ?_⟩
      by_cases e : p = i
      · subst e; subst h2; exact absurd h1 hd
      · omega
theorem Qd.step {F : Fam} {r d i : Nat} (h : Qd F r d i) (hi : i < zn F) (hd : zd F i = some d) : zer F (zra F r).1 (zn F) = some i ∧ (zra F r).1 i = false ∧ Qd F (r + 1) d (i + 1) := by
  have hs : (zra F r).1 i = false := by
    cases hq : (zra F r).1 i with
    | false => rfl
    | true =>
      obtain ⟨t, h1, h2⟩ := (h.1 i hi).mp hq
      rw [hd] at h1
      cases h1
      omega
  have hz : zer F (zra F r).1 (zn F) = some i := by
    have h9 : ∀ m, i + 1 + m ≤ zn F → zer F (fun p => if p < zn F then (zra F r).1 p else true) (i + 1 + m) = some i := fun m _ => zer_first (st := fun p => if p < zn F then (zra F r).1 p else true) hd (by rw [if_pos hi]; exact hs) (fun p t h1 h2 => by
      by_cases hp : p < zn F
      · rw [if_pos hp] at h2
        by_cases h3 : t < d ∨ (t = d ∧ p < i)
        · rw [(h.1 p hp).mpr ⟨t, h1, h3⟩] at h2; cases h2
        · omega
      · rw [if_neg hp] at h2; cases h2) m
    have h8 := h9 (zn F - (i + 1)) (by omega)
    rw [show i + 1 + (zn F - (i + 1)) = zn F by omega] at h8
    have hcg : ∀ k, k ≤ zn F → zer F (fun p => if p < zn F then (zra F r).1 p else true) k = zer F (zra F r).1 k := by
      intro k
      induction k with
      | zero => intro _; rfl
      | succ k ih =>
        intro hk
        show (if ((zd F k).isSome && !(if k < zn F then (zra F r).1 k else true) && (match zer F (fun p => if p < zn F then (zra F r).1 p else true) k with | none => true | some b => decide (zday F k < zday F b))) = true then some k else zer F (fun p => if p < zn F then (zra F r).1 p else true) k) = _
        rw [ih (by omega), if_pos (show k < zn F by omega)]
        rfl
    rw [← hcg (zn F) (Nat.le_refl _)]
    exact h8
  refine ⟨hz, hs, fun p hp => ?_, ?_, ?_⟩
  · rw [zra_some hz]
    show (if p = i then true else (zra F r).1 p) = true ↔ _
    by_cases e : p = i
    · subst e
      rw [if_pos rfl]
      exact ⟨fun _ => ⟨d, hd, Or.inr ⟨rfl, Nat.lt_succ_self p⟩⟩, fun _ => rfl⟩
    · rw [if_neg e]
      refine (h.1 p hp).trans ⟨?_, ?_⟩
      · rintro ⟨t, h1, h2⟩
        exact ⟨t, h1, by omega⟩
      · rintro ⟨t, h1, h2⟩
        exact ⟨t, h1, by omega⟩
  · show zct F r + (if (zer F (zra F r).1 (zn F)).isSome = true then 1 else 0) = r + 1
    rw [hz, h.2.1]; rfl
  · rw [zra_some hz]
    have h9 : zsum (fun p => if (zmk (zra F r).1 i) p = true then 1 else 0) (zn F) + (if (zra F r).1 i = true then 1 else 0) = zsum (fun p => if (zra F r).1 p = true then 1 else 0) (zn F) + (if (zmk (zra F r).1 i) i = true then 1 else 0) := zsum_at (f := fun p => if (zmk (zra F r).1 i) p = true then 1 else 0) (f' := fun p => if (zra F r).1 p = true then 1 else 0) hi (fun q hq => by show (if (if q = i then true else (zra F r).1 q) = true then 1 else 0) = _; rw [if_neg hq])
    have h8 : (zmk (zra F r).1 i) i = true := by show (if i = i then true else _) = true; rw [if_pos rfl]
    rw [h8, hs, h.2.2] at h9
    exact h9
theorem Qd.day {F : Fam} {r d : Nat} (h : Qd F r d (zn F)) : Qd F r (d + 1) 0 := by
  refine ⟨fun p hp => (h.1 p hp).trans ⟨?_, ?_⟩, h.2⟩
  · rintro ⟨t, h1, h2⟩; exact ⟨t, h1, by omega⟩
  · rintro ⟨t, h1, h2⟩; exact ⟨t, h1, by omega⟩
theorem Qd.last {F : Fam} (hW : zW F) {r : Nat} (h : Qd F r 1000 0) : zra F (zn F) = zra F r ∧ zct F (zn F) = r := by
  have hz : zer F (zra F r).1 (zn F) = none := zer_none (zn F) (fun p hp hd => by
    obtain ⟨t, ht⟩ := Option.isSome_iff_exists.mp hd
    exact (h.1 p hp).mpr ⟨t, ht, Or.inl (by have := hW.2.2.2.2.2.1 p t hp ht; omega)⟩)
  have hr : r ≤ zn F := by
    have := zsz_le (F := F) (zra F r).1
    unfold zsz at this
    rw [h.2.2] at this
    exact this
  have h1 := zra_stay hz (zn F - r)
  have h2 := zct_stay hz (zn F - r)
  rw [show r + (zn F - r) = zn F by omega] at h1 h2
  exact ⟨h1, h2.trans h.2.1⟩
def FrU (g g1 : Sg) : Prop := (∀ q, q ≠ 67 → q ≠ 75 → q ≠ 76 → q ≠ 77 → q ≠ 80 → g1.1 q = g.1 q) ∧ (∀ k, 1 ≤ k → k < 9 → g1.1 67 k = g.1 67 k) ∧ g1.1 67 0 = 0 ∧ (∀ q, q < 67 ∨ 83 < q → g1.2 q = g.2 q)
theorem FrU.hm {g g1 : Sg} {F : Fam} (h : FrU g g1) (hm : Hm g F) : Hm g1 F := hm.congr (h.2.1 1 (by decide) (by decide)) (fun q h1 h2 => h.1 q (by omega) (by omega) (by omega) (by omega) (by omega))
theorem FrU.j {g g1 : Sg} (h : FrU g g1) {q : Nat} (hq : 81 ≤ q ∧ q ≤ 83) (f : Nat → Int64) : FrU g (sJ g1 q f) := ⟨h.1, h.2.1, h.2.2.1, fun p hp => by rw [sJ_n (by omega)]; exact h.2.2.2 p hp⟩
theorem FrU.t {g g1 g2 : Sg} (h : FrU g g1) (h2 : FrT g1 g2) : FrU g g2 := ⟨fun q a c d e f => (h2.1 q a c d e f).trans (h.1 q a c d e f), fun k h1 hk => (h2.2.1 k hk).trans (h.2.1 k h1 hk), (h2.2.1 0 (by decide)).trans h.2.2.1, fun q hq => (h2.2.2 q (by omega) (by omega) (by omega) (by omega) (by omega)).trans (h.2.2.2 q hq)⟩
set_option maxRecDepth 100000 in
set_option maxHeartbeats 4000000 in
theorem ct_M_settle (l : Launch) (b : Nat) (id : Nat → ClassId) (D : va_G) {g : Sg} {F : Fam} (hW : zW F) (hm : Hm g F) : qCT l b id D m_M_settle false [.ref (b + 67)] 85 kT g 85 kT (mP 0 (some (.int (nI (zct F (zn F))))) (some (.int 0)) g F (zra F (zn F)).2) (fun _ _ => False) := by
  have hn := hW.1
  refine qCT_of rfl (by decide) (Nat.le_of_ble_eq_true rfl) ?_
  show Vq l b id D m_M_settle false 85 kT _ 85 kT _ 85 kT 0 0 0 [(0, .ref (b + 67))] [] g
  have loopD : ∀ (n9 : Nat) (d r : Nat) (g1 : Sg), 1000 - d = n9 → (d ≤ 1000 ∧ FrU g g1 ∧ Qd F r d 0 ∧ Hn g1 (zra F r).2) → Vq l b id D m_M_settle false 85 kT (mP 0 (some (.int (nI (zct F (zn F))))) (some (.int 0)) g F (zra F (zn F)).2) 85 kT (fun _ _ => False) 85 kT 0 0 73 [(2, .int (nI d)), (1, .int (nI r)), (0, .ref (b + 67))] [] g1 := by
    intro n9
    induction n9 using Nat.strongRecOn with
    | ind n9 ih =>
    intro d r g1 hm9 hI
    have hd0 := hI.1
    refine vq_iload_n d_M_settle_73 rfl ?_
    refine vq_sipush (v := 1000) d_M_settle_74 (by decide) ?_
    refine vq_icmp_ge (tgt := 175) d_M_settle_77 (by decide) (fun h77 => ?_) (fun h77 => ?_)
    · have hi : d = 1000 := by
        rw [show (1000 : Int32) = nI 1000 from rfl, nI_leI (by decide) (by omega)] at h77
        omega
      subst hi
      refine vq_iload_n d_M_settle_175 rfl ?_
      refine vq_iret d_M_settle_176 rfl (by decide) (by decide) rfl rfl ?_
      obtain ⟨q1, q2⟩ := hI.2.2.1.last hW
      rw [q1, q2]
      exact ⟨rfl, hI.2.1.2.2.1, hI.2.1.hm hm, hI.2.2.2, fun q hq => ⟨hI.2.1.1 q (by omega) (by omega) (by omega) (by omega) (by omega), hI.2.1.2.2.2 q hq⟩⟩
    · have hd9 : d < 1000 := by
        rw [show (1000 : Int32) = nI 1000 from rfl, nI_leI (by decide) (by omega)] at h77
        omega
      have hm1 : Hm g1 F := hI.2.1.hm hm
      have loopS : ∀ (n8 : Nat) (i r : Nat) (g1 : Sg), zn F - i = n8 → (i ≤ zn F ∧ FrU g g1 ∧ Qd F r d i ∧ ((∀ e j, e < 20 → j < 21 → g1.2 81 (21 * e + j) = lN ((zra F r).2.1 e j)) ∧ (∀ j, j < 21 → g1.2 83 j = lN ((zra F r).2.2.1 j))) ∧ (∀ p, p < 20 → g1.2 82 p = lN (if zd F p = some d ∧ i ≤ p ∧ p < zn F then zo F p + (zra F r).2.2.1 p else (zra F r).2.2.2 p))) → Vq l b id D m_M_settle false 85 kT (mP 0 (some (.int (nI (zct F (zn F))))) (some (.int 0)) g F (zra F (zn F)).2) 85 kT (fun _ _ => False) 85 kT 0 0 137 [(3, .int (nI i)), (2, .int (nI d)), (1, .int (nI r)), (0, .ref (b + 67))] [] g1 := by
        intro n8
        induction n8 using Nat.strongRecOn with
        | ind n8 ih8 =>
        intro i r g1 hm8 hJ
        have hi0 := hJ.1
        have hm1 : Hm g1 F := hJ.2.1.hm hm
        refine vq_iload_n d_M_settle_137 rfl ?_
        refine vq_aload_n d_M_settle_138 rfl ?_
        refine vq_getI (k := 1) (C := R_M) (T := T_M) d_M_settle_139 rfl in_M w_656 (by decide) rfl (by decide) rfl ?_
        refine vq_int (y := nI (zn F)) hm1.1 ?_
        refine vq_icmp_ge (tgt := 169) d_M_settle_142 (by decide) (fun h142 => ?_) (fun h142 => ?_)
        · have hi : i = zn F := by
            rw [nI_leI (by omega) (by omega)] at h142
            omega
          subst hi
          refine vq_iinc (k := 1) (lv' := [(2, _), (3, _), (1, _), (0, _)]) d_M_settle_169 rfl (ip1 d) (by decide) rfl ?_
          refine vq_goto (tgt := 73) d_M_settle_172 (by decide) ?_
          refine vq_pk [0, 2, 3] (lv' := [(2, _), (1, _), (0, _)]) rfl ?_
          refine ih (1000 - (d + 1)) (by omega) (d + 1) r _ rfl ⟨by omega, hJ.2.1, hJ.2.2.1.day, ⟨hJ.2.2.2.1.1, hJ.2.2.2.1.2, fun p hp => ?_⟩⟩
          rw [hJ.2.2.2.2 p hp, if_neg (by omega)]
        · have hi : i < zn F := by
            rw [nI_leI (by omega) (by omega)] at h142
            omega
          refine vq_aload_n d_M_settle_145 rfl ?_
          refine vq_getR (k := 5) (C := R_M) (T := T_M) d_M_settle_146 rfl in_M w_660 (by decide) rfl (by decide) rfl rfl ?_
          refine vq_iload_n d_M_settle_149 rfl ?_
          refine vq_iald d_M_settle_150 (by decide) rfl rfl (show _ < 20 by omega) ?_
          refine vq_int (y := eO (zd F i)) (hm1.2.2.2.2.1 i hi) ?_
          refine vq_iload_n d_M_settle_151 rfl ?_
          refine vq_icmp_ne (tgt := 163) d_M_settle_152 (by decide) (fun h152 => ?_) (fun h152 => ?_)
          · rw [eO_nI (zd_lt hW hi) (by omega)] at h152
            refine vq_iinc (k := 0) (lv' := [(3, _), (2, _), (1, _), (0, _)]) d_M_settle_163 rfl (ip1 i) (by decide) rfl ?_
            refine vq_goto (tgt := 137) d_M_settle_166 (by decide) ?_
            refine ih8 (zn F - (i + 1)) (by omega) (i + 1) r _ rfl ⟨by omega, hJ.2.1, hJ.2.2.1.skip h152, hJ.2.2.2.1, fun p hp => ?_⟩
            rw [hJ.2.2.2.2 p hp]
            have h8 : (zd F p = some d ∧ i ≤ p ∧ p < zn F) ↔ (zd F p = some d ∧ i + 1 ≤ p ∧ p < zn F) := ⟨fun h => ⟨h.1, by
              by_cases e1 : p = i
              · rw [e1] at h; exact absurd h.1 h152
              · omega, h.2.2⟩, fun h => ⟨h.1, by omega, h.2.2⟩⟩
            simp only [h8]
          · rw [eO_nI (zd_lt hW hi) (by omega)] at h152
            obtain ⟨hz, hsi, hQ⟩ := hJ.2.2.1.step hi h152
            refine vq_aload_n d_M_settle_155 rfl ?_
            refine vq_iload_n d_M_settle_156 rfl ?_
            refine vq_callV (n := 1) (C := R_M) (T := T_M) _ _ d_M_settle_157 (ct_M_settleOne l b id D hW hm1 hi h152 (A := zo F i + (zra F r).2.2.1 i) (zra_A hW hi hsi) (by rw [hJ.2.2.2.2 i (by omega), if_pos ⟨h152, Nat.le_refl i, hi⟩])) w_837 w_839 sel_M_settleOne w_840 w_7 rfl ⟨by decide, by decide, by decide +kernel⟩ ⟨by decide, by decide⟩ (by decide) rfl rfl rfl rfl (Nat.le_of_ble_eq_true rfl) rfl rfl rfl ⟨by decide, by decide⟩ (fun _ _ h => h.elim) (fun v157 g157 h157 => ?_)
            obtain ⟨e1157, k1, k2⟩ := h157
            rw [e1157]
            refine vq_iinc (k := 2) (lv' := [(1, _), (3, _), (2, _), (0, _)]) d_M_settle_160 rfl (ip1 r) (by decide) rfl ?_
            refine vq_iinc (k := 1) (lv' := [(3, _), (1, _), (2, _), (0, _)]) d_M_settle_163 rfl (ip1 i) (by decide) rfl ?_
            refine vq_goto (tgt := 137) d_M_settle_166 (by decide) ?_
            refine vq_pk [0, 2, 1, 3] (lv' := [(3, _), (2, _), (1, _), (0, _)]) rfl ?_
            have hzr := zra_some hz
            refine ih8 (zn F - (i + 1)) (by omega) (i + 1) (r + 1) _ rfl ⟨by omega, hJ.2.1.t k2, hQ, ⟨fun e j h1 h2 => ?_, fun j hj => ?_⟩, fun p hp => ?_⟩
            · rw [hzr]
              show _ = lN ((zra F r).2.1 e j + (if e = i then zdue F i (zo F i + (zra F r).2.2.1 i) j else 0))
              by_cases e1 : e = i
              · rw [e1, k1.1 j h2, hJ.2.2.2.1.1 i j (by omega) h2, lN_add, if_pos rfl]
              · rw [k1.2.1 e j e1 h2, hJ.2.2.2.1.1 e j h1 h2, if_neg e1, Nat.add_zero]
            · rw [hzr, k1.2.2 j hj, hJ.2.2.2.1.2 j hj, lN_add]; rfl
            · rw [k2.2.2 82 (by decide) (by decide) (by decide) (by decide) (by decide), hJ.2.2.2.2 p hp, hzr]
              show _ = lN (if zd F p = some d ∧ i + 1 ≤ p ∧ p < zn F then zo F p + ((zra F r).2.2.1 p + zdue F i (zo F i + (zra F r).2.2.1 i) p) else (if p = i then zo F i + (zra F r).2.2.1 i else (zra F r).2.2.2 p))
              by_cases e1 : p = i
              · rw [e1, if_pos ⟨h152, Nat.le_refl i, hi⟩, if_neg (by omega), if_pos rfl]
              · rw [if_neg e1]
                by_cases e2 : zd F p = some d ∧ i ≤ p ∧ p < zn F
                · have hl0 : zl F i p = false := by unfold zl zlt; rw [e2.1, h152]; simp
                  rw [if_pos e2, if_pos ⟨e2.1, by omega, e2.2.2⟩, zdue_0 hW hi e2.2.2 hl0, Nat.add_zero]
                · rw [if_neg e2, if_neg (fun h => e2 ⟨h.1, by omega, h.2.2⟩)]
      have loopT : ∀ (n8 : Nat) (i : Nat) (g1 : Sg), zn F - i = n8 → (i ≤ zn F ∧ FrU g g1 ∧ ((∀ e j, e < 20 → j < 21 → g1.2 81 (21 * e + j) = lN ((zra F r).2.1 e j)) ∧ (∀ j, j < 21 → g1.2 83 j = lN ((zra F r).2.2.1 j))) ∧ (∀ p, p < 20 → g1.2 82 p = lN (if zd F p = some d ∧ p < i then zo F p + (zra F r).2.2.1 p else (zra F r).2.2.2 p))) → Vq l b id D m_M_settle false 85 kT (mP 0 (some (.int (nI (zct F (zn F))))) (some (.int 0)) g F (zra F (zn F)).2) 85 kT (fun _ _ => False) 85 kT 0 0 82 [(3, .int (nI i)), (2, .int (nI d)), (1, .int (nI r)), (0, .ref (b + 67))] [] g1 := by
        intro n8
        induction n8 using Nat.strongRecOn with
        | ind n8 ih8 =>
        intro i g1 hm8 hJ
        have hi0 := hJ.1
        have hm1 : Hm g1 F := hJ.2.1.hm hm
        refine vq_iload_n d_M_settle_82 rfl ?_
        refine vq_aload_n d_M_settle_83 rfl ?_
        refine vq_getI (k := 1) (C := R_M) (T := T_M) d_M_settle_84 rfl in_M w_656 (by decide) rfl (by decide) rfl ?_
        refine vq_int (y := nI (zn F)) hm1.1 ?_
        refine vq_icmp_ge (tgt := 135) d_M_settle_87 (by decide) (fun h87 => ?_) (fun h87 => ?_)
        · have hi : i = zn F := by
            rw [nI_leI (by omega) (by omega)] at h87
            omega
          subst hi
          refine vq_iconst (v := 0) d_M_settle_135 (by decide) ?_
          refine vq_istore_n (lv' := [(3, _), (2, _), (1, _), (0, _)]) d_M_settle_136 (by decide) rfl ?_
          refine loopS (zn F) 0 r _ rfl ⟨by omega, hJ.2.1, hI.2.2.1, hJ.2.2.1, fun p hp => ?_⟩
          rw [hJ.2.2.2 p hp]
          have h8 : (zd F p = some d ∧ p < zn F) ↔ (zd F p = some d ∧ 0 ≤ p ∧ p < zn F) := ⟨fun h => ⟨h.1, Nat.zero_le _, h.2⟩, fun h => ⟨h.1, h.2.2⟩⟩
          simp only [h8]
        · have hi : i < zn F := by
            rw [nI_leI (by omega) (by omega)] at h87
            omega
          refine vq_aload_n d_M_settle_90 rfl ?_
          refine vq_getR (k := 21) (C := R_M) (T := T_M) d_M_settle_91 rfl in_M w_676 (by decide) rfl (by decide) rfl rfl ?_
          refine vq_iload_n d_M_settle_94 rfl ?_
          refine vq_aload_n d_M_settle_95 rfl ?_
          refine vq_getR (k := 5) (C := R_M) (T := T_M) d_M_settle_96 rfl in_M w_660 (by decide) rfl (by decide) rfl rfl ?_
          refine vq_iload_n d_M_settle_99 rfl ?_
          refine vq_iald d_M_settle_100 (by decide) rfl rfl (show _ < 20 by omega) ?_
          refine vq_int (y := eO (zd F i)) (hm1.2.2.2.2.1 i hi) ?_
          refine vq_iload_n d_M_settle_101 rfl ?_
          refine vq_icmp_ne (tgt := 122) d_M_settle_102 (by decide) (fun h102 => ?_) (fun h102 => ?_)
          · rw [eO_nI (zd_lt hW hi) (by omega)] at h102
            refine vq_aload_n d_M_settle_122 rfl ?_
            refine vq_getR (k := 21) (C := R_M) (T := T_M) d_M_settle_123 rfl in_M w_676 (by decide) rfl (by decide) rfl rfl ?_
            refine vq_iload_n d_M_settle_126 rfl ?_
            refine vq_lald d_M_settle_127 (by decide) rfl rfl (show _ < 20 by omega) ?_
            refine vq_long (y := lN ((zra F r).2.2.2 i)) (by rw [hJ.2.2.2 i (by omega), if_neg (by omega)]) ?_
            refine vq_last d_M_settle_128 rfl (by decide) rfl rfl (show _ < 20 by omega) ?_
            refine vq_iinc (k := 0) (lv' := [(3, _), (2, _), (1, _), (0, _)]) d_M_settle_129 rfl (ip1 i) (by decide) rfl ?_
            refine vq_goto (tgt := 82) d_M_settle_132 (by decide) ?_
            refine ih8 (zn F - (i + 1)) (by omega) (i + 1) _ rfl ⟨by omega, hJ.2.1.j (by omega) _, ⟨fun e j h1 h2 => by rw [sJ_n (by decide)]; exact hJ.2.2.1.1 e j h1 h2, fun j hj => by rw [sJ_n (by decide)]; exact hJ.2.2.1.2 j hj⟩, fun p hp => ?_⟩
            rw [sJ_s, vp_updL]
            by_cases e1 : p = i
            · rw [if_pos e1, e1, if_neg (fun h => h102 h.1)]
            · rw [if_neg e1, hJ.2.2.2 p hp]
              have h8 : (zd F p = some d ∧ p < i) ↔ (zd F p = some d ∧ p < i + 1) := ⟨fun h => ⟨h.1, by omega⟩, fun h => ⟨h.1, by omega⟩⟩
              simp only [h8]
          · rw [eO_nI (zd_lt hW hi) (by omega)] at h102
            refine vq_aload_n d_M_settle_105 rfl ?_
            refine vq_getR (k := 6) (C := R_M) (T := T_M) d_M_settle_106 rfl in_M w_661 (by decide) rfl (by decide) rfl rfl ?_
            refine vq_iload_n d_M_settle_109 rfl ?_
            refine vq_iald d_M_settle_110 (by decide) rfl rfl (show _ < 20 by omega) ?_
            refine vq_int (y := nI (zo F i)) (hm1.2.2.2.2.2.1 i hi) ?_
            refine vq_i2l d_M_settle_111 (nI_l (by have := hW.2.2.2.2.2.2.1 i; omega)) ?_
            refine vq_aload_n d_M_settle_112 rfl ?_
            refine vq_getR (k := 22) (C := R_M) (T := T_M) d_M_settle_113 rfl in_M w_677 (by decide) rfl (by decide) rfl rfl ?_
            refine vq_iload_n d_M_settle_116 rfl ?_
            refine vq_lald d_M_settle_117 (by decide) rfl rfl (show _ < 21 by omega) ?_
            refine vq_long (y := lN ((zra F r).2.2.1 i)) (hJ.2.2.1.2 i (by omega)) ?_
            refine vq_ladd d_M_settle_118 ?_
            rw [lN_add]
            refine vq_goto (tgt := 128) d_M_settle_119 (by decide) ?_
            refine vq_last d_M_settle_128 rfl (by decide) rfl rfl (show _ < 20 by omega) ?_
            refine vq_iinc (k := 0) (lv' := [(3, _), (2, _), (1, _), (0, _)]) d_M_settle_129 rfl (ip1 i) (by decide) rfl ?_
            refine vq_goto (tgt := 82) d_M_settle_132 (by decide) ?_
            refine ih8 (zn F - (i + 1)) (by omega) (i + 1) _ rfl ⟨by omega, hJ.2.1.j (by omega) _, ⟨fun e j h1 h2 => by rw [sJ_n (by decide)]; exact hJ.2.2.1.1 e j h1 h2, fun j hj => by rw [sJ_n (by decide)]; exact hJ.2.2.1.2 j hj⟩, fun p hp => ?_⟩
            rw [sJ_s, vp_updL]
            by_cases e1 : p = i
            · rw [if_pos e1, e1, if_pos ⟨h102, by omega⟩]
            · rw [if_neg e1, hJ.2.2.2 p hp]
              have h8 : (zd F p = some d ∧ p < i) ↔ (zd F p = some d ∧ p < i + 1) := ⟨fun h => ⟨h.1, by omega⟩, fun h => ⟨h.1, by omega⟩⟩
              simp only [h8]
      refine vq_iconst (v := 0) d_M_settle_80 (by decide) ?_
      refine vq_istore_n (lv' := [(3, _), (2, _), (1, _), (0, _)]) d_M_settle_81 (by decide) rfl ?_
      refine loopT (zn F) 0 _ rfl ⟨by omega, hI.2.1, ⟨hI.2.2.2.1, hI.2.2.2.2.1⟩, fun p hp => ?_⟩
      rw [hI.2.2.2.2.2 p hp, if_neg (by omega)]
  have loop3 : ∀ (n9 : Nat) (i : Nat) (g1 : Sg), 20 - i = n9 → (i ≤ 20 ∧ FrU g g1 ∧ (∀ k, k < 420 → g1.2 81 k = 0) ∧ (∀ k, k < 21 → g1.2 83 k = 0) ∧ (∀ k, k < i → g1.2 82 k = 0)) → Vq l b id D m_M_settle false 85 kT (mP 0 (some (.int (nI (zct F (zn F))))) (some (.int 0)) g F (zra F (zn F)).2) 85 kT (fun _ _ => False) 85 kT 0 0 52 [(2, .int (nI i)), (1, .int 0), (0, .ref (b + 67))] [] g1 := by
    intro n9
    induction n9 using Nat.strongRecOn with
    | ind n9 ih =>
    intro i g1 hm9 hI
    have hi0 := hI.1
    refine vq_iload_n d_M_settle_52 rfl ?_
    refine vq_bipush (v := 20) d_M_settle_53 (by decide) ?_
    refine vq_icmp_ge (tgt := 71) d_M_settle_55 (by decide) (fun h55 => ?_) (fun h55 => ?_)
    · have hi : i = 20 := by
        rw [show (20 : Int32) = nI 20 from rfl, nI_leI (by decide) (by omega)] at h55
        omega
      subst hi
      refine vq_iconst (v := 0) d_M_settle_71 (by decide) ?_
      refine vq_istore_n (lv' := [(2, _), (1, _), (0, _)]) d_M_settle_72 (by decide) rfl ?_
      refine loopD 1000 0 0 _ rfl ⟨by decide, hI.2.1, ⟨fun p hp => ⟨(fun h => by cases h), fun ⟨t, _, h2⟩ => by omega⟩, rfl, ?_⟩, ⟨fun e j h1 h2 => ?_, fun j hj => ?_, fun p hp => ?_⟩⟩
      · exact (zsum_congr (f := fun p => if (zra F 0).1 p = true then 1 else 0) (g := fun _ => 0) (fun c _ => rfl)).trans (zsum_zero _)
      · rw [hI.2.2.1 (21 * e + j) (by omega)]; rfl
      · rw [hI.2.2.2.1 j hj]; rfl
      · rw [hI.2.2.2.2 p hp]; rfl
    · have hi : i < 20 := by
        rw [show (20 : Int32) = nI 20 from rfl, nI_leI (by decide) (by omega)] at h55
        omega
      refine vq_aload_n d_M_settle_58 rfl ?_
      refine vq_getR (k := 21) (C := R_M) (T := T_M) d_M_settle_59 rfl in_M w_676 (by decide) rfl (by decide) rfl rfl ?_
      refine vq_iload_n d_M_settle_62 rfl ?_
      refine vq_lconst (v := 0) d_M_settle_63 rfl ?_
      refine vq_last d_M_settle_64 rfl (by decide) rfl rfl (show _ < 20 by omega) ?_
      refine vq_iinc (k := 0) (lv' := [(2, _), (1, _), (0, _)]) d_M_settle_65 rfl (ip1 i) (by decide) rfl ?_
      refine vq_goto (tgt := 52) d_M_settle_68 (by decide) ?_
      refine ih (20 - (i + 1)) (by omega) (i + 1) _ rfl ⟨by omega, hI.2.1.j (by omega) _, fun k hk => by rw [sJ_n (by decide)]; exact hI.2.2.1 k hk, fun k hk => by rw [sJ_n (by decide)]; exact hI.2.2.2.1 k hk, fun k hk => ?_⟩
      rw [sJ_s, vp_updL]
      by_cases e1 : k = i
      · rw [if_pos e1]
      · rw [if_neg e1]; exact hI.2.2.2.2 k (by omega)
  have loop2 : ∀ (n9 : Nat) (i : Nat) (g1 : Sg), 21 - i = n9 → (i ≤ 21 ∧ FrU g g1 ∧ (∀ k, k < 420 → g1.2 81 k = 0) ∧ (∀ k, k < i → g1.2 83 k = 0)) → Vq l b id D m_M_settle false 85 kT (mP 0 (some (.int (nI (zct F (zn F))))) (some (.int 0)) g F (zra F (zn F)).2) 85 kT (fun _ _ => False) 85 kT 0 0 29 [(1, .int (nI i)), (0, .ref (b + 67))] [] g1 := by
    intro n9
    induction n9 using Nat.strongRecOn with
    | ind n9 ih =>
    intro i g1 hm9 hI
    have hi0 := hI.1
    refine vq_iload_n d_M_settle_29 rfl ?_
    refine vq_bipush (v := 21) d_M_settle_30 (by decide) ?_
    refine vq_icmp_ge (tgt := 48) d_M_settle_32 (by decide) (fun h32 => ?_) (fun h32 => ?_)
    · have hi : i = 21 := by
        rw [show (21 : Int32) = nI 21 from rfl, nI_leI (by decide) (by omega)] at h32
        omega
      subst hi
      refine vq_iconst (v := 0) d_M_settle_48 (by decide) ?_
      refine vq_istore_n (lv' := [(1, _), (0, _)]) d_M_settle_49 (by decide) rfl ?_
      refine vq_iconst (v := 0) d_M_settle_50 (by decide) ?_
      refine vq_istore_n (lv' := [(2, _), (1, _), (0, _)]) d_M_settle_51 (by decide) rfl ?_
      exact loop3 20 0 _ rfl ⟨by decide, hI.2.1, hI.2.2.1, hI.2.2.2, fun k hk => by omega⟩
    · have hi : i < 21 := by
        rw [show (21 : Int32) = nI 21 from rfl, nI_leI (by decide) (by omega)] at h32
        omega
      refine vq_aload_n d_M_settle_35 rfl ?_
      refine vq_getR (k := 22) (C := R_M) (T := T_M) d_M_settle_36 rfl in_M w_677 (by decide) rfl (by decide) rfl rfl ?_
      refine vq_iload_n d_M_settle_39 rfl ?_
      refine vq_lconst (v := 0) d_M_settle_40 rfl ?_
      refine vq_last d_M_settle_41 rfl (by decide) rfl rfl (show _ < 21 by omega) ?_
      refine vq_iinc (k := 0) (lv' := [(1, _), (0, _)]) d_M_settle_42 rfl (ip1 i) (by decide) rfl ?_
      refine vq_goto (tgt := 29) d_M_settle_45 (by decide) ?_
      refine ih (21 - (i + 1)) (by omega) (i + 1) _ rfl ⟨by omega, hI.2.1.j (by omega) _, fun k hk => by rw [sJ_n (by decide)]; exact hI.2.2.1 k hk, fun k hk => ?_⟩
      rw [sJ_s, vp_updL]
      by_cases e1 : k = i
      · rw [if_pos e1]
      · rw [if_neg e1]; exact hI.2.2.2 k (by omega)
  have loop1 : ∀ (n9 : Nat) (i : Nat) (g1 : Sg), 420 - i = n9 → (i ≤ 420 ∧ FrU g g1 ∧ (∀ k, k < i → g1.2 81 k = 0)) → Vq l b id D m_M_settle false 85 kT (mP 0 (some (.int (nI (zct F (zn F))))) (some (.int 0)) g F (zra F (zn F)).2) 85 kT (fun _ _ => False) 85 kT 0 0 7 [(1, .int (nI i)), (0, .ref (b + 67))] [] g1 := by
    intro n9
    induction n9 using Nat.strongRecOn with
    | ind n9 ih =>
    intro i g1 hm9 hI
    have hi0 := hI.1
    refine vq_iload_n d_M_settle_7 rfl ?_
    refine vq_sipush (v := 420) d_M_settle_8 (by decide) ?_
    refine vq_icmp_ge (tgt := 27) d_M_settle_11 (by decide) (fun h11 => ?_) (fun h11 => ?_)
    · have hi : i = 420 := by
        rw [show (420 : Int32) = nI 420 from rfl, nI_leI (by decide) (by omega)] at h11
        omega
      subst hi
      refine vq_iconst (v := 0) d_M_settle_27 (by decide) ?_
      refine vq_istore_n (lv' := [(1, _), (0, _)]) d_M_settle_28 (by decide) rfl ?_
      exact loop2 21 0 _ rfl ⟨by decide, hI.2.1, hI.2.2, fun k hk => by omega⟩
    · have hi : i < 420 := by
        rw [show (420 : Int32) = nI 420 from rfl, nI_leI (by decide) (by omega)] at h11
        omega
      refine vq_aload_n d_M_settle_14 rfl ?_
      refine vq_getR (k := 20) (C := R_M) (T := T_M) d_M_settle_15 rfl in_M w_675 (by decide) rfl (by decide) rfl rfl ?_
      refine vq_iload_n d_M_settle_18 rfl ?_
      refine vq_lconst (v := 0) d_M_settle_19 rfl ?_
      refine vq_last d_M_settle_20 rfl (by decide) rfl rfl (show _ < 420 by omega) ?_
      refine vq_iinc (k := 0) (lv' := [(1, _), (0, _)]) d_M_settle_21 rfl (ip1 i) (by decide) rfl ?_
      refine vq_goto (tgt := 7) d_M_settle_24 (by decide) ?_
      refine ih (420 - (i + 1)) (by omega) (i + 1) _ rfl ⟨by omega, hI.2.1.j (by omega) _, fun k hk => ?_⟩
      rw [sJ_s, vp_updL]
      by_cases e1 : k = i
      · rw [if_pos e1]
      · rw [if_neg e1]; exact hI.2.2 k (by omega)
  refine vq_aload_n d_M_settle_0 rfl ?_
  refine vq_iconst (v := 0) d_M_settle_1 (by decide) ?_
  refine vq_putI (k := 0) (C := R_M) (T := T_M) (ty := .int) t_M d_M_settle_2 rfl in_M w_655 ty_M nm_M (by decide) rfl (by decide) rfl (by decide +kernel) rfl rfl rfl ?_
  refine vq_iconst (v := 0) d_M_settle_5 (by decide) ?_
  refine vq_istore_n (lv' := [(1, _), (0, _)]) d_M_settle_6 (by decide) rfl ?_
  exact loop1 420 0 _ rfl ⟨by decide, ⟨fun q a _ _ _ _ => sI_n a, fun k h1 h2 => by rw [sI_s, upd, if_neg (by omega)], by rw [sI_s, upd, if_pos rfl], fun q _ => rfl⟩, fun k hk => by omega⟩
