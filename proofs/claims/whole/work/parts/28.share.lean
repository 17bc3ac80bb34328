/-! SuccessionClerk$Division: shares, takers, lowest terms. Laid by wip/whole/specs/p28.py -/
theorem ztb_zero {F : Fam} {e : Nat} {P : Nat → Nat} (h : ∀ c, P c = 0) : ∀ k c, ztb F e P k c = 0
  | 0, c => h c
  | k + 1, c => by
    show ztb F e P k c + _ = 0
    rw [ztb_zero h k c, ztb_zero h k k, Nat.zero_div]; simp
theorem zup_le {F : Fam} (hW : zW F) {e : Nat} : ∀ (h : Nat) (v : Nat → Nat), zsum (zup F e h v) (zn F) ≤ zsum v (zn F)
  | 0, v => Nat.le_refl _
  | h + 1, v => Nat.le_trans (zup_le hW h (zcl F e h v)) (zcl_le hW v)
def zcn (S : Nat → Nat) (n : Nat) : Nat := zsum (fun p => if 0 < S p then 1 else 0) n
theorem zcn_le (S : Nat → Nat) : ∀ n, zcn S n ≤ n
  | 0 => Nat.le_refl _
  | n + 1 => by
    have := zcn_le S n
    show zcn S n + (if 0 < S n then 1 else 0) ≤ n + 1
    split <;> omega
/-- the taker at a place, as an int -/
def ztk (S : Nat → Nat) (n : Nat) (i : Int32) : Option Nat := zfst (fun p => decide (0 < S p) && decide (nI (zcn S p) = i)) n
/-- a fraction in lowest terms, packed -/
def zfr (s d : Nat) : Int64 := if s = 0 then 0 else ((lN (s / Nat.gcd s d)) <<< ((32 : Int32).toInt64 &&& 63)) ||| lN (d / Nat.gcd s d)
/-- Euclid's steps are few -/
def zEu (G s x y : Nat) : Prop := Nat.gcd x y = G ∧ x < 2 ^ 62 ∧ y < 2 ^ 62 ∧ 0 < x ∧ ((s = 0 ∧ x < 2 ^ 40 ∧ y < 2 ^ 40) ∨ (0 < s ∧ y < x ∧ x * y * 2 ^ s < 2 ^ 82))
theorem zEu_step {G s x y : Nat} (h : zEu G s x y) (hy : 0 < y) : zEu G (s + 1) y (x % y) := by
  obtain ⟨h1, h2, h3, h4, h5⟩ := h
  have hr := Nat.mod_lt x hy
  refine ⟨by rw [← h1, Nat.gcd_comm x y, Nat.gcd_rec y x, Nat.gcd_comm], h3, by omega, hy, Or.inr ⟨by omega, hr, ?_⟩⟩
  rcases h5 with ⟨rfl, hx40, hy40⟩ | ⟨hs, hyx, hp⟩
  · have e1 : y * (x % y) ≤ 2 ^ 40 * 2 ^ 40 := Nat.mul_le_mul (by omega) (by omega)
    have e2 : y * (x % y) * 2 ^ (0 + 1) ≤ 2 ^ 40 * 2 ^ 40 * 2 ^ (0 + 1) := Nat.mul_le_mul_right _ e1
    exact Nat.lt_of_le_of_lt e2 (by decide)
  · have e0 : 2 * (x % y) ≤ x := by
      have h6 := Nat.div_add_mod x y
      have h7 : 1 ≤ x / y := Nat.div_pos (by omega) hy
      have h8 : y * 1 ≤ y * (x / y) := Nat.mul_le_mul_left y h7
      omega
    have e1 : y * (x % y) * 2 ^ (s + 1) = (y * (2 * (x % y))) * 2 ^ s := by
      rw [Nat.pow_succ, Nat.mul_comm (2 ^ s) 2, ← Nat.mul_assoc, Nat.mul_assoc y, Nat.mul_comm (x % y) 2]
    have e2 : (y * (2 * (x % y))) * 2 ^ s ≤ (y * x) * 2 ^ s := Nat.mul_le_mul_right _ (Nat.mul_le_mul_left y e0)
    rw [e1]
    refine Nat.lt_of_le_of_lt e2 ?_
    rw [Nat.mul_comm y x]
    exact hp
theorem zEu_end {G x y : Nat} (h : zEu G 100 x y) : y = 0 := by
  obtain ⟨-, -, -, h4, h5⟩ := h
  rcases h5 with ⟨h, -⟩ | ⟨-, -, hp⟩
  · omega
  · cases y with
    | zero => rfl
    | succ k =>
      exfalso
      have e1 : 1 ≤ x * (k + 1) := Nat.mul_pos h4 (by omega)
      have e2 : 1 * 2 ^ 100 ≤ x * (k + 1) * 2 ^ 100 := Nat.mul_le_mul_right _ e1
      have e3 : (2 : Nat) ^ 82 < 1 * 2 ^ 100 := by decide
      omega
def m_D_countTakers : Mt := (y_D_countTakers, c_D_countTakers, 3, { frames := 8, cells := 0, slots := 0, locals := 130 }, (some .int), none)
def m_D_takerAt : Mt := (y_D_takerAt, c_D_takerAt, 4, { frames := 8, cells := 0, slots := 0, locals := 130 }, (some .int), none)
def m_D_commonDivisor : Mt := (y_D_commonDivisor, c_D_commonDivisor, 11, { frames := 8, cells := 0, slots := 0, locals := 130 }, (some .long), none)
def m_D_inLowestTerms : Mt := (y_D_inLowestTerms, c_D_inLowestTerms, 4, { frames := 9, cells := 0, slots := 0, locals := 175 }, (some .long), none)
set_option maxRecDepth 100000 in
set_option maxHeartbeats 4000000 in
theorem ct_D_divideByShares (l : Launch) (b : Nat) (id : Nat → ClassId) (D : va_G) {g : Sg} {F : Fam} (hW : zW F) (hc : Hc g F) {e : Nat} (he : e < zn F) (hk : LK g F e) {a : Nat} (ha63 : a * (8 * zpr F e) * 4 < 2 ^ 63) : qCT l b id D m_D_divideByShares false [.ref (b + 34), .long (lN a)] 85 kT g 85 kT (fun v' g' => v' = none ∧ g'.1 = g.1 ∧ (∀ q, q < 34 ∨ 37 < q → g'.2 q = g.2 q) ∧ g'.2 34 4 = lN (4 * (8 * zpr F e)) ∧ (∀ p, p < zn F → g'.2 35 p = lN (zsh F e a p))) (fun _ _ => False) := by
  have hn := hW.1
  have ht5 := zt_le F e
  have hq4 := zq_le (F := F) (e := e)
  have hX63 : a * (8 * zpr F e) * (4 - zq F e) < 2 ^ 63 := Nat.lt_of_le_of_lt (Nat.mul_le_mul_left _ (by omega)) ha63
  refine qCT_of rfl (by decide) (Nat.le_of_ble_eq_true rfl) ?_
  show Vq l b id D m_D_divideByShares false 85 kT _ 85 kT _ 85 kT 0 0 0 [(0, .ref (b + 34)), (1, .long (lN a))] [] g
  refine vq_ldc2 d_D_divideByShares_0 w_345 ?_
  refine vq_aload_n d_D_divideByShares_3 rfl ?_
  refine vq_callV (n := 0) (C := R_D) (T := T_D) _ _ d_D_divideByShares_4 (ct_D_branchProduct l b id D hW hc he hk) w_320 w_322 sel_D_branchProduct w_323 w_4 rfl ⟨by decide, by decide, by decide +kernel⟩ ⟨by decide, by decide⟩ (by decide) rfl rfl rfl rfl (Nat.le_of_ble_eq_true rfl) rfl rfl rfl ⟨by decide, by decide⟩ (fun _ _ h => h.elim) (fun v4 g4 h4 => ?_)
  rw [h4.1, h4.2]
  refine vq_lmul d_D_divideByShares_7 ?_
  rw [show (8 : Int64) = lN 8 from rfl, lN_mul]
  refine vq_lstore_n (lv' := [(3, _), (0, _), (1, _)]) d_D_divideByShares_8 (by decide) rfl ?_
  refine vq_aload_n d_D_divideByShares_9 rfl ?_
  refine vq_ldc2 d_D_divideByShares_10 w_324 ?_
  refine vq_lload_n d_D_divideByShares_13 rfl ?_
  refine vq_lmul d_D_divideByShares_14 ?_
  rw [show (4 : Int64) = lN 4 from rfl, lN_mul]
  refine vq_lload_n d_D_divideByShares_15 rfl ?_
  refine vq_lload_n d_D_divideByShares_16 rfl ?_
  refine vq_lmul d_D_divideByShares_17 ?_
  rw [lN_mul]
  refine vq_callV (n := 2) (C := R_D) (T := T_D) _ _ d_D_divideByShares_18 (ct_D_startWith l b id D hW hc he hk (lN (4 * (8 * zpr F e))) (a * (8 * zpr F e))) w_325 w_327 sel_D_startWith w_328 w_4 rfl ⟨by decide, by decide, by decide +kernel⟩ ⟨by decide, by decide⟩ (by decide) rfl rfl rfl rfl (Nat.le_of_ble_eq_true rfl) rfl rfl rfl ⟨by decide, by decide⟩ (fun _ _ h => h.elim) (fun v18 g18 h18 => ?_)
  obtain ⟨rfl, a1, a2, a3, a4, a5⟩ := h18
  have hk1 : LK g18 F e := hk.congr (fun q _ _ => by rw [a1])
  have hc1 : Hc g18 F := hc.congr (fun q _ _ => by rw [a1])
  refine vq_aload_n d_D_divideByShares_21 rfl ?_
  refine vq_getR (k := 1) (C := R_D) (T := T_D) d_D_divideByShares_22 rfl in_D w_151 (by decide) rfl (by decide) rfl rfl ?_
  refine vq_getI (k := 3) (C := R_V) (T := T_V) d_D_divideByShares_25 rfl in_V w_88 (by decide) rfl (by decide) rfl ?_
  refine vq_int (y := nI (zt F e)) (hk1.2.2.1) ?_
  refine vq_iconst (v := 3) d_D_divideByShares_28 (by decide) ?_
  refine vq_icmp_gt (tgt := 73) d_D_divideByShares_29 (by decide) (fun h29 => ?_) (fun h29 => ?_)
  · rw [show (3 : Int32) = nI 3 from rfl, nI_ltI (by decide) (by omega)] at h29
    refine vq_vret d_D_divideByShares_73 rfl (by decide) (by decide) rfl rfl ?_
    first
      | exact ⟨rfl, c1.trans (b1.trans a1), fun q hq => by rw [c2 q (by omega) (by omega), b2 q (by omega) (by omega), sJ_n (by omega)]; exact a2 q (by omega) (by omega) (by omega), by rw [c2 34 (by decide) (by decide), b2 34 (by decide) (by decide), sJ_n (by decide)]; exact a3, c3⟩
      | (refine ⟨rfl, a1, fun q hq => a2 q (by omega) (by omega) (by omega), a3, fun p hp => ?_⟩; rw [a5 p (by omega)]; unfold zsh zta; rw [ztb_zero (P := zP0 F e a) (fun c => by unfold zP0; rw [if_neg (by omega)])]; simp [zT0])
  · rw [show (3 : Int32) = nI 3 from rfl, nI_ltI (by decide) (by omega)] at h29
    have hP0 : zP0 F e a = zup F e (zt F e) (fun p => if p = e then a * (8 * zpr F e) * (4 - zq F e) else 0) := by unfold zP0; rw [if_pos (by omega)]
    have hP63 : zsum (zP0 F e a) (zn F) < 2 ^ 63 := by rw [hP0]; exact Nat.lt_of_le_of_lt (zup_le hW _ _) (by rw [zsum_pt, if_pos he]; exact hX63)
    refine vq_aload_n d_D_divideByShares_32 rfl ?_
    refine vq_getR (k := 5) (C := R_D) (T := T_D) d_D_divideByShares_33 rfl in_D w_157 (by decide) rfl (by decide) rfl rfl ?_
    refine vq_aload_n d_D_divideByShares_36 rfl ?_
    refine vq_getR (k := 1) (C := R_D) (T := T_D) d_D_divideByShares_37 rfl in_D w_151 (by decide) rfl (by decide) rfl rfl ?_
    refine vq_getI (k := 1) (C := R_V) (T := T_V) d_D_divideByShares_40 rfl in_V w_85 (by decide) rfl (by decide) rfl ?_
    refine vq_int (y := nI e) hk1.1 ?_
    refine vq_lload_n d_D_divideByShares_43 rfl ?_
    refine vq_lload_n d_D_divideByShares_44 rfl ?_
    refine vq_lmul d_D_divideByShares_45 ?_
    rw [lN_mul]
    refine vq_iconst (v := 4) d_D_divideByShares_46 (by decide) ?_
    refine vq_aload_n d_D_divideByShares_47 rfl ?_
    refine vq_getR (k := 1) (C := R_D) (T := T_D) d_D_divideByShares_48 rfl in_D w_151 (by decide) rfl (by decide) rfl rfl ?_
    refine vq_callV (n := 0) (C := R_V) (T := T_V) _ _ d_D_divideByShares_51 (ct_V_spouseQuarters l b id D hW he hk1) w_294 w_295 w_296 w_297 w_3 rfl ⟨by decide, by decide, by decide +kernel⟩ ⟨by decide, by decide⟩ (by decide) rfl rfl rfl rfl (Nat.le_of_ble_eq_true rfl) rfl rfl rfl ⟨by decide, by decide⟩ (fun _ _ h => h.elim) (fun v51 g51 h51 => ?_)
    rw [h51.1, h51.2]
    refine vq_isub d_D_divideByShares_54 ?_
    refine vq_int (show _ = nI (4 - zq F e) from pk_sub zq_le) ?_
    refine vq_i2l d_D_divideByShares_55 (nI_l (by omega)) ?_
    refine vq_lmul d_D_divideByShares_56 ?_
    rw [lN_mul]
    refine vq_last d_D_divideByShares_57 rfl (by decide) rfl rfl (show _ < 20 by omega) ?_
    have hc2 : Hc (sJ g18 36 (vp_updL (g18.2 36) e (lN (a * (8 * zpr F e) * (4 - zq F e))))) F := hc1.congr (fun q _ _ => rfl)
    have hk2 : LK (sJ g18 36 (vp_updL (g18.2 36) e (lN (a * (8 * zpr F e) * (4 - zq F e))))) F e := hk1.congr (fun q _ _ => rfl)
    have hv36 : ∀ p, p < zn F → (sJ g18 36 (vp_updL (g18.2 36) e (lN (a * (8 * zpr F e) * (4 - zq F e))))).2 36 p = lN ((fun p => if p = e then a * (8 * zpr F e) * (4 - zq F e) else 0) p) := by
      intro p hp
      rw [sJ_s, vp_updL]
      by_cases ep : p = e
      · simp [ep]
      · simp only [ep, if_false]; exact a4 p (by omega)
    refine vq_aload_n d_D_divideByShares_58 rfl ?_
    refine vq_aload_n d_D_divideByShares_59 rfl ?_
    refine vq_getR (k := 1) (C := R_D) (T := T_D) d_D_divideByShares_60 rfl in_D w_151 (by decide) rfl (by decide) rfl rfl ?_
    refine vq_getI (k := 3) (C := R_V) (T := T_V) d_D_divideByShares_63 rfl in_V w_88 (by decide) rfl (by decide) rfl ?_
    refine vq_int (y := nI (zt F e)) (hk1.2.2.1) ?_
    refine vq_callV (n := 1) (C := R_D) (T := T_D) _ _ d_D_divideByShares_66 (ct_D_raiseParts l b id D hW hc2 he hk2 (t := zt F e) (v := fun p => if p = e then a * (8 * zpr F e) * (4 - zq F e) else 0) (by omega) (by rw [zsum_pt, if_pos he]; exact hX63) (fun p hp => hv36 p hp)) w_346 w_348 sel_D_raiseParts w_349 w_4 rfl ⟨by decide, by decide, by decide +kernel⟩ ⟨by decide, by decide⟩ (by decide) rfl rfl rfl rfl (Nat.le_of_ble_eq_true rfl) rfl rfl rfl ⟨by decide, by decide⟩ (fun _ _ h => h.elim) (fun v66 g66 h66 => ?_)
    obtain ⟨rfl, b1, b2, b3⟩ := h66
    refine vq_aload_n d_D_divideByShares_69 rfl ?_
    refine vq_callV (n := 0) (C := R_D) (T := T_D) _ _ d_D_divideByShares_70 (ct_D_lowerParts l b id D hW (hc1.congr (fun q _ _ => by rw [b1]; rfl)) he (hk1.congr (fun q _ _ => by rw [b1]; rfl)) (P := zP0 F e a) (T := zT0 F e a) hP63 (fun p hp => by rw [b3 p hp, hP0]) (fun p hp => by rw [b2 35 (by decide) (by decide), sJ_n (by decide)]; exact a5 p (by omega))) w_331 w_333 sel_D_lowerParts w_334 w_4 rfl ⟨by decide, by decide, by decide +kernel⟩ ⟨by decide, by decide⟩ (by decide) rfl rfl rfl rfl (Nat.le_of_ble_eq_true rfl) rfl rfl rfl ⟨by decide, by decide⟩ (fun _ _ h => h.elim) (fun v70 g70 h70 => ?_)
    obtain ⟨rfl, c1, c2, c3⟩ := h70
    refine vq_vret d_D_divideByShares_73 rfl (by decide) (by decide) rfl rfl ?_
    first
      | exact ⟨rfl, c1.trans (b1.trans a1), fun q hq => by rw [c2 q (by omega) (by omega), b2 q (by omega) (by omega), sJ_n (by omega)]; exact a2 q (by omega) (by omega) (by omega), by rw [c2 34 (by decide) (by decide), b2 34 (by decide) (by decide), sJ_n (by decide)]; exact a3, c3⟩
      | (refine ⟨rfl, a1, fun q hq => a2 q (by omega) (by omega) (by omega), a3, fun p hp => ?_⟩; rw [a5 p (by omega)]; unfold zsh zta; rw [ztb_zero (P := zP0 F e a) (fun c => by unfold zP0; rw [if_neg (by omega)])]; simp [zT0])
set_option maxRecDepth 100000 in
set_option maxHeartbeats 4000000 in
theorem ct_D_countTakers (l : Launch) (b : Nat) (id : Nat → ClassId) (D : va_G) {g : Sg} {F : Fam} (hW : zW F) (hc : Hc g F) {S : Nat → Nat} (hS : ∀ p, p < zn F → g.2 35 p = lN (S p) ∧ S p < 2 ^ 63) : qCT l b id D m_D_countTakers false [.ref (b + 34)] 85 kT g 85 kT (fun v' g' => v' = some (.int (nI (zcn S (zn F)))) ∧ g' = g) (fun _ _ => False) := by
  have hn := hW.1
  refine qCT_of rfl (by decide) (Nat.le_of_ble_eq_true rfl) ?_
  show Vq l b id D m_D_countTakers false 85 kT _ 85 kT _ 85 kT 0 0 0 [(0, .ref (b + 34))] [] g
  have loop : ∀ (n9 : Nat) (i : Nat), zn F - i = n9 → i ≤ zn F → Vq l b id D m_D_countTakers false 85 kT (fun v' g' => v' = some (.int (nI (zcn S (zn F)))) ∧ g' = g) 85 kT (fun _ _ => False) 85 kT 0 0 4 [(2, .int (nI i)), (1, .int (nI (zcn S i))), (0, .ref (b + 34))] [] g := by
    intro n9
    induction n9 using Nat.strongRecOn with
    | ind n9 ih =>
    intro i hm hle
    refine vq_iload_n d_D_countTakers_4 rfl ?_
    refine vq_aload_n d_D_countTakers_5 rfl ?_
    refine vq_getR (k := 0) (C := R_D) (T := T_D) d_D_countTakers_6 rfl in_D w_150 (by decide) rfl (by decide) rfl rfl ?_
    refine vq_getI (k := 0) (C := R_F) (T := T_F) d_D_countTakers_9 rfl in_F w_35 (by decide) rfl (by decide) rfl ?_
    refine vq_int (y := nI (zn F)) hc.1 ?_
    refine vq_icmp_ge (tgt := 35) d_D_countTakers_12 (by decide) (fun h12 => ?_) (fun h12 => ?_)
    · have hi : i = zn F := by
        rw [nI_leI (by omega) (by omega)] at h12
        omega
      subst hi
      refine vq_iload_n d_D_countTakers_35 rfl ?_
      refine vq_iret d_D_countTakers_36 rfl (by decide) (by decide) rfl rfl ?_
      exact ⟨rfl, rfl⟩
    · have hi : i < zn F := by
        rw [nI_leI (by omega) (by omega)] at h12
        omega
      have s29 : ∀ (x : Nat), x = zcn S (i + 1) → Vq l b id D m_D_countTakers false 85 kT (fun v' g' => v' = some (.int (nI (zcn S (zn F)))) ∧ g' = g) 85 kT (fun _ _ => False) 85 kT 0 0 29 [(1, .int (nI x)), (2, .int (nI i)), (0, .ref (b + 34))] [] g := by
        intro x hx
        refine vq_iinc (k := 1) (lv' := [(2, _), (1, _), (0, _)]) d_D_countTakers_29 rfl (ip1 i) (by decide) rfl ?_
        refine vq_goto (tgt := 4) d_D_countTakers_32 (by decide) ?_
        rw [hx]
        exact ih (zn F - (i + 1)) (by omega) (i + 1) rfl (by omega)
      refine vq_aload_n d_D_countTakers_15 rfl ?_
      refine vq_getR (k := 3) (C := R_D) (T := T_D) d_D_countTakers_16 rfl in_D w_153 (by decide) rfl (by decide) rfl rfl ?_
      refine vq_iload_n d_D_countTakers_19 rfl ?_
      refine vq_lald d_D_countTakers_20 (by decide) rfl rfl (show _ < 20 by omega) ?_
      refine vq_long (y := lN (S i)) (hS i hi).1 ?_
      refine vq_lconst (v := 0) d_D_countTakers_21 rfl ?_
      refine vq_lcmp d_D_countTakers_22 ?_
      refine vq_if_le (tgt := 29) d_D_countTakers_23 (by decide) (fun h23 => ?_) (fun h23 => ?_)
      · rw [lpos (hS i hi).2] at h23
        refine vq_pk [1, 0, 2] (lv' := [(1, _), (2, _), (0, _)]) rfl ?_
        exact s29 _ (by show _ = zcn S i + (if 0 < S i then 1 else 0); first | (rw [if_pos (by omega)]; done) | (rw [if_neg (by omega)]; rfl))
      · rw [lpos (hS i hi).2] at h23
        refine vq_iinc (k := 1) (lv' := [(1, _), (2, _), (0, _)]) d_D_countTakers_26 rfl (ip1 (zcn S i)) (by decide) rfl ?_
        exact s29 _ (by show _ = zcn S i + (if 0 < S i then 1 else 0); first | (rw [if_pos (by omega)]; done) | (rw [if_neg (by omega)]; rfl))
  refine vq_iconst (v := 0) d_D_countTakers_0 (by decide) ?_
  refine vq_istore_n (lv' := [(1, _), (0, _)]) d_D_countTakers_1 (by decide) rfl ?_
  refine vq_iconst (v := 0) d_D_countTakers_2 (by decide) ?_
  refine vq_istore_n (lv' := [(2, _), (1, _), (0, _)]) d_D_countTakers_3 (by decide) rfl ?_
  exact loop (zn F) 0 rfl (by omega)
set_option maxRecDepth 100000 in
set_option maxHeartbeats 4000000 in
theorem ct_D_takerAt (l : Launch) (b : Nat) (id : Nat → ClassId) (D : va_G) {g : Sg} {F : Fam} (hW : zW F) (hc : Hc g F) {S : Nat → Nat} (hS : ∀ p, p < zn F → g.2 35 p = lN (S p) ∧ S p < 2 ^ 63) (x : Int32) : qCT l b id D m_D_takerAt false [.ref (b + 34), .int x] 85 kT g 85 kT (fun v' g' => v' = some (.int (eO (ztk S (zn F) x))) ∧ g' = g) (fun _ _ => False) := by
  have hn := hW.1
  refine qCT_of rfl (by decide) (Nat.le_of_ble_eq_true rfl) ?_
  show Vq l b id D m_D_takerAt false 85 kT _ 85 kT _ 85 kT 0 0 0 [(0, .ref (b + 34)), (1, .int x)] [] g
  have loop : ∀ (n9 : Nat) (i : Nat), zn F - i = n9 → (i ≤ zn F ∧ ztk S i x = none) → Vq l b id D m_D_takerAt false 85 kT (fun v' g' => v' = some (.int (eO (ztk S (zn F) x))) ∧ g' = g) 85 kT (fun _ _ => False) 85 kT 0 0 4 [(3, .int (nI i)), (2, .int (nI (zcn S i))), (0, .ref (b + 34)), (1, .int x)] [] g := by
    intro n9
    induction n9 using Nat.strongRecOn with
    | ind n9 ih =>
    intro i hm hI
    have hle := hI.1
    refine vq_iload_n d_D_takerAt_4 rfl ?_
    refine vq_aload_n d_D_takerAt_5 rfl ?_
    refine vq_getR (k := 0) (C := R_D) (T := T_D) d_D_takerAt_6 rfl in_D w_150 (by decide) rfl (by decide) rfl rfl ?_
    refine vq_getI (k := 0) (C := R_F) (T := T_F) d_D_takerAt_9 rfl in_F w_35 (by decide) rfl (by decide) rfl ?_
    refine vq_int (y := nI (zn F)) hc.1 ?_
    refine vq_icmp_ge (tgt := 42) d_D_takerAt_12 (by decide) (fun h12 => ?_) (fun h12 => ?_)
    · have hi : i = zn F := by
        rw [nI_leI (by omega) (by omega)] at h12
        omega
      subst hi
      refine vq_iconst (v := -1) d_D_takerAt_42 (by decide) ?_
      refine vq_iret d_D_takerAt_43 rfl (by decide) (by decide) rfl rfl ?_
      exact ⟨by rw [hI.2]; rfl, rfl⟩
    · have hi : i < zn F := by
        rw [nI_leI (by omega) (by omega)] at h12
        omega
      have s36 : ∀ (y : Nat), y = zcn S (i + 1) → ztk S (i + 1) x = none → Vq l b id D m_D_takerAt false 85 kT (fun v' g' => v' = some (.int (eO (ztk S (zn F) x))) ∧ g' = g) 85 kT (fun _ _ => False) 85 kT 0 0 36 [(2, .int (nI y)), (3, .int (nI i)), (0, .ref (b + 34)), (1, .int x)] [] g := by
        intro y hy hno2
        refine vq_iinc (k := 1) (lv' := [(3, _), (2, _), (0, _), (1, _)]) d_D_takerAt_36 rfl (ip1 i) (by decide) rfl ?_
        refine vq_goto (tgt := 4) d_D_takerAt_39 (by decide) ?_
        rw [hy]
        exact ih (zn F - (i + 1)) (by omega) (i + 1) rfl ⟨by omega, hno2⟩
      refine vq_aload_n d_D_takerAt_15 rfl ?_
      refine vq_getR (k := 3) (C := R_D) (T := T_D) d_D_takerAt_16 rfl in_D w_153 (by decide) rfl (by decide) rfl rfl ?_
      refine vq_iload_n d_D_takerAt_19 rfl ?_
      refine vq_lald d_D_takerAt_20 (by decide) rfl rfl (show _ < 20 by omega) ?_
      refine vq_long (y := lN (S i)) (hS i hi).1 ?_
      refine vq_lconst (v := 0) d_D_takerAt_21 rfl ?_
      refine vq_lcmp d_D_takerAt_22 ?_
      refine vq_if_le (tgt := 36) d_D_takerAt_23 (by decide) (fun h23 => ?_) (fun h23 => ?_)
      · rw [lpos (hS i hi).2] at h23
        refine vq_pk [1, 0, 2, 3] (lv' := [(2, _), (3, _), (0, _), (1, _)]) rfl ?_
        exact s36 _ (by show _ = zcn S i + (if 0 < S i then 1 else 0); first | (rw [if_pos (by omega)]; done) | (rw [if_neg (by omega)]; rfl)) (zfst_none hI.2 (by first | (simp [h23]; done) | (simp [h28]; done)))
      · rw [lpos (hS i hi).2] at h23
        refine vq_iload_n d_D_takerAt_26 rfl ?_
        refine vq_iload_n d_D_takerAt_27 rfl ?_
        refine vq_icmp_ne (tgt := 33) d_D_takerAt_28 (by decide) (fun h28 => ?_) (fun h28 => ?_)
        · refine vq_iinc (k := 1) (lv' := [(2, _), (3, _), (0, _), (1, _)]) d_D_takerAt_33 rfl (ip1 (zcn S i)) (by decide) rfl ?_
          exact s36 _ (by show _ = zcn S i + (if 0 < S i then 1 else 0); first | (rw [if_pos (by omega)]; done) | (rw [if_neg (by omega)]; rfl)) (zfst_none hI.2 (by first | (simp [h23]; done) | (simp [h28]; done)))
        · refine vq_iload_n d_D_takerAt_31 rfl ?_
          refine vq_iret d_D_takerAt_32 rfl (by decide) (by decide) rfl rfl ?_
          refine ⟨?_, rfl⟩
          have h9 := zfst_on (zfst_some hI.2 (by simp [h28]; omega)) (zn F - (i + 1))
          rw [show i + 1 + (zn F - (i + 1)) = zn F by omega] at h9
          unfold ztk
          rw [h9]; rfl
  refine vq_iconst (v := 0) d_D_takerAt_0 (by decide) ?_
  refine vq_istore_n (lv' := [(2, _), (0, _), (1, _)]) d_D_takerAt_1 (by decide) rfl ?_
  refine vq_iconst (v := 0) d_D_takerAt_2 (by decide) ?_
  refine vq_istore_n (lv' := [(3, _), (2, _), (0, _), (1, _)]) d_D_takerAt_3 (by decide) rfl ?_
  exact loop (zn F) 0 rfl ⟨by omega, rfl⟩
set_option maxRecDepth 100000 in
set_option maxHeartbeats 4000000 in
theorem ct_D_commonDivisor (l : Launch) (b : Nat) (id : Nat → ClassId) (D : va_G) {g : Sg} {p q : Nat} (hp0 : 0 < p) (hp : p < 2 ^ 40) (hq : q < 2 ^ 40) : qCT l b id D m_D_commonDivisor false [.long (lN p), .long (lN q)] 85 kT g 85 kT (fun v' g' => v' = some (.long (lN (Nat.gcd p q))) ∧ g' = g) (fun _ _ => False) := by
  refine qCT_of rfl (by decide) (Nat.le_of_ble_eq_true rfl) ?_
  show Vq l b id D m_D_commonDivisor false 85 kT _ 85 kT _ 85 kT 0 0 0 [(0, .long (lN p)), (2, .long (lN q))] [] g
  have loop : ∀ (n9 : Nat) (s x y : Nat), 100 - s = n9 → (s ≤ 100 ∧ zEu (Nat.gcd p q) s x y) → Vq l b id D m_D_commonDivisor false 85 kT (fun v' g' => v' = some (.long (lN (Nat.gcd p q))) ∧ g' = g) 85 kT (fun _ _ => False) 85 kT 0 0 9 [(8, .int (nI s)), (6, .long (lN y)), (4, .long (lN x)), (0, .long (lN p)), (2, .long (lN q))] [] g := by
    intro n9
    induction n9 using Nat.strongRecOn with
    | ind n9 ih =>
    intro s x y hm hI
    have hs1 := hI.1
    have hx62 := hI.2.2.1
    have hy62 := hI.2.2.2.1
    refine vq_iload d_D_commonDivisor_9 rfl ?_
    refine vq_bipush (v := 100) d_D_commonDivisor_11 (by decide) ?_
    refine vq_icmp_ge (tgt := 44) d_D_commonDivisor_13 (by decide) (fun h13 => ?_) (fun h13 => ?_)
    · have hs : s = 100 := by
        rw [show (100 : Int32) = nI 100 from rfl, nI_leI (by decide) (by omega)] at h13
        omega
      subst hs
      have hy0 := zEu_end hI.2
      refine vq_lload d_D_commonDivisor_44 rfl ?_
      refine vq_lret d_D_commonDivisor_46 rfl (by decide) (by decide) rfl rfl ?_
      refine ⟨?_, rfl⟩
      have h9 := hI.2.1
      rw [hy0, Nat.gcd_zero_right] at h9
      rw [h9]
    · have hs : s < 100 := by
        rw [show (100 : Int32) = nI 100 from rfl, nI_leI (by decide) (by omega)] at h13
        omega
      refine vq_lload d_D_commonDivisor_16 rfl ?_
      refine vq_lconst (v := 0) d_D_commonDivisor_18 rfl ?_
      refine vq_lcmp d_D_commonDivisor_19 ?_
      refine vq_if_le (tgt := 44) d_D_commonDivisor_20 (by decide) (fun h20 => ?_) (fun h20 => ?_)
      · rw [lpos (by omega)] at h20
        have hy0 := h20
        refine vq_lload d_D_commonDivisor_44 rfl ?_
        refine vq_lret d_D_commonDivisor_46 rfl (by decide) (by decide) rfl rfl ?_
        refine ⟨?_, rfl⟩
        have h9 := hI.2.1
        rw [hy0, Nat.gcd_zero_right] at h9
        rw [h9]
      · rw [lpos (by omega)] at h20
        refine vq_lload d_D_commonDivisor_23 rfl ?_
        refine vq_lload d_D_commonDivisor_25 rfl ?_
        refine vq_lrem d_D_commonDivisor_27 (lN_ne0 (by omega) (by omega)) ?_
        rw [pk_lRem (by omega) (by omega) (by omega)]
        refine vq_lstore (lv' := [(9, _), (8, _), (6, _), (4, _), (0, _), (2, _)]) d_D_commonDivisor_28 (by decide) rfl ?_
        refine vq_lload d_D_commonDivisor_30 rfl ?_
        refine vq_lstore (lv' := [(4, _), (9, _), (8, _), (6, _), (0, _), (2, _)]) d_D_commonDivisor_32 (by decide) rfl ?_
        refine vq_lload d_D_commonDivisor_34 rfl ?_
        refine vq_lstore (lv' := [(6, _), (4, _), (9, _), (8, _), (0, _), (2, _)]) d_D_commonDivisor_36 (by decide) rfl ?_
        refine vq_iinc (k := 3) (lv' := [(8, _), (6, _), (4, _), (9, _), (0, _), (2, _)]) d_D_commonDivisor_38 rfl (ip1 s) (by decide) rfl ?_
        refine vq_goto (tgt := 9) d_D_commonDivisor_41 (by decide) ?_
        refine vq_pk [0, 1, 2, 4, 5] (lv' := [(8, _), (6, _), (4, _), (0, _), (2, _)]) rfl ?_
        exact ih (100 - (s + 1)) (by omega) (s + 1) y (x % y) rfl ⟨by omega, zEu_step hI.2 (by omega)⟩
  refine vq_lload_n d_D_commonDivisor_0 rfl ?_
  refine vq_lstore (lv' := [(4, _), (0, _), (2, _)]) d_D_commonDivisor_1 (by decide) rfl ?_
  refine vq_lload_n d_D_commonDivisor_3 rfl ?_
  refine vq_lstore (lv' := [(6, _), (4, _), (0, _), (2, _)]) d_D_commonDivisor_4 (by decide) rfl ?_
  refine vq_iconst (v := 0) d_D_commonDivisor_6 (by decide) ?_
  refine vq_istore (lv' := [(8, _), (6, _), (4, _), (0, _), (2, _)]) d_D_commonDivisor_7 (by decide) rfl ?_
  exact loop 100 0 p q rfl ⟨by omega, rfl, by omega, by omega, hp0, Or.inl ⟨rfl, hp, hq⟩⟩
set_option maxRecDepth 100000 in
set_option maxHeartbeats 4000000 in
theorem ct_D_inLowestTerms (l : Launch) (b : Nat) (id : Nat → ClassId) (D : va_G) {g : Sg} {w s d : Nat} (hw : w < 20) (hs : g.2 35 w = lN s) (hd : g.2 34 4 = lN d) (hs40 : s < 2 ^ 40) (hd40 : d < 2 ^ 40) : qCT l b id D m_D_inLowestTerms false [.ref (b + 34), .int (nI w)] 85 kT g 85 kT (fun v' g' => v' = some (.long (zfr s d)) ∧ g' = g) (fun _ _ => False) := by
  refine qCT_of rfl (by decide) (Nat.le_of_ble_eq_true rfl) ?_
  show Vq l b id D m_D_inLowestTerms false 85 kT _ 85 kT _ 85 kT 0 0 0 [(0, .ref (b + 34)), (1, .int (nI w))] [] g
  refine vq_aload_n d_D_inLowestTerms_0 rfl ?_
  refine vq_getR (k := 3) (C := R_D) (T := T_D) d_D_inLowestTerms_1 rfl in_D w_153 (by decide) rfl (by decide) rfl rfl ?_
  refine vq_iload_n d_D_inLowestTerms_4 rfl ?_
  refine vq_lald d_D_inLowestTerms_5 (by decide) rfl rfl (show _ < 20 by omega) ?_
  refine vq_long (y := lN s) hs ?_
  refine vq_lconst (v := 0) d_D_inLowestTerms_6 rfl ?_
  refine vq_lcmp d_D_inLowestTerms_7 ?_
  refine vq_if_gt (tgt := 13) d_D_inLowestTerms_8 (by decide) (fun h8 => ?_) (fun h8 => ?_)
  · rw [lposg (by omega)] at h8
    refine vq_aload_n d_D_inLowestTerms_13 rfl ?_
    refine vq_getR (k := 3) (C := R_D) (T := T_D) d_D_inLowestTerms_14 rfl in_D w_153 (by decide) rfl (by decide) rfl rfl ?_
    refine vq_iload_n d_D_inLowestTerms_17 rfl ?_
    refine vq_lald d_D_inLowestTerms_18 (by decide) rfl rfl (show _ < 20 by omega) ?_
    refine vq_long (y := lN s) hs ?_
    refine vq_aload_n d_D_inLowestTerms_19 rfl ?_
    refine vq_getJ (k := 4) (C := R_D) (T := T_D) d_D_inLowestTerms_20 rfl in_D w_155 (by decide) rfl (by decide) rfl ?_
    refine vq_long (y := lN d) hd ?_
    refine vq_callS (n := 2) _ _ d_D_inLowestTerms_23 (ct_D_commonDivisor l b id D (p := s) (q := d) (by omega) hs40 hd40) w_587 w_588 w_589 w_4 rfl ⟨by decide, by decide, by decide +kernel⟩ ⟨by decide, by decide⟩ rfl rfl (Nat.le_of_ble_eq_true rfl) rfl rfl rfl ⟨by decide, by decide⟩ (fun _ _ h => h.elim) (fun v23 g23 h23 => ?_)
    rw [h23.1, h23.2]
    have hg0 : 0 < Nat.gcd s d := Nat.gcd_pos_of_pos_left d (by omega)
    have hg63 : Nat.gcd s d < 2 ^ 63 := Nat.lt_of_le_of_lt (Nat.gcd_le_left d (by omega)) (by omega)
    refine vq_lstore_n (lv' := [(2, _), (0, _), (1, _)]) d_D_inLowestTerms_26 (by decide) rfl ?_
    refine vq_lload_n d_D_inLowestTerms_27 rfl ?_
    refine vq_lconst (v := 0) d_D_inLowestTerms_28 rfl ?_
    refine vq_lcmp d_D_inLowestTerms_29 ?_
    refine vq_if_gt (tgt := 37) d_D_inLowestTerms_30 (by decide) (fun h30 => ?_) (fun h30 => absurd h30 (fun h => h ((lposg hg63).mpr hg0)))
    refine vq_aload_n d_D_inLowestTerms_37 rfl ?_
    refine vq_getR (k := 3) (C := R_D) (T := T_D) d_D_inLowestTerms_38 rfl in_D w_153 (by decide) rfl (by decide) rfl rfl ?_
    refine vq_iload_n d_D_inLowestTerms_41 rfl ?_
    refine vq_lald d_D_inLowestTerms_42 (by decide) rfl rfl (show _ < 20 by omega) ?_
    refine vq_long (y := lN s) hs ?_
    refine vq_lload_n d_D_inLowestTerms_43 rfl ?_
    refine vq_ldiv d_D_inLowestTerms_44 (lN_ne0 hg0 hg63) ?_
    rw [pk_lDiv (by omega) hg0 hg63]
    refine vq_bipush (v := 32) d_D_inLowestTerms_45 (by decide) ?_
    refine vq_lshl d_D_inLowestTerms_47 rfl ?_
    refine vq_aload_n d_D_inLowestTerms_48 rfl ?_
    refine vq_getJ (k := 4) (C := R_D) (T := T_D) d_D_inLowestTerms_49 rfl in_D w_155 (by decide) rfl (by decide) rfl ?_
    refine vq_long (y := lN d) hd ?_
    refine vq_lload_n d_D_inLowestTerms_52 rfl ?_
    refine vq_ldiv d_D_inLowestTerms_53 (lN_ne0 hg0 hg63) ?_
    rw [pk_lDiv (by omega) hg0 hg63]
    refine vq_lor d_D_inLowestTerms_54 ?_
    refine vq_lret d_D_inLowestTerms_55 rfl (by decide) (by decide) rfl rfl ?_
    exact ⟨by unfold zfr; rw [if_neg (by omega)], rfl⟩
  · rw [lposg (by omega)] at h8
    refine vq_lconst (v := 0) d_D_inLowestTerms_11 rfl ?_
    refine vq_lret d_D_inLowestTerms_12 rfl (by decide) (by decide) rfl rfl ?_
    exact ⟨by unfold zfr; rw [if_pos (by omega)], rfl⟩
