/-! SuccessionClerk$Ledger: paying dues. Laid by wip/whole/specs/p33.py -/
def zgr (R : Nat → Nat) : Nat → Nat
  | 0 => 0
  | k + 1 => if R (zgr R k) < R k then k else zgr R k
theorem zgr_lt (R : Nat → Nat) : ∀ n, 0 < n → zgr R n < n
  | 0, h => absurd h (Nat.lt_irrefl 0)
  | k + 1, _ => by
    show (if R (zgr R k) < R k then k else zgr R k) < k + 1
    split
    · omega
    · cases k with
      | zero => show 0 < 0 + 1; omega
      | succ j => have := zgr_lt R (j + 1) (by omega); omega
theorem zgr_le (R : Nat → Nat) : ∀ n, zgr R n ≤ n
  | 0 => Nat.le_refl _
  | k + 1 => Nat.le_of_lt (zgr_lt R (k + 1) (by omega))
def zrs (n : Nat) (R : Nat → Nat) : Nat → Nat → Nat
  | 0 => R
  | r + 1 => fun q => if q = zgr (zrs n R r) n then 0 else zrs n R r q
def zxt (n : Nat) (R : Nat → Nat) : Nat → Nat → Nat
  | 0 => fun _ => 0
  | r + 1 => fun q => zxt n R r q + (if q = zgr (zrs n R r) n then 1 else 0)
theorem zrs_le (n : Nat) (R : Nat → Nat) : ∀ r q, zrs n R r q ≤ R q
  | 0, q => Nat.le_refl _
  | r + 1, q => by
    show (if q = zgr (zrs n R r) n then 0 else zrs n R r q) ≤ R q
    split
    · omega
    · exact zrs_le n R r q
/-- what each is paid: whole cents, and the left ones by the greatest rests -/
def zun (n : Nat) (S : Nat → Nat) (d A : Nat) : Nat := A - zsum (fun p => S p / d) n
def zpy (n : Nat) (S : Nat → Nat) (d A p : Nat) : Nat := S p / d + zxt n (fun p => S p % d) (zun n S d A) p
theorem zdiv_le {S : Nat → Nat} {d : Nat} : ∀ k, d * zsum (fun p => S p / d) k ≤ zsum S k
  | 0 => Nat.le_refl _
  | k + 1 => by
    show d * (zsum (fun p => S p / d) k + S k / d) ≤ zsum S k + S k
    rw [Nat.mul_add]
    exact Nat.add_le_add (zdiv_le k) (Nat.mul_div_le _ _)
theorem zsum_mono {f : Nat → Nat} {k n : Nat} (h : k ≤ n) : zsum f k ≤ zsum f n := by
  obtain ⟨d, rfl⟩ : ∃ d, n = k + d := ⟨n - k, by omega⟩
  clear h
  induction d with
  | zero => exact Nat.le_refl _
  | succ d ih =>
    show zsum f k ≤ zsum f (k + d) + f (k + d)
    omega
theorem zdiv_A {S : Nat → Nat} {d A n : Nat} (hd : 0 < d) (h : zsum S n = A * d) {k : Nat} (hk : k ≤ n) : zsum (fun p => S p / d) k ≤ A := by
  have h1 := zdiv_le (S := S) (d := d) k
  have h2 : zsum S k ≤ zsum S n := zsum_mono hk
  rw [h, Nat.mul_comm A d] at h2
  exact Nat.le_of_mul_le_mul_left (Nat.le_trans h1 h2) hd
theorem zmod_sum {S : Nat → Nat} {d : Nat} : ∀ n, zsum S n = d * zsum (fun p => S p / d) n + zsum (fun p => S p % d) n
  | 0 => rfl
  | k + 1 => by
    show zsum S k + S k = d * (zsum (fun p => S p / d) k + S k / d) + (zsum (fun p => S p % d) k + S k % d)
    have h1 := zmod_sum (S := S) (d := d) k
    have h2 := Nat.div_add_mod (S k) d
    rw [Nat.mul_add]
    omega
theorem zmod_le {S : Nat → Nat} {d : Nat} (hd : 0 < d) : ∀ n, zsum (fun p => S p % d) n ≤ n * d
  | 0 => by simp [zsum]
  | k + 1 => by
    show zsum (fun p => S p % d) k + S k % d ≤ (k + 1) * d
    have h1 := zmod_le (S := S) hd k
    have h2 := Nat.mod_lt (S k) hd
    rw [Nat.add_mul]
    omega
theorem zun_le {S : Nat → Nat} {d A n : Nat} (hd : 0 < d) (h : zsum S n = A * d) : zun n S d A ≤ n := by
  have h1 := zmod_sum (S := S) (d := d) n
  have h2 := zmod_le (S := S) hd n
  have h3 : d * A ≤ d * (zsum (fun p => S p / d) n + n) := by
    rw [Nat.mul_add, Nat.mul_comm d n, Nat.mul_comm d A]
    omega
  have h4 := Nat.le_of_mul_le_mul_left h3 hd
  unfold zun
  omega
/-- so much more at a place -/
theorem vadd (f : Nat → Int64) (a : Nat) (x : Int64) (j : Nat) : vp_updL f a (f a + x) j = f j + (if j = a then x else 0) := by
  unfold vp_updL
  by_cases h : j = a
  · subst h; simp
  · simp [h]
def m_L_pay : Mt := (y_L_pay, c_L_pay, 5, { frames := 8, cells := 0, slots := 0, locals := 130 }, none, none)
def m_L_greatestRest : Mt := (y_L_greatestRest, c_L_greatestRest, 3, { frames := 8, cells := 0, slots := 0, locals := 130 }, (some .int), none)
def m_L_payDues : Mt := (y_L_payDues, c_L_payDues, 9, { frames := 9, cells := 0, slots := 0, locals := 175 }, none, none)
set_option maxRecDepth 100000 in
set_option maxHeartbeats 4000000 in
theorem ct_L_pay (l : Launch) (b : Nat) (id : Nat → ClassId) (D : va_G) {g : Sg} {e p : Nat} (he : e < 20) (hp : p < 21) (x : Int64) : qCT l b id D m_L_pay false [.ref (b + 41), .int (nI e), .int (nI p), .long x] 85 kT g 85 kT (fun v' g' => v' = none ∧ g'.1 = g.1 ∧ (∀ q, q ≠ 43 + e → q ≠ 64 → g'.2 q = g.2 q) ∧ (∀ j, g'.2 (43 + e) j = g.2 (43 + e) j + (if j = p then x else 0)) ∧ (∀ j, g'.2 64 j = g.2 64 j + (if j = p then x else 0))) (fun _ _ => False) := by
  refine qCT_of rfl (by decide) (Nat.le_of_ble_eq_true rfl) ?_
  show Vq l b id D m_L_pay false 85 kT _ 85 kT _ 85 kT 0 0 0 [(0, .ref (b + 41)), (1, .int (nI e)), (2, .int (nI p)), (3, .long x)] [] g
  refine vq_aload_n d_L_pay_0 rfl ?_
  refine vq_getR (k := 3) (C := R_L) (T := T_L) d_L_pay_1 rfl in_L w_185 (by decide) rfl (by decide) rfl rfl ?_
  refine vq_iload_n d_L_pay_4 rfl ?_
  refine vq_aald5 d_L_pay_5 (by decide) rfl rfl (show _ < 20 by omega) ?_
  refine vq_iload_n d_L_pay_6 rfl ?_
  refine vq_dup2_11 d_L_pay_7 rfl rfl ?_
  refine vq_lald d_L_pay_8 (show 43 + _ < 85 by omega) (qK_pm _ (by omega)) rfl (Nat.lt_of_lt_of_eq (show _ < 21 by omega) (qL_pm _ (by omega)).symm) ?_
  refine vq_lload_n d_L_pay_9 rfl ?_
  refine vq_ladd d_L_pay_10 ?_
  refine vq_last d_L_pay_11 rfl (show 43 + _ < 85 by omega) (qK_pm _ (by omega)) rfl (Nat.lt_of_lt_of_eq (show _ < 21 by omega) (qL_pm _ (by omega)).symm) ?_
  refine vq_aload_n d_L_pay_12 rfl ?_
  refine vq_getR (k := 5) (C := R_L) (T := T_L) d_L_pay_13 rfl in_L w_189 (by decide) rfl (by decide) rfl rfl ?_
  refine vq_iload_n d_L_pay_16 rfl ?_
  refine vq_dup2_11 d_L_pay_17 rfl rfl ?_
  refine vq_lald d_L_pay_18 (by decide) rfl rfl (show _ < 21 by omega) ?_
  refine vq_lload_n d_L_pay_19 rfl ?_
  refine vq_ladd d_L_pay_20 ?_
  refine vq_last d_L_pay_21 rfl (by decide) rfl rfl (show _ < 21 by omega) ?_
  refine vq_vret d_L_pay_22 rfl (by decide) (by decide) rfl rfl ?_
  refine ⟨rfl, rfl, fun q a c => ?_, fun j => ?_, fun j => ?_⟩
  · rw [sJ_n c, sJ_n (show q ≠ qC 42 + e from a)]
  · rw [sJ_n (show 43 + e ≠ 64 by omega)]; show (sJ g (43 + e) _).2 (43 + e) j = _; rw [sJ_s]; exact vadd _ _ _ _
  · rw [sJ_s, sJ_n (show 64 ≠ qC 42 + e from (show 64 ≠ 43 + e by omega))]; exact vadd _ _ _ _
set_option maxRecDepth 100000 in
set_option maxHeartbeats 4000000 in
theorem ct_L_greatestRest (l : Launch) (b : Nat) (id : Nat → ClassId) (D : va_G) {g : Sg} {F : Fam} (hW : zW F) (hc : Hc g F) (h0 : 0 < zn F) {R : Nat → Nat} (hR : ∀ p, p < zn F → g.2 66 p = lN (R p) ∧ R p < 2 ^ 63) : qCT l b id D m_L_greatestRest false [.ref (b + 41)] 85 kT g 85 kT (fun v' g' => v' = some (.int (nI (zgr R (zn F)))) ∧ g' = g) (fun _ _ => False) := by
  have hn := hW.1
  refine qCT_of rfl (by decide) (Nat.le_of_ble_eq_true rfl) ?_
  show Vq l b id D m_L_greatestRest false 85 kT _ 85 kT _ 85 kT 0 0 0 [(0, .ref (b + 41))] [] g
  have loop : ∀ (n9 : Nat) (i : Nat), zn F - i = n9 → (1 ≤ i ∧ i ≤ zn F) → Vq l b id D m_L_greatestRest false 85 kT (fun v' g' => v' = some (.int (nI (zgr R (zn F)))) ∧ g' = g) 85 kT (fun _ _ => False) 85 kT 0 0 4 [(2, .int (nI i)), (1, .int (nI (zgr R i))), (0, .ref (b + 41))] [] g := by
    intro n9
    induction n9 using Nat.strongRecOn with
    | ind n9 ih =>
    intro i hm hI
    have hi1 := hI.1
    have hle := hI.2
    have hz := zgr_lt R i (by omega)
    refine vq_iload_n d_L_greatestRest_4 rfl ?_
    refine vq_aload_n d_L_greatestRest_5 rfl ?_
    refine vq_getR (k := 0) (C := R_L) (T := T_L) d_L_greatestRest_6 rfl in_L w_182 (by decide) rfl (by decide) rfl rfl ?_
    refine vq_getI (k := 0) (C := R_F) (T := T_F) d_L_greatestRest_9 rfl in_F w_33 (by decide) rfl (by decide) rfl ?_
    refine vq_int (y := nI (zn F)) hc.1 ?_
    refine vq_icmp_ge (tgt := 39) d_L_greatestRest_12 (by decide) (fun h12 => ?_) (fun h12 => ?_)
    · have hi : i = zn F := by
        rw [nI_leI (by omega) (by omega)] at h12
        omega
      subst hi
      refine vq_iload_n d_L_greatestRest_39 rfl ?_
      refine vq_iret d_L_greatestRest_40 rfl (by decide) (by decide) rfl rfl ?_
      exact ⟨rfl, rfl⟩
    · have hi : i < zn F := by
        rw [nI_leI (by omega) (by omega)] at h12
        omega
      have s33 : ∀ (x : Nat), x = zgr R (i + 1) → Vq l b id D m_L_greatestRest false 85 kT (fun v' g' => v' = some (.int (nI (zgr R (zn F)))) ∧ g' = g) 85 kT (fun _ _ => False) 85 kT 0 0 33 [(1, .int (nI x)), (2, .int (nI i)), (0, .ref (b + 41))] [] g := by
        intro x hx
        refine vq_iinc (k := 1) (lv' := [(2, _), (1, _), (0, _)]) d_L_greatestRest_33 rfl (ip1 i) (by decide) rfl ?_
        refine vq_goto (tgt := 4) d_L_greatestRest_36 (by decide) ?_
        rw [hx]
        exact ih (zn F - (i + 1)) (by omega) (i + 1) rfl ⟨by omega, by omega⟩
      refine vq_aload_n d_L_greatestRest_15 rfl ?_
      refine vq_getR (k := 7) (C := R_L) (T := T_L) d_L_greatestRest_16 rfl in_L w_192 (by decide) rfl (by decide) rfl rfl ?_
      refine vq_iload_n d_L_greatestRest_19 rfl ?_
      refine vq_lald d_L_greatestRest_20 (by decide) rfl rfl (show _ < 20 by omega) ?_
      refine vq_long (y := lN (R i)) (hR i (by omega)).1 ?_
      refine vq_aload_n d_L_greatestRest_21 rfl ?_
      refine vq_getR (k := 7) (C := R_L) (T := T_L) d_L_greatestRest_22 rfl in_L w_192 (by decide) rfl (by decide) rfl rfl ?_
      refine vq_iload_n d_L_greatestRest_25 rfl ?_
      refine vq_lald d_L_greatestRest_26 (by decide) rfl rfl (show _ < 20 by omega) ?_
      refine vq_long (y := lN (R (zgr R i))) (hR _ (by omega)).1 ?_
      refine vq_lcmp d_L_greatestRest_27 ?_
      refine vq_if_le (tgt := 33) d_L_greatestRest_28 (by decide) (fun h28 => ?_) (fun h28 => ?_)
      · rw [lg_cmp_le, pk_lLE (hR i (by omega)).2 (hR _ (by omega)).2] at h28
        refine vq_pk [1, 0, 2] (lv' := [(1, _), (2, _), (0, _)]) rfl ?_
        exact s33 _ (by show _ = (if R (zgr R i) < R i then i else zgr R i); first | (rw [if_neg (by omega)]; done) | (rw [if_pos (by omega)]; done))
      · rw [lg_cmp_le, pk_lLE (hR i (by omega)).2 (hR _ (by omega)).2] at h28
        refine vq_iload_n d_L_greatestRest_31 rfl ?_
        refine vq_istore_n (lv' := [(1, _), (2, _), (0, _)]) d_L_greatestRest_32 (by decide) rfl ?_
        exact s33 _ (by show _ = (if R (zgr R i) < R i then i else zgr R i); first | (rw [if_neg (by omega)]; done) | (rw [if_pos (by omega)]; done))
  refine vq_iconst (v := 0) d_L_greatestRest_0 (by decide) ?_
  refine vq_istore_n (lv' := [(1, _), (0, _)]) d_L_greatestRest_1 (by decide) rfl ?_
  refine vq_iconst (v := 1) d_L_greatestRest_2 (by decide) ?_
  refine vq_istore_n (lv' := [(2, _), (1, _), (0, _)]) d_L_greatestRest_3 (by decide) rfl ?_
  have h9 := loop (zn F - 1) 1 rfl ⟨by omega, by omega⟩
  rw [show zgr R 1 = 0 from by show (if R 0 < R 0 then 0 else 0) = 0; split <;> rfl] at h9
  exact h9
theorem dueadd (j i x y : Nat) (h : j = i → x = y) : lN (if j < i then x else 0) + (if j = i then lN y else 0) = lN (if j < i + 1 then x else 0) := by
  by_cases e1 : j = i
  · rw [if_neg (by omega), if_pos e1, if_pos (by omega), h e1, show lN 0 = 0 from rfl, Int64.zero_add]
  · have h8 : j < i + 1 ↔ j < i := by omega
    simp only [h8, if_neg e1, Int64.add_zero]
theorem dueone {n : Nat} {S : Nat → Nat} {d r : Nat} (h : zgr (zrs n (fun p => S p % d) r) n < n) (j : Nat) : lN (if j < n then S j / d + zxt n (fun p => S p % d) r j else 0) + (if j = zgr (zrs n (fun p => S p % d) r) n then 1 else 0) = lN (if j < n then S j / d + zxt n (fun p => S p % d) (r + 1) j else 0) := by
  show _ = lN (if j < n then S j / d + (zxt n (fun p => S p % d) r j + (if j = zgr (zrs n (fun p => S p % d) r) n then 1 else 0)) else 0)
  by_cases e1 : j = zgr (zrs n (fun p => S p % d) r) n
  · rw [if_pos e1, if_pos e1, if_pos (by omega), if_pos (by omega), lN_1, Nat.add_assoc]
  · rw [if_neg e1, if_neg e1, Int64.add_zero, Nat.add_zero]
set_option maxRecDepth 100000 in
set_option maxHeartbeats 4000000 in
theorem ct_L_payDues (l : Launch) (b : Nat) (id : Nat → ClassId) (D : va_G) {g : Sg} {F : Fam} (hW : zW F) (hc : Hc g F) {e A d : Nat} {S : Nat → Nat} (he : e < zn F) (hden : g.2 34 4 = lN d) (hd0 : 0 < d) (hd63 : d < 2 ^ 63) (htot : g.2 63 e = lN A) (hS : ∀ p, p < zn F → g.2 35 p = lN (S p) ∧ S p < 2 ^ 63) (hsum : zsum S (zn F) = A * d) (hA : A < 2 ^ 62) : qCT l b id D m_L_payDues false [.ref (b + 41), .int (nI e)] 85 kT g 85 kT (fun v' g' => v' = none ∧ g'.1 = g.1 ∧ (∀ q, q ≠ 43 + e → q ≠ 64 → q ≠ 66 → g'.2 q = g.2 q) ∧ (∀ j, g'.2 (43 + e) j = g.2 (43 + e) j + lN (if j < zn F then zpy (zn F) S d A j else 0)) ∧ (∀ j, g'.2 64 j = g.2 64 j + lN (if j < zn F then zpy (zn F) S d A j else 0))) (fun _ _ => False) := by
  have hn := hW.1
  have he20 : e < 20 := by omega
  have hU := zun_le hd0 hsum
  refine qCT_of rfl (by decide) (Nat.le_of_ble_eq_true rfl) ?_
  show Vq l b id D m_L_payDues false 85 kT _ 85 kT _ 85 kT 0 0 0 [(0, .ref (b + 41)), (1, .int (nI e))] [] g
  have loop2 : ∀ (n9 : Nat) (r : Nat) (g1 : Sg), 20 - r = n9 → (r ≤ zun (zn F) S d A ∧ (g1.1 = g.1 ∧ (∀ q, q ≠ 43 + e → q ≠ 64 → q ≠ 66 → g1.2 q = g.2 q) ∧ (∀ j, g1.2 (43 + e) j = g.2 (43 + e) j + lN (if j < zn F then S j / d + zxt (zn F) (fun p => S p % d) r j else 0)) ∧ (∀ j, g1.2 64 j = g.2 64 j + lN (if j < zn F then S j / d + zxt (zn F) (fun p => S p % d) r j else 0))) ∧ (∀ p, p < zn F → g1.2 66 p = lN (zrs (zn F) (fun p => S p % d) r p))) → Vq l b id D m_L_payDues false 85 kT (fun v' g' => v' = none ∧ g'.1 = g.1 ∧ (∀ q, q ≠ 43 + e → q ≠ 64 → q ≠ 66 → g'.2 q = g.2 q) ∧ (∀ j, g'.2 (43 + e) j = g.2 (43 + e) j + lN (if j < zn F then zpy (zn F) S d A j else 0)) ∧ (∀ j, g'.2 64 j = g.2 64 j + lN (if j < zn F then zpy (zn F) S d A j else 0))) 85 kT (fun _ _ => False) 85 kT 0 0 96 [(6, .int (nI r)), (4, .long (lN (zun (zn F) S d A - r))), (2, .long (lN d)), (0, .ref (b + 41)), (1, .int (nI e))] [] g1 := by
    intro n9
    induction n9 using Nat.strongRecOn with
    | ind n9 ih =>
    intro r g1 hm hI
    have hru := hI.1
    have hc1 : Hc g1 F := hc.congr (fun q _ _ => by rw [hI.2.1.1])
    refine vq_iload d_L_payDues_96 rfl ?_
    refine vq_bipush (v := 20) d_L_payDues_98 (by decide) ?_
    refine vq_icmp_ge (tgt := 144) d_L_payDues_100 (by decide) (fun h100 => ?_) (fun h100 => ?_)
    · have hr : r = zun (zn F) S d A := by
        rw [show (20 : Int32) = nI 20 from rfl, nI_leI (by decide) (by omega)] at h100
        omega
      refine vq_vret d_L_payDues_144 rfl (by decide) (by decide) rfl rfl ?_
      rw [hr] at hI
      exact ⟨rfl, hI.2.1.1, hI.2.1.2.1, hI.2.1.2.2.1, hI.2.1.2.2.2⟩
    · have hr20 : r < 20 := by
        rw [show (20 : Int32) = nI 20 from rfl, nI_leI (by decide) (by omega)] at h100
        omega
      refine vq_lload d_L_payDues_103 rfl ?_
      refine vq_lconst (v := 0) d_L_payDues_105 rfl ?_
      refine vq_lcmp d_L_payDues_106 ?_
      refine vq_if_le (tgt := 144) d_L_payDues_107 (by decide) (fun h107 => ?_) (fun h107 => ?_)
      · rw [lpos (by omega)] at h107
        have hr : r = zun (zn F) S d A := by omega
        refine vq_vret d_L_payDues_144 rfl (by decide) (by decide) rfl rfl ?_
        rw [hr] at hI
        exact ⟨rfl, hI.2.1.1, hI.2.1.2.1, hI.2.1.2.2.1, hI.2.1.2.2.2⟩
      · rw [lpos (by omega)] at h107
        have hlt : r < zun (zn F) S d A := by omega
        have hgl := zgr_lt (zrs (zn F) (fun p => S p % d) r) (zn F) (by omega)
        refine vq_aload_n d_L_payDues_110 rfl ?_
        refine vq_callV (n := 0) (C := R_L) (T := T_L) _ _ d_L_payDues_111 (ct_L_greatestRest l b id D hW hc1 (by omega) (R := zrs (zn F) (fun p => S p % d) r) (fun p hp => ⟨hI.2.2 p hp, Nat.lt_of_le_of_lt (zrs_le _ _ r p) (Nat.lt_trans (Nat.mod_lt _ hd0) (by omega))⟩)) w_362 w_364 sel_L_greatestRest w_365 w_6 rfl ⟨by decide, by decide, by decide +kernel⟩ ⟨by decide, by decide⟩ (by decide) rfl rfl rfl rfl (Nat.le_of_ble_eq_true rfl) rfl rfl rfl ⟨by decide, by decide⟩ (fun _ _ h => h.elim) (fun v111 g111 h111 => ?_)
        rw [h111.1, h111.2]
        refine vq_istore (lv' := [(7, _), (6, _), (4, _), (2, _), (0, _), (1, _)]) d_L_payDues_114 (by decide) rfl ?_
        refine vq_aload_n d_L_payDues_116 rfl ?_
        refine vq_iload_n d_L_payDues_117 rfl ?_
        refine vq_iload d_L_payDues_118 rfl ?_
        refine vq_lconst (v := 1) d_L_payDues_120 rfl ?_
        refine vq_callV (n := 3) (C := R_L) (T := T_L) _ _ d_L_payDues_121 (ct_L_pay l b id D (e := e) (p := zgr (zrs (zn F) (fun p => S p % d) r) (zn F)) he20 (by omega) 1) w_286 w_288 sel_L_pay w_289 w_6 rfl ⟨by decide, by decide, by decide +kernel⟩ ⟨by decide, by decide⟩ (by decide) rfl rfl rfl rfl (Nat.le_of_ble_eq_true rfl) rfl rfl rfl ⟨by decide, by decide⟩ (fun _ _ h => h.elim) (fun v121 g121 h121 => ?_)
        obtain ⟨rfl, a1, a2, a3, a4⟩ := h121
        refine vq_aload_n d_L_payDues_124 rfl ?_
        refine vq_getR (k := 7) (C := R_L) (T := T_L) d_L_payDues_125 rfl in_L w_192 (by decide) rfl (by decide) rfl rfl ?_
        refine vq_iload d_L_payDues_128 rfl ?_
        refine vq_lconst (v := 0) d_L_payDues_130 rfl ?_
        refine vq_last d_L_payDues_131 rfl (by decide) rfl rfl (show _ < 20 by omega) ?_
        refine vq_lload d_L_payDues_132 rfl ?_
        refine vq_lconst (v := 1) d_L_payDues_134 rfl ?_
        refine vq_lsub d_L_payDues_135 ?_
        refine vq_long (show _ = lN (zun (zn F) S d A - (r + 1)) by rw [show (1 : Int64) = lN 1 from rfl, lN_sub (by omega)]; congr 1) ?_
        refine vq_lstore (lv' := [(4, _), (7, _), (6, _), (2, _), (0, _), (1, _)]) d_L_payDues_136 (by decide) rfl ?_
        refine vq_iinc (k := 2) (lv' := [(6, _), (4, _), (7, _), (2, _), (0, _), (1, _)]) d_L_payDues_138 rfl (ip1 r) (by decide) rfl ?_
        refine vq_goto (tgt := 96) d_L_payDues_141 (by decide) ?_
        refine vq_pk [0, 1, 3, 4, 5] (lv' := [(6, _), (4, _), (2, _), (0, _), (1, _)]) rfl ?_
        refine ih (20 - (r + 1)) (by omega) (r + 1) _ rfl ⟨by omega, ⟨a1.trans hI.2.1.1, fun q x y z9 => ?_, fun j => ?_, fun j => ?_⟩, fun p hp => ?_⟩
        · rw [sJ_n z9, a2 q x y]; exact hI.2.1.2.1 q x y z9
        · rw [sJ_n (show 43 + e ≠ 66 by omega), a3 j, hI.2.1.2.2.1 j, Int64.add_assoc]; congr 1; exact dueone hgl j
        · rw [sJ_n (by decide), a4 j, hI.2.1.2.2.2 j, Int64.add_assoc]; congr 1; exact dueone hgl j
        · rw [sJ_s, vp_updL, a2 66 (by omega) (by decide)]
          show _ = lN (if p = zgr (zrs (zn F) (fun p => S p % d) r) (zn F) then 0 else zrs (zn F) (fun p => S p % d) r p)
          by_cases e1 : p = zgr (zrs (zn F) (fun p => S p % d) r) (zn F)
          · rw [if_pos e1, if_pos e1]; rfl
          · rw [if_neg e1, if_neg e1]; exact hI.2.2 p hp
  have loop : ∀ (n9 : Nat) (i : Nat) (g1 : Sg), zn F - i = n9 → (i ≤ zn F ∧ (g1.1 = g.1 ∧ (∀ q, q ≠ 43 + e → q ≠ 64 → q ≠ 66 → g1.2 q = g.2 q) ∧ (∀ j, g1.2 (43 + e) j = g.2 (43 + e) j + lN (if j < i then S j / d else 0)) ∧ (∀ j, g1.2 64 j = g.2 64 j + lN (if j < i then S j / d else 0))) ∧ (∀ p, p < i → g1.2 66 p = lN (S p % d))) → Vq l b id D m_L_payDues false 85 kT (fun v' g' => v' = none ∧ g'.1 = g.1 ∧ (∀ q, q ≠ 43 + e → q ≠ 64 → q ≠ 66 → g'.2 q = g.2 q) ∧ (∀ j, g'.2 (43 + e) j = g.2 (43 + e) j + lN (if j < zn F then zpy (zn F) S d A j else 0)) ∧ (∀ j, g'.2 64 j = g.2 64 j + lN (if j < zn F then zpy (zn F) S d A j else 0))) 85 kT (fun _ _ => False) 85 kT 0 0 26 [(6, .int (nI i)), (4, .long (lN (A - zsum (fun p => S p / d) i))), (2, .long (lN d)), (0, .ref (b + 41)), (1, .int (nI e))] [] g1 := by
    intro n9
    induction n9 using Nat.strongRecOn with
    | ind n9 ih =>
    intro i g1 hm hI
    have hle := hI.1
    have hc1 : Hc g1 F := hc.congr (fun q _ _ => by rw [hI.2.1.1])
    have hS1 : ∀ p, p < zn F → g1.2 35 p = lN (S p) := fun p hp => by rw [hI.2.1.2.1 35 (by omega) (by decide) (by decide)]; exact (hS p hp).1
    refine vq_iload d_L_payDues_26 rfl ?_
    refine vq_aload_n d_L_payDues_28 rfl ?_
    refine vq_getR (k := 0) (C := R_L) (T := T_L) d_L_payDues_29 rfl in_L w_182 (by decide) rfl (by decide) rfl rfl ?_
    refine vq_getI (k := 0) (C := R_F) (T := T_F) d_L_payDues_32 rfl in_F w_33 (by decide) rfl (by decide) rfl ?_
    refine vq_int (y := nI (zn F)) hc1.1 ?_
    refine vq_icmp_ge (tgt := 93) d_L_payDues_35 (by decide) (fun h35 => ?_) (fun h35 => ?_)
    · have hi : i = zn F := by
        rw [nI_leI (by omega) (by omega)] at h35
        omega
      subst hi
      refine vq_iconst (v := 0) d_L_payDues_93 (by decide) ?_
      refine vq_istore (lv' := [(6, _), (4, _), (2, _), (0, _), (1, _)]) d_L_payDues_94 (by decide) rfl ?_
      exact loop2 20 0 _ rfl ⟨by omega, ⟨hI.2.1.1, hI.2.1.2.1, hI.2.1.2.2.1, hI.2.1.2.2.2⟩, hI.2.2⟩
    · have hi : i < zn F := by
        rw [nI_leI (by omega) (by omega)] at h35
        omega
      refine vq_aload_n d_L_payDues_38 rfl ?_
      refine vq_getR (k := 2) (C := R_L) (T := T_L) d_L_payDues_39 rfl in_L w_184 (by decide) rfl (by decide) rfl rfl ?_
      refine vq_getR (k := 3) (C := R_D) (T := T_D) d_L_payDues_42 rfl in_D w_154 (by decide) rfl (by decide) rfl rfl ?_
      refine vq_iload d_L_payDues_45 rfl ?_
      refine vq_lald d_L_payDues_47 (by decide) rfl rfl (show _ < 20 by omega) ?_
      refine vq_long (y := lN (S i)) (hS1 i hi) ?_
      refine vq_lload_n d_L_payDues_48 rfl ?_
      refine vq_ldiv d_L_payDues_49 (lN_ne0 hd0 (by omega)) ?_
      rw [pk_lDiv (hS i hi).2 hd0 (by omega)]
      refine vq_lstore (lv' := [(7, _), (6, _), (4, _), (2, _), (0, _), (1, _)]) d_L_payDues_50 (by decide) rfl ?_
      refine vq_aload_n d_L_payDues_52 rfl ?_
      refine vq_getR (k := 7) (C := R_L) (T := T_L) d_L_payDues_53 rfl in_L w_192 (by decide) rfl (by decide) rfl rfl ?_
      refine vq_iload d_L_payDues_56 rfl ?_
      refine vq_aload_n d_L_payDues_58 rfl ?_
      refine vq_getR (k := 2) (C := R_L) (T := T_L) d_L_payDues_59 rfl in_L w_184 (by decide) rfl (by decide) rfl rfl ?_
      refine vq_getR (k := 3) (C := R_D) (T := T_D) d_L_payDues_62 rfl in_D w_154 (by decide) rfl (by decide) rfl rfl ?_
      refine vq_iload d_L_payDues_65 rfl ?_
      refine vq_lald d_L_payDues_67 (by decide) rfl rfl (show _ < 20 by omega) ?_
      refine vq_long (y := lN (S i)) (hS1 i hi) ?_
      refine vq_lload_n d_L_payDues_68 rfl ?_
      refine vq_lrem d_L_payDues_69 (lN_ne0 hd0 (by omega)) ?_
      rw [pk_lRem (hS i hi).2 hd0 (by omega)]
      refine vq_last d_L_payDues_70 rfl (by decide) rfl rfl (show _ < 20 by omega) ?_
      refine vq_aload_n d_L_payDues_71 rfl ?_
      refine vq_iload_n d_L_payDues_72 rfl ?_
      refine vq_iload d_L_payDues_73 rfl ?_
      refine vq_lload d_L_payDues_75 rfl ?_
      refine vq_callV (n := 3) (C := R_L) (T := T_L) _ _ d_L_payDues_77 (ct_L_pay l b id D (e := e) (p := i) he20 (by omega) (lN (S i / d))) w_286 w_288 sel_L_pay w_289 w_6 rfl ⟨by decide, by decide, by decide +kernel⟩ ⟨by decide, by decide⟩ (by decide) rfl rfl rfl rfl (Nat.le_of_ble_eq_true rfl) rfl rfl rfl ⟨by decide, by decide⟩ (fun _ _ h => h.elim) (fun v77 g77 h77 => ?_)
      obtain ⟨rfl, a1, a2, a3, a4⟩ := h77
      refine vq_lload d_L_payDues_80 rfl ?_
      refine vq_lload d_L_payDues_82 rfl ?_
      refine vq_lsub d_L_payDues_84 ?_
      refine vq_long (show _ = lN (A - zsum (fun p => S p / d) (i + 1)) by rw [lN_sub (by have := zdiv_A hd0 hsum (k := i + 1) (by omega); have e9 : zsum (fun p => S p / d) (i + 1) = zsum (fun p => S p / d) i + S i / d := rfl; omega)]; congr 1; have e9 : zsum (fun p => S p / d) (i + 1) = zsum (fun p => S p / d) i + S i / d := rfl; omega) ?_
      refine vq_lstore (lv' := [(4, _), (7, _), (6, _), (2, _), (0, _), (1, _)]) d_L_payDues_85 (by decide) rfl ?_
      refine vq_iinc (k := 2) (lv' := [(6, _), (4, _), (7, _), (2, _), (0, _), (1, _)]) d_L_payDues_87 rfl (ip1 i) (by decide) rfl ?_
      refine vq_goto (tgt := 26) d_L_payDues_90 (by decide) ?_
      refine vq_pk [0, 1, 3, 4, 5] (lv' := [(6, _), (4, _), (2, _), (0, _), (1, _)]) rfl ?_
      refine ih (zn F - (i + 1)) (by omega) (i + 1) _ rfl ⟨by omega, ⟨a1.trans hI.2.1.1, fun q x y z9 => ?_, fun j => ?_, fun j => ?_⟩, fun p hp => ?_⟩
      · rw [a2 q x y, sJ_n z9]; exact hI.2.1.2.1 q x y z9
      · rw [a3 j, sJ_n (show 43 + e ≠ 66 by omega), hI.2.1.2.2.1 j, Int64.add_assoc]; congr 1; exact dueadd j i (S j / d) (S i / d) (fun h => by rw [h])
      · rw [a4 j, sJ_n (by decide), hI.2.1.2.2.2 j, Int64.add_assoc]; congr 1; exact dueadd j i (S j / d) (S i / d) (fun h => by rw [h])
      · rw [a2 66 (by omega) (by decide), sJ_s, vp_updL]
        by_cases e1 : p = i
        · rw [if_pos e1, e1]
        · rw [if_neg e1]; exact hI.2.2 p (by omega)
  refine vq_aload_n d_L_payDues_0 rfl ?_
  refine vq_getR (k := 2) (C := R_L) (T := T_L) d_L_payDues_1 rfl in_L w_184 (by decide) rfl (by decide) rfl rfl ?_
  refine vq_getJ (k := 4) (C := R_D) (T := T_D) d_L_payDues_4 rfl in_D w_156 (by decide) rfl (by decide) rfl ?_
  refine vq_long (y := lN d) hden ?_
  refine vq_lstore_n (lv' := [(2, _), (0, _), (1, _)]) d_L_payDues_7 (by decide) rfl ?_
  refine vq_lload_n d_L_payDues_8 rfl ?_
  refine vq_lconst (v := 0) d_L_payDues_9 rfl ?_
  refine vq_lcmp d_L_payDues_10 ?_
  refine vq_if_gt (tgt := 15) d_L_payDues_11 (by decide) (fun h11 => ?_) (fun h11 => absurd h11 (fun h => h ((lposg (by omega)).mpr hd0)))
  refine vq_aload_n d_L_payDues_15 rfl ?_
  refine vq_getR (k := 4) (C := R_L) (T := T_L) d_L_payDues_16 rfl in_L w_187 (by decide) rfl (by decide) rfl rfl ?_
  refine vq_iload_n d_L_payDues_19 rfl ?_
  refine vq_lald d_L_payDues_20 (by decide) rfl rfl (show _ < 20 by omega) ?_
  refine vq_long (y := lN A) htot ?_
  refine vq_lstore (lv' := [(4, _), (2, _), (0, _), (1, _)]) d_L_payDues_21 (by decide) rfl ?_
  refine vq_iconst (v := 0) d_L_payDues_23 (by decide) ?_
  refine vq_istore (lv' := [(6, _), (4, _), (2, _), (0, _), (1, _)]) d_L_payDues_24 (by decide) rfl ?_
  exact loop (zn F) 0 _ rfl ⟨by omega, ⟨rfl, fun q x y z9 => rfl, fun j => by simp [show lN 0 = 0 from rfl], fun j => by simp [show lN 0 = 0 from rfl]⟩, fun p hp => absurd hp (Nat.not_lt_zero p)⟩
