/-! one estate settled, by the reference. Laid by wip/whole/specs/p50.py -/
theorem zgr_max (R : Nat → Nat) : ∀ n q, q < n → R q ≤ R (zgr R n)
  | 0, q, h => absurd h (Nat.not_lt_zero q)
  | k + 1, q, h => by
    show R q ≤ R (if R (zgr R k) < R k then k else zgr R k)
    by_cases e : q = k
    · subst e; split <;> omega
    · have := zgr_max R k q (by omega)
      split <;> omega
theorem zrs_sum {n d : Nat} {R : Nat → Nat} (hn : 0 < n) (hR : ∀ q, R q ≤ d) : ∀ r, zsum R n ≤ zsum (zrs n R r) n + r * d
  | 0 => by show zsum R n ≤ zsum R n + 0 * d; omega
  | r + 1 => by
    have h1 := zrs_sum hn hR r
    have h2 := zsum_at (f := zrs n R (r + 1)) (f' := zrs n R r) (zgr_lt (zrs n R r) n hn) (fun q hq => by show (if q = zgr (zrs n R r) n then 0 else zrs n R r q) = _; rw [if_neg hq])
    have h3 : zrs n R (r + 1) (zgr (zrs n R r) n) = 0 := by show (if zgr (zrs n R r) n = zgr (zrs n R r) n then 0 else _) = 0; rw [if_pos rfl]
    have h4 := zrs_le n R r (zgr (zrs n R r) n)
    have h5 := hR (zgr (zrs n R r) n)
    rw [h3] at h2
    rw [Nat.add_mul]
    omega
/-- while cents are left, some rest is above nothing -/
theorem zrs_pos {n d A r : Nat} {S : Nat → Nat} (hn : 0 < n) (hd : 0 < d) (h : zsum S n = A * d) (hr : r < zun n S d A) : 0 < zrs n (fun p => S p % d) r (zgr (zrs n (fun p => S p % d) r) n) := by
  have h1 := zrs_sum (n := n) (d := d) (R := fun p => S p % d) hn (fun q => Nat.le_of_lt (Nat.mod_lt _ hd)) r
  have h2 := zmod_sum (S := S) (d := d) n
  have h3 := zdiv_A hd h (Nat.le_refl n)
  have h4 : zsum (fun p => S p % d) n = zun n S d A * d := by
    unfold zun
    rw [Nat.sub_mul, Nat.mul_comm (zsum (fun p => S p / d) n) d]
    omega
  have h5 : (r + 1) * d ≤ zun n S d A * d := Nat.mul_le_mul_right d hr
  rw [Nat.add_mul] at h5
  obtain ⟨p, hp, hp2⟩ := zsum_ne (f := zrs n (fun p => S p % d) r) (n := n) (by omega)
  have := zgr_max (zrs n (fun p => S p % d) r) n p hp
  omega
/-- a rest in the reference: taken ones are marked -/
def Vr (V : Int64) (z : Nat) : Prop := V = lN z ∨ (z = 0 ∧ V = -1)
theorem Vr_t {V : Int64} {z : Nat} (h : Vr V z) (hz : z < 2 ^ 62) : V.toInt = z ∨ (z = 0 ∧ V.toInt = -1) := by
  rcases h with h | ⟨h1, h2⟩
  · rw [h]; exact Or.inl (pk_lT (by omega))
  · rw [h2]; exact Or.inr ⟨h1, by decide⟩
theorem scan {Z : Nat → Nat} {V : Nat → Int64} {n k best : Nat} (hZ : ∀ q, Z q < 2 ^ 62) (hV : ∀ q, q < n → Vr (V q) (Z q)) (hk : k < n) (hb : best < n) (I : best = zgr Z k ∨ (Z (zgr Z k) = 0 ∧ Z best = 0)) :
    (V k ≤ V best → (best = zgr Z (k + 1) ∨ (Z (zgr Z (k + 1)) = 0 ∧ Z best = 0))) ∧ (¬ V k ≤ V best → (k = zgr Z (k + 1) ∨ (Z (zgr Z (k + 1)) = 0 ∧ Z k = 0))) := by
  have h1 := Vr_t (hV k hk) (hZ k)
  have h2 := Vr_t (hV best hb) (hZ best)
  have h3 : zgr Z (k + 1) = if Z (zgr Z k) < Z k then k else zgr Z k := rfl
  rw [Int64.le_iff_toInt_le, h3]
  by_cases hc : Z (zgr Z k) < Z k
  · rw [if_pos hc]
    refine ⟨fun h => ?_, fun _ => Or.inl rfl⟩
    exfalso
    rcases I with rfl | ⟨i1, i2⟩
    · omega
    · omega
  · rw [if_neg hc]
    refine ⟨fun _ => I, fun h => Or.inr ?_⟩
    rcases I with I | ⟨i1, i2⟩
    · rw [I] at h2 h; omega
    · omega
def FrT (g g1 : Sg) : Prop := (∀ q, q ≠ 67 → q ≠ 75 → q ≠ 76 → q ≠ 77 → q ≠ 80 → g1.1 q = g.1 q) ∧ (∀ k, k < 9 → g1.1 67 k = g.1 67 k) ∧ (∀ q, q ≠ 67 → q ≠ 78 → q ≠ 79 → q ≠ 81 → q ≠ 83 → g1.2 q = g.2 q)
theorem FrT.hm {g g1 : Sg} {F : Fam} (h : FrT g g1) (hm : Hm g F) : Hm g1 F := hm.congr (h.2.1 1 (by decide)) (fun q h1 h2 => h.1 q (by omega) (by omega) (by omega) (by omega) (by omega))
theorem FrG.t {g g1 : Sg} (h : FrG g g1) : FrT g g1 := ⟨h.1, h.2.1, fun q a c d _ _ => h.2.2 q a c d⟩
theorem FrT.go {g g1 g2 : Sg} (h : FrT g g1) (h1 : g2.1 = g1.1) (h2 : ∀ q, q ≠ 67 → q ≠ 78 → q ≠ 79 → q ≠ 81 → q ≠ 83 → g2.2 q = g1.2 q) : FrT g g2 :=
  ⟨fun q a c d e f => by rw [h1]; exact h.1 q a c d e f, fun k hk => by rw [h1]; exact h.2.1 k hk, fun q a c d e f => (h2 q a c d e f).trans (h.2.2 q a c d e f)⟩
/-- so much was paid out of the estate e since g -/
def PX (g g1 : Sg) (e : Nat) (X : Nat → Nat) : Prop := (∀ j, j < 21 → g1.2 81 (21 * e + j) = g.2 81 (21 * e + j) + lN (X j)) ∧ (∀ i j, i ≠ e → j < 21 → g1.2 81 (21 * i + j) = g.2 81 (21 * i + j)) ∧ (∀ j, j < 21 → g1.2 83 j = g.2 83 j + lN (X j))
theorem PX.congr {g g1 g2 : Sg} {e : Nat} {X : Nat → Nat} (h : PX g g1 e X) (h1 : g2.2 81 = g1.2 81) (h2 : g2.2 83 = g1.2 83) : PX g g2 e X :=
  ⟨fun j hj => by rw [h1]; exact h.1 j hj, fun i j a c => by rw [h1]; exact h.2.1 i j a c, fun j hj => by rw [h2]; exact h.2.2 j hj⟩
theorem PX.pay {g g1 : Sg} {e p : Nat} {X : Nat → Nat} (h : PX g g1 e X) (hp : p < 21) (y : Nat) : PX g (sJ (sJ g1 81 (vp_updL (g1.2 81) (21 * e + p) (g1.2 81 (21 * e + p) + lN y))) 83 (vp_updL (g1.2 83) p (g1.2 83 p + lN y))) e (fun j => X j + (if j = p then y else 0)) := by
  refine ⟨fun j hj => ?_, fun i j hi hj => ?_, fun j hj => ?_⟩
  · rw [sJ_n (by decide), sJ_s, vadd, h.1 j hj, Int64.add_assoc]
    congr 1
    show _ = lN (X j + if j = p then y else 0)
    by_cases e1 : j = p
    · rw [if_pos (by omega), lN_add, if_pos e1]
    · rw [if_neg (by omega), if_neg e1, Int64.add_zero, Nat.add_zero]
  · rw [sJ_n (by decide), sJ_s, vp_updL, if_neg (by omega)]
    exact h.2.1 i j hi hj
  · rw [sJ_s, vadd, h.2.2 j hj, Int64.add_assoc]
    congr 1
    show _ = lN (X j + if j = p then y else 0)
    by_cases e1 : j = p
    · rw [if_pos e1, lN_add, if_pos e1]
    · rw [if_neg e1, if_neg e1, Int64.add_zero, Nat.add_zero]
theorem PX.to {g g1 : Sg} {e : Nat} {X Y : Nat → Nat} (h : PX g g1 e X) (hXY : ∀ j, j < 21 → X j = Y j) : PX g g1 e Y :=
  ⟨fun j hj => by rw [← hXY j hj]; exact h.1 j hj, h.2.1, fun j hj => by rw [← hXY j hj]; exact h.2.2 j hj⟩
theorem lgt0 {a : Nat} (ha : a < 2 ^ 63) : (lg_cmp (lN a) 0 ≤ 0) ↔ a = 0 := lpos ha
set_option maxRecDepth 100000 in
set_option maxHeartbeats 4000000 in
theorem ct_M_settleOne (l : Launch) (b : Nat) (id : Nat → ClassId) (D : va_G) {g : Sg} {F : Fam} (hW : zW F) (hm : Hm g F) {e u : Nat} (he : e < zn F) (hu : zd F e = some u) {A : Nat} (hA : A < 2 ^ 26) (hA0 : g.2 82 e = lN A) : qCT l b id D m_M_settleOne false [.ref (b + 67), .int (nI e)] 85 kT g 85 kT (fun v' g' => v' = none ∧ PX g g' e (zdue F e A) ∧ FrT g g') (fun _ _ => False) := by
  have hn := hW.1
  refine qCT_of rfl (by decide) (Nat.le_of_ble_eq_true rfl) ?_
  show Vq l b id D m_M_settleOne false 85 kT _ 85 kT _ 85 kT 0 0 0 [(0, .ref (b + 67)), (1, .int (nI e))] [] g
  refine vq_aload_n d_M_settleOne_0 rfl ?_
  refine vq_getR (k := 21) (C := R_M) (T := T_M) d_M_settleOne_1 rfl in_M w_676 (by decide) rfl (by decide) rfl rfl ?_
  refine vq_iload_n d_M_settleOne_4 rfl ?_
  refine vq_lald d_M_settleOne_5 (by decide) rfl rfl (show _ < 20 by omega) ?_
  refine vq_long (y := lN A) hA0 ?_
  refine vq_lstore_n (lv' := [(2, _), (0, _), (1, _)]) d_M_settleOne_6 (by decide) rfl ?_
  refine vq_aload_n d_M_settleOne_7 rfl ?_
  refine vq_iload_n d_M_settleOne_8 rfl ?_
  refine vq_lload_n d_M_settleOne_9 rfl ?_
  refine vq_callV (n := 2) (C := R_M) (T := T_M) _ _ d_M_settleOne_10 (ct_M_due l b id D hW hm he hu hA) w_841 w_843 sel_M_due w_844 w_7 rfl ⟨by decide, by decide, by decide +kernel⟩ ⟨by decide, by decide⟩ (by decide) rfl rfl rfl rfl (Nat.le_of_ble_eq_true rfl) rfl rfl rfl ⟨by decide, by decide⟩ (fun _ _ h => h.elim) (fun v10 g10 h10 => ?_)
  obtain ⟨e110, a1, a2, a3, a4⟩ := h10
  rw [e110]
  have ht5 := zt_le F e
  obtain ⟨d, hd⟩ : ∃ d, d = zdn F e A := ⟨_, rfl⟩
  obtain ⟨S, hS⟩ : ∃ S, S = zS F e A := ⟨_, rfl⟩
  rw [← hd] at a2
  rw [← hS] at a3
  have hd0 : 0 < d := by rw [hd]; exact zdn_pos he
  have hd28 : d < 2 ^ 28 := by rw [hd]; exact zdn_lt hW
  refine vq_aload_n d_M_settleOne_13 rfl ?_
  refine vq_getI (k := 17) (C := R_M) (T := T_M) d_M_settleOne_14 rfl in_M w_672 (by decide) rfl (by decide) rfl ?_
  refine vq_int (y := nI (zt F e)) a1.2.2.1 ?_
  refine vq_iconst (v := 5) d_M_settleOne_17 (by decide) ?_
  refine vq_icmp_ne (tgt := 30) d_M_settleOne_18 (by decide) (fun h18 => ?_) (fun h18 => ?_)
  · rw [show (5 : Int32) = nI 5 from rfl, nI_eq (by omega) (by decide)] at h18
    have ht4 : zt F e ≤ 4 := by omega
    have hsum : zsum S (zn F) = A * d := by rw [hS, hd]; exact zS_sum hW he ht4
    have hS63 : ∀ p, p < zn F → S p < 2 ^ 63 := fun p hp => by rw [hS]; exact zS_lt hW he ht4 hA hp
    have hn0 : 0 < zn F := by omega
    have hdue : ∀ j, j < 21 → zdue F e A j = (if j < zn F then zpy (zn F) S d A j else 0) := fun j _ => by unfold zdue; rw [if_neg h18, hS, hd]
    have hun := zun_le hd0 hsum
    have hU : zun (zn F) S d A = A - zsum (fun q => S q / d) (zn F) := rfl
    have loopW : ∀ (n9 : Nat) (r : Nat) (g1 : Sg), zun (zn F) S d A - r = n9 → (r ≤ zun (zn F) S d A ∧ (LM g1 F e ∧ g1.2 67 16 = lN d ∧ FrT g g1) ∧ PX g g1 e (fun j => (if j < zn F then S j / d else 0) + (if j < zn F then zxt (zn F) (fun p => S p % d) r j else 0)) ∧ (∀ q, q < zn F → Vr (g1.2 79 q) (zrs (zn F) (fun p => S p % d) r q))) → Vq l b id D m_M_settleOne false 85 kT (fun v' g' => v' = none ∧ PX g g' e (zdue F e A) ∧ FrT g g') 85 kT (fun _ _ => False) 85 kT 0 0 106 [(4, .long (lN (zun (zn F) S d A - r))), (0, .ref (b + 67)), (1, .int (nI e)), (2, .long (lN A))] [] g1 := by
      intro n9
      induction n9 using Nat.strongRecOn with
      | ind n9 ih =>
      intro r g1 hm9 hI
      have hr0 := hI.1
      have hm1 : Hm g1 F := hI.2.1.2.2.hm hm
      refine vq_lload d_M_settleOne_106 rfl ?_
      refine vq_lconst (v := 0) d_M_settleOne_108 rfl ?_
      refine vq_lcmp d_M_settleOne_109 ?_
      refine vq_if_le (tgt := 188) d_M_settleOne_110 (by decide) (fun h110 => ?_) (fun h110 => ?_)
      · rw [lpos (by omega)] at h110
        have hr : r = zun (zn F) S d A := by omega
        subst hr
        refine vq_vret d_M_settleOne_188 rfl (by decide) (by decide) rfl rfl ?_
        refine ⟨rfl, hI.2.2.1.to (fun j hj => ?_), hI.2.1.2.2⟩
        rw [hdue j hj]
        show (if j < zn F then S j / d else 0) + (if j < zn F then zxt (zn F) (fun p => S p % d) (zun (zn F) S d A) j else 0) = _
        by_cases e1 : j < zn F
        · rw [if_pos e1, if_pos e1, if_pos e1]; rfl
        · rw [if_neg e1, if_neg e1, if_neg e1]
      · rw [lpos (by omega)] at h110
        have hr : r < zun (zn F) S d A := by omega
        obtain ⟨Z, hZd⟩ : ∃ Z, Z = zrs (zn F) (fun p => S p % d) r := ⟨_, rfl⟩
        have hZ : ∀ q, Z q < 2 ^ 62 := fun q => by rw [hZd]; have h1 := zrs_le (zn F) (fun p => S p % d) r q; have h2 := Nat.mod_lt (S q) hd0; have h3 : (fun p => S p % d) q = S q % d := rfl; omega
        have hpos := zrs_pos hn0 hd0 hsum hr
        rw [← hZd] at hpos
        have hV := hI.2.2.2
        rw [← hZd] at hV
        have loopS : ∀ (n8 : Nat) (c best : Nat), zn F - c = n8 → (1 ≤ c ∧ c ≤ zn F ∧ best < zn F ∧ (best = zgr Z c ∨ (Z (zgr Z c) = 0 ∧ Z best = 0))) → Vq l b id D m_M_settleOne false 85 kT (fun v' g' => v' = none ∧ PX g g' e (zdue F e A) ∧ FrT g g') 85 kT (fun _ _ => False) 85 kT 0 0 119 [(7, .int (nI c)), (6, .int (nI best)), (4, .long (lN (zun (zn F) S d A - r))), (0, .ref (b + 67)), (1, .int (nI e)), (2, .long (lN A))] [] g1 := by
          intro n8
          induction n8 using Nat.strongRecOn with
          | ind n8 ih8 =>
          intro c best hm8 hC
          have hc1 := hC.1
          have hc2 := hC.2.1
          have hb := hC.2.2.1
          refine vq_iload d_M_settleOne_119 rfl ?_
          refine vq_aload_n d_M_settleOne_121 rfl ?_
          refine vq_getI (k := 1) (C := R_M) (T := T_M) d_M_settleOne_122 rfl in_M w_656 (by decide) rfl (by decide) rfl ?_
          refine vq_int (y := nI (zn F)) hm1.1 ?_
          refine vq_icmp_ge (tgt := 161) d_M_settleOne_125 (by decide) (fun h125 => ?_) (fun h125 => ?_)
          · have hcn : c = zn F := by
              rw [nI_leI (by omega) (by omega)] at h125
              omega
            subst hcn
            have hbz : best = zgr Z (zn F) := by
              rcases hC.2.2.2 with h9 | ⟨h9, -⟩
              · exact h9
              · omega
            refine vq_aload_n d_M_settleOne_161 rfl ?_
            refine vq_getR (k := 14) (C := R_M) (T := T_M) d_M_settleOne_162 rfl in_M w_669 (by decide) rfl (by decide) rfl rfl ?_
            refine vq_iload d_M_settleOne_165 rfl ?_
            refine vq_ldc2 d_M_settleOne_167 w_858 ?_
            refine vq_last d_M_settleOne_170 rfl (by decide) rfl rfl (show _ < 20 by omega) ?_
            refine vq_aload_n d_M_settleOne_171 rfl ?_
            refine vq_iload_n d_M_settleOne_172 rfl ?_
            refine vq_iload d_M_settleOne_173 rfl ?_
            refine vq_lconst (v := 1) d_M_settleOne_175 rfl ?_
            refine vq_callV (n := 3) (C := R_M) (T := T_M) _ _ d_M_settleOne_176 (ct_M_pay l b id D (e := e) (p := best) (by omega) (by omega) 1) w_854 w_856 sel_M_pay w_857 w_7 rfl ⟨by decide, by decide, by decide +kernel⟩ ⟨by decide, by decide⟩ (by decide) rfl rfl rfl rfl (Nat.le_of_ble_eq_true rfl) rfl rfl rfl ⟨by decide, by decide⟩ (fun _ _ h => h.elim) (fun v176 g176 h176 => ?_)
            rw [h176.1, h176.2]
            refine vq_lload d_M_settleOne_179 rfl ?_
            refine vq_lconst (v := 1) d_M_settleOne_181 rfl ?_
            refine vq_lsub d_M_settleOne_182 ?_
            rw [show (1 : Int64) = lN 1 from rfl, lN_sub (by omega)]
            refine vq_lstore (lv' := [(4, _), (7, _), (6, _), (0, _), (1, _), (2, _)]) d_M_settleOne_183 (by decide) rfl ?_
            refine vq_goto (tgt := 106) d_M_settleOne_185 (by decide) ?_
            refine vq_pk [0, 3, 4, 5] (lv' := [(4, _), (0, _), (1, _), (2, _)]) rfl ?_
            have hxt : ∀ j, zxt (zn F) (fun p => S p % d) (r + 1) j = zxt (zn F) (fun p => S p % d) r j + (if j = best then 1 else 0) := fun j => by
              show zxt (zn F) (fun p => S p % d) r j + (if j = zgr (zrs (zn F) (fun p => S p % d) r) (zn F) then 1 else 0) = _
              rw [← hZd, ← hbz]
            have hzr : ∀ q, zrs (zn F) (fun p => S p % d) (r + 1) q = if q = best then 0 else Z q := fun q => by
              show (if q = zgr (zrs (zn F) (fun p => S p % d) r) (zn F) then 0 else zrs (zn F) (fun p => S p % d) r q) = _
              rw [← hZd, ← hbz]
            rw [show zun (zn F) S d A - r - 1 = zun (zn F) S d A - (r + 1) by omega]
            refine ih (zun (zn F) S d A - (r + 1)) (by omega) (r + 1) _ rfl ⟨by omega, ⟨hI.2.1.1.go rfl (by rw [sJ_n (by decide), sJ_n (by decide), sJ_n (by decide)]), by rw [sJ_n (by decide), sJ_n (by decide), sJ_n (by decide)]; exact hI.2.1.2.1, hI.2.1.2.2.go rfl (fun q h1 h2 h3 h4 h5 => by rw [sJ_n h5, sJ_n h4, sJ_n h3])⟩, ?_, fun q hq => ?_⟩
            · have h8 : PX g (sJ g1 79 (vp_updL (g1.2 79) best (-1))) e (fun j => (if j < zn F then S j / d else 0) + (if j < zn F then zxt (zn F) (fun p => S p % d) r j else 0)) := hI.2.2.1.congr (by rw [sJ_n (by decide)]) (by rw [sJ_n (by decide)])
              refine (h8.pay (p := best) (by omega) 1).to (fun j hj => ?_)
              show (if j < zn F then S j / d else 0) + (if j < zn F then zxt (zn F) (fun p => S p % d) r j else 0) + (if j = best then 1 else 0) = (if j < zn F then S j / d else 0) + (if j < zn F then zxt (zn F) (fun p => S p % d) (r + 1) j else 0)
              rw [hxt j]
              by_cases e1 : j < zn F
              · rw [if_pos e1, if_pos e1, if_pos e1, Nat.add_assoc]
              · rw [if_neg e1, if_neg e1, if_neg e1, if_neg (by omega)]
            · rw [sJ_n (by decide), sJ_n (by decide), sJ_s, vp_updL, hzr q]
              by_cases e1 : q = best
              · rw [if_pos e1, if_pos e1]; exact Or.inr ⟨rfl, rfl⟩
              · rw [if_neg e1, if_neg e1]; exact hV q hq
          · have hcn : c < zn F := by
              rw [nI_leI (by omega) (by omega)] at h125
              omega
            have hsc := scan hZ hV hcn hb hC.2.2.2
            refine vq_aload_n d_M_settleOne_128 rfl ?_
            refine vq_getR (k := 14) (C := R_M) (T := T_M) d_M_settleOne_129 rfl in_M w_669 (by decide) rfl (by decide) rfl rfl ?_
            refine vq_iload d_M_settleOne_132 rfl ?_
            refine vq_lald d_M_settleOne_134 (by decide) rfl rfl (show _ < 20 by omega) ?_
            refine vq_aload_n d_M_settleOne_135 rfl ?_
            refine vq_getR (k := 14) (C := R_M) (T := T_M) d_M_settleOne_136 rfl in_M w_669 (by decide) rfl (by decide) rfl rfl ?_
            refine vq_iload d_M_settleOne_139 rfl ?_
            refine vq_lald d_M_settleOne_141 (by decide) rfl rfl (show _ < 20 by omega) ?_
            refine vq_lcmp d_M_settleOne_142 ?_
            refine vq_if_le (tgt := 151) d_M_settleOne_143 (by decide) (fun h143 => ?_) (fun h143 => ?_)
            · rw [lg_cmp_le] at h143
              refine vq_iload d_M_settleOne_151 rfl ?_
              refine vq_istore (lv' := [(6, _), (7, _), (4, _), (0, _), (1, _), (2, _)]) d_M_settleOne_153 (by decide) rfl ?_
              refine vq_iinc (k := 1) (lv' := [(7, _), (6, _), (4, _), (0, _), (1, _), (2, _)]) d_M_settleOne_155 rfl (ip1 c) (by decide) rfl ?_
              refine vq_goto (tgt := 119) d_M_settleOne_158 (by decide) ?_
              exact ih8 (zn F - (c + 1)) (by omega) (c + 1) best rfl ⟨by omega, by omega, by omega, hsc.1 h143⟩
            · rw [lg_cmp_le] at h143
              refine vq_iload d_M_settleOne_146 rfl ?_
              refine vq_goto (tgt := 153) d_M_settleOne_148 (by decide) ?_
              refine vq_istore (lv' := [(6, _), (7, _), (4, _), (0, _), (1, _), (2, _)]) d_M_settleOne_153 (by decide) rfl ?_
              refine vq_iinc (k := 1) (lv' := [(7, _), (6, _), (4, _), (0, _), (1, _), (2, _)]) d_M_settleOne_155 rfl (ip1 c) (by decide) rfl ?_
              refine vq_goto (tgt := 119) d_M_settleOne_158 (by decide) ?_
              exact ih8 (zn F - (c + 1)) (by omega) (c + 1) c rfl ⟨by omega, by omega, by omega, hsc.2 h143⟩
        refine vq_iconst (v := 0) d_M_settleOne_113 (by decide) ?_
        refine vq_istore (lv' := [(6, _), (4, _), (0, _), (1, _), (2, _)]) d_M_settleOne_114 (by decide) rfl ?_
        refine vq_iconst (v := 1) d_M_settleOne_116 (by decide) ?_
        refine vq_istore (lv' := [(7, _), (6, _), (4, _), (0, _), (1, _), (2, _)]) d_M_settleOne_117 (by decide) rfl ?_
        exact loopS (zn F - 1) 1 0 rfl ⟨Nat.le_refl _, hn0, hn0, Or.inl (by show 0 = (if Z 0 < Z 0 then 0 else 0); split <;> rfl)⟩
    have loopP : ∀ (n9 : Nat) (p : Nat) (g1 : Sg), zn F - p = n9 → (p ≤ zn F ∧ (LM g1 F e ∧ g1.2 67 16 = lN d ∧ FrT g g1) ∧ PX g g1 e (fun j => if j < p then S j / d else 0) ∧ (∀ q, p ≤ q → q < zn F → g1.2 79 q = lN (S q)) ∧ (∀ q, q < p → g1.2 79 q = lN (S q % d))) → Vq l b id D m_M_settleOne false 85 kT (fun v' g' => v' = none ∧ PX g g' e (zdue F e A) ∧ FrT g g') 85 kT (fun _ _ => False) 85 kT 0 0 36 [(6, .int (nI p)), (4, .long (lN (A - zsum (fun q => S q / d) p))), (0, .ref (b + 67)), (1, .int (nI e)), (2, .long (lN A))] [] g1 := by
      intro n9
      induction n9 using Nat.strongRecOn with
      | ind n9 ih =>
      intro p g1 hm9 hI
      have hp0 := hI.1
      have hm1 : Hm g1 F := hI.2.1.2.2.hm hm
      refine vq_iload d_M_settleOne_36 rfl ?_
      refine vq_aload_n d_M_settleOne_38 rfl ?_
      refine vq_getI (k := 1) (C := R_M) (T := T_M) d_M_settleOne_39 rfl in_M w_656 (by decide) rfl (by decide) rfl ?_
      refine vq_int (y := nI (zn F)) hm1.1 ?_
      refine vq_icmp_ge (tgt := 106) d_M_settleOne_42 (by decide) (fun h42 => ?_) (fun h42 => ?_)
      · have hp : p = zn F := by
          rw [nI_leI (by omega) (by omega)] at h42
          omega
        subst hp
        refine vq_pk [1, 2, 3, 4] (lv' := [(4, _), (0, _), (1, _), (2, _)]) rfl ?_
        refine loopW (zun (zn F) S d A) 0 _ rfl ⟨by omega, hI.2.1, hI.2.2.1.to (fun j hj => ?_), fun q hq => Or.inl (hI.2.2.2.2 q hq)⟩
        show (if j < zn F then S j / d else 0) = (if j < zn F then S j / d else 0) + (if j < zn F then 0 else 0)
        split <;> rfl
      · have hp : p < zn F := by
          rw [nI_leI (by omega) (by omega)] at h42
          omega
        refine vq_lload d_M_settleOne_45 rfl ?_
        refine vq_aload_n d_M_settleOne_47 rfl ?_
        refine vq_getR (k := 14) (C := R_M) (T := T_M) d_M_settleOne_48 rfl in_M w_669 (by decide) rfl (by decide) rfl rfl ?_
        refine vq_iload d_M_settleOne_51 rfl ?_
        refine vq_lald d_M_settleOne_53 (by decide) rfl rfl (show _ < 20 by omega) ?_
        refine vq_long (y := lN (S p)) (hI.2.2.2.1 p (Nat.le_refl p) hp) ?_
        refine vq_aload_n d_M_settleOne_54 rfl ?_
        refine vq_getJ (k := 16) (C := R_M) (T := T_M) d_M_settleOne_55 rfl in_M w_671 (by decide) rfl (by decide) rfl ?_
        refine vq_long (y := lN d) hI.2.1.2.1 ?_
        refine vq_ldiv d_M_settleOne_58 (lN_ne0 hd0 (by omega)) ?_
        rw [pk_lDiv (hS63 p hp) hd0 (by omega)]
        refine vq_lsub d_M_settleOne_59 ?_
        rw [lN_sub (by have := zdiv_A hd0 hsum (show p + 1 ≤ zn F from hp); have h9 : zsum (fun q => S q / d) (p + 1) = zsum (fun q => S q / d) p + S p / d := rfl; omega)]
        refine vq_lstore (lv' := [(4, _), (6, _), (0, _), (1, _), (2, _)]) d_M_settleOne_60 (by decide) rfl ?_
        refine vq_aload_n d_M_settleOne_62 rfl ?_
        refine vq_iload_n d_M_settleOne_63 rfl ?_
        refine vq_iload d_M_settleOne_64 rfl ?_
        refine vq_aload_n d_M_settleOne_66 rfl ?_
        refine vq_getR (k := 14) (C := R_M) (T := T_M) d_M_settleOne_67 rfl in_M w_669 (by decide) rfl (by decide) rfl rfl ?_
        refine vq_iload d_M_settleOne_70 rfl ?_
        refine vq_lald d_M_settleOne_72 (by decide) rfl rfl (show _ < 20 by omega) ?_
        refine vq_long (y := lN (S p)) (hI.2.2.2.1 p (Nat.le_refl p) hp) ?_
        refine vq_aload_n d_M_settleOne_73 rfl ?_
        refine vq_getJ (k := 16) (C := R_M) (T := T_M) d_M_settleOne_74 rfl in_M w_671 (by decide) rfl (by decide) rfl ?_
        refine vq_long (y := lN d) hI.2.1.2.1 ?_
        refine vq_ldiv d_M_settleOne_77 (lN_ne0 hd0 (by omega)) ?_
        rw [pk_lDiv (hS63 p hp) hd0 (by omega)]
        refine vq_callV (n := 3) (C := R_M) (T := T_M) _ _ d_M_settleOne_78 (ct_M_pay l b id D (e := e) (p := p) (by omega) (by omega) (lN (S p / d))) w_854 w_856 sel_M_pay w_857 w_7 rfl ⟨by decide, by decide, by decide +kernel⟩ ⟨by decide, by decide⟩ (by decide) rfl rfl rfl rfl (Nat.le_of_ble_eq_true rfl) rfl rfl rfl ⟨by decide, by decide⟩ (fun _ _ h => h.elim) (fun v78 g78 h78 => ?_)
        rw [h78.1, h78.2]
        refine vq_aload_n d_M_settleOne_81 rfl ?_
        refine vq_getR (k := 14) (C := R_M) (T := T_M) d_M_settleOne_82 rfl in_M w_669 (by decide) rfl (by decide) rfl rfl ?_
        refine vq_iload d_M_settleOne_85 rfl ?_
        refine vq_aload_n d_M_settleOne_87 rfl ?_
        refine vq_getR (k := 14) (C := R_M) (T := T_M) d_M_settleOne_88 rfl in_M w_669 (by decide) rfl (by decide) rfl rfl ?_
        refine vq_iload d_M_settleOne_91 rfl ?_
        refine vq_lald d_M_settleOne_93 (by decide) rfl rfl (show _ < 20 by omega) ?_
        refine vq_long (y := lN (S p)) (by rw [sJ_n (by decide), sJ_n (by decide)]; exact hI.2.2.2.1 p (Nat.le_refl p) hp) ?_
        refine vq_aload_n d_M_settleOne_94 rfl ?_
        refine vq_getJ (k := 16) (C := R_M) (T := T_M) d_M_settleOne_95 rfl in_M w_671 (by decide) rfl (by decide) rfl ?_
        refine vq_long (y := lN d) (by rw [sJ_n (by decide), sJ_n (by decide)]; exact hI.2.1.2.1) ?_
        refine vq_lrem d_M_settleOne_98 (lN_ne0 hd0 (by omega)) ?_
        rw [pk_lRem (hS63 p hp) hd0 (by omega)]
        refine vq_last d_M_settleOne_99 rfl (by decide) rfl rfl (show _ < 20 by omega) ?_
        refine vq_iinc (k := 1) (lv' := [(6, _), (4, _), (0, _), (1, _), (2, _)]) d_M_settleOne_100 rfl (ip1 p) (by decide) rfl ?_
        refine vq_goto (tgt := 36) d_M_settleOne_103 (by decide) ?_
        rw [show A - zsum (fun q => S q / d) p - S p / d = A - zsum (fun q => S q / d) (p + 1) by show _ = A - (zsum (fun q => S q / d) p + S p / d); omega]
        refine ih (zn F - (p + 1)) (by omega) (p + 1) _ rfl ⟨by omega, ⟨hI.2.1.1.go rfl (by rw [sJ_n (by decide), sJ_n (by decide), sJ_n (by decide)]), by rw [sJ_n (by decide), sJ_n (by decide), sJ_n (by decide)]; exact hI.2.1.2.1, hI.2.1.2.2.go rfl (fun q h1 h2 h3 h4 h5 => by rw [sJ_n h3, sJ_n h5, sJ_n h4])⟩, ?_, fun q h1 h2 => ?_, fun q h1 => ?_⟩
        · refine ((hI.2.2.1.pay (p := p) (by omega) (S p / d)).congr (by rw [sJ_n (by decide)]) (by rw [sJ_n (by decide)])).to (fun j hj => ?_)
          show (if j < p then S j / d else 0) + (if j = p then S p / d else 0) = if j < p + 1 then S j / d else 0
          by_cases e1 : j = p
          · rw [if_neg (by omega), if_pos e1, if_pos (by omega), e1, Nat.zero_add]
          · rw [if_neg e1, Nat.add_zero]
            by_cases e2 : j < p
            · rw [if_pos e2, if_pos (by omega)]
            · rw [if_neg e2, if_neg (by omega)]
        · rw [sJ_s, vp_updL, if_neg (by omega), sJ_n (by decide), sJ_n (by decide)]; exact hI.2.2.2.1 q (by omega) h2
        · rw [sJ_s, vp_updL]
          by_cases e1 : q = p
          · rw [if_pos e1, e1]
          · rw [if_neg e1, sJ_n (by decide), sJ_n (by decide)]; exact hI.2.2.2.2 q (by omega)
    refine vq_lload_n d_M_settleOne_30 rfl ?_
    refine vq_lstore (lv' := [(4, _), (2, _), (0, _), (1, _)]) d_M_settleOne_31 (by decide) rfl ?_
    refine vq_iconst (v := 0) d_M_settleOne_33 (by decide) ?_
    refine vq_istore (lv' := [(6, _), (4, _), (2, _), (0, _), (1, _)]) d_M_settleOne_34 (by decide) rfl ?_
    refine vq_pk [0, 1, 3, 4, 2] (lv' := [(6, _), (4, _), (0, _), (1, _), (2, _)]) rfl ?_
    refine loopP (zn F) 0 _ rfl ⟨by omega, ⟨a1, a2, a4.t⟩, ?_, fun q _ hq => a3 q hq, fun q hq => by omega⟩
    refine ⟨fun j hj => ?_, fun i j _ _ => ?_, fun j hj => ?_⟩
    · rw [a4.2.2 81 (by decide) (by decide) (by decide)]; simp [show lN 0 = 0 from rfl]
    · rw [a4.2.2 81 (by decide) (by decide) (by decide)]
    · rw [a4.2.2 83 (by decide) (by decide) (by decide)]; simp [show lN 0 = 0 from rfl]
  · rw [show (5 : Int32) = nI 5 from rfl, nI_eq (by omega) (by decide)] at h18
    refine vq_aload_n d_M_settleOne_21 rfl ?_
    refine vq_iload_n d_M_settleOne_22 rfl ?_
    refine vq_bipush (v := 20) d_M_settleOne_23 (by decide) ?_
    refine vq_lload_n d_M_settleOne_25 rfl ?_
    refine vq_callV (n := 3) (C := R_M) (T := T_M) _ _ d_M_settleOne_26 (ct_M_pay l b id D (e := e) (p := 20) (by omega) (by decide) (lN A)) w_854 w_856 sel_M_pay w_857 w_7 rfl ⟨by decide, by decide, by decide +kernel⟩ ⟨by decide, by decide⟩ (by decide) rfl rfl rfl rfl (Nat.le_of_ble_eq_true rfl) rfl rfl rfl ⟨by decide, by decide⟩ (fun _ _ h => h.elim) (fun v26 g26 h26 => ?_)
    rw [h26.1, h26.2]
    refine vq_vret d_M_settleOne_29 rfl (by decide) (by decide) rfl rfl ?_
    refine ⟨rfl, ?_, a4.t.go rfl (fun q h1 h2 h3 h4 h5 => by rw [sJ_n h5, sJ_n h4])⟩
    have h8 : PX g g10 e (fun _ => 0) := ⟨fun j hj => by rw [a4.2.2 81 (by decide) (by decide) (by decide)]; simp [show lN 0 = 0 from rfl], fun i j _ _ => by rw [a4.2.2 81 (by decide) (by decide) (by decide)], fun j hj => by rw [a4.2.2 83 (by decide) (by decide) (by decide)]; simp [show lN 0 = 0 from rfl]⟩
    refine (h8.pay (p := 20) (by decide) A).to (fun j hj => ?_)
    show 0 + (if j = 20 then A else 0) = zdue F e A j
    unfold zdue
    rw [if_pos h18, Nat.zero_add]
