/-! the reference looks at an estate. Laid by wip/whole/specs/p43.py -/
theorem dn1 (p : Nat) : nI (p + 1) - 1 = nI p := by rw [← nI_1, Int32.add_sub_cancel]
theorem vps (f : Nat → Int64) (k : Nat) (x : Int64) : vp_updL f k x k = x := by rw [vp_updL, if_pos rfl]
theorem upd_upd {f : Nat → Int32} {p : Nat} {x y : Int32} : upd (upd f p x) p y = upd f p y := by
  funext j
  simp only [upd]
  split <;> rfl
def FrL (g g1 : Sg) : Prop := (∀ q, q ≠ 67 → q ≠ 75 → q ≠ 76 → q ≠ 77 → g1.1 q = g.1 q) ∧ (∀ k, k < 9 → g1.1 67 k = g.1 67 k) ∧ (∀ q, q ≠ 67 → g1.2 q = g.2 q)
theorem FrL.hm {g g1 : Sg} {F : Fam} (h : FrL g g1) (hm : Hm g F) : Hm g1 F := hm.congr (h.2.1 1 (by decide)) (fun q h1 h2 => h.1 q (by omega) (by omega) (by omega) (by omega))
theorem FrL.dn {g g1 : Sg} (h : FrL g g1) : Dn g g1 := fun q hq => ⟨h.1 q (by omega) (by omega) (by omega) (by omega), h.2.2 q (by omega)⟩
theorem FrL.rf (g : Sg) : FrL g g := ⟨fun _ _ _ _ _ => rfl, fun _ _ => rfl, fun _ _ => rfl⟩
theorem FrL.trans {g g1 g2 : Sg} (h : FrL g g1) (h2 : FrL g1 g2) : FrL g g2 := ⟨fun q a1 a2 a3 a4 => (h2.1 q a1 a2 a3 a4).trans (h.1 q a1 a2 a3 a4), fun k hk => (h2.2.1 k hk).trans (h.2.1 k hk), fun q hq => (h2.2.2 q hq).trans (h.2.2 q hq)⟩
theorem FrL.s67 {g g1 : Sg} (h : FrL g g1) {k : Nat} (hk : 9 ≤ k) (v : Int32) : FrL g (sI g1 67 (upd (g1.1 67) k v)) :=
  ⟨fun q a1 a2 a3 a4 => by rw [sI_n a1]; exact h.1 q a1 a2 a3 a4, fun j hj => by rw [sI_s, upd, if_neg (by omega)]; exact h.2.1 j hj, h.2.2⟩
theorem FrL.j67 {g g1 : Sg} (h : FrL g g1) (f : Nat → Int64) : FrL g (sJ g1 67 f) :=
  ⟨h.1, h.2.1, fun q hq => by rw [sJ_n hq]; exact h.2.2 q hq⟩
theorem FrL.sq {g g1 : Sg} (h : FrL g g1) {q0 : Nat} (hq0 : q0 = 75 ∨ q0 = 76 ∨ q0 = 77) (f : Nat → Int32) : FrL g (sI g1 q0 f) :=
  ⟨fun q a1 a2 a3 a4 => by rw [sI_n (by omega)]; exact h.1 q a1 a2 a3 a4, fun j hj => by rw [sI_n (by omega)]; exact h.2.1 j hj, h.2.2⟩
/-- below the height h all is laid out -/
def LA (g g1 : Sg) (F : Fam) (e h : Nat) : Prop := FrL g g1 ∧ g1.1 67 9 = nI e ∧ g1.2 67 15 = lN (zpr F e) ∧ (∀ p, p < zn F → g1.1 75 p = bI (zl F e p)) ∧ (∀ p, p < zn F → g1.1 76 p = nI (zB F e p)) ∧ (∀ i, i < h → ∀ p, p < zn F → g1.1 77 (20 * i + p) = bI (zY F e i p))
theorem LA.put {g g1 : Sg} {F : Fam} {e h : Nat} (H : LA g g1 F e h) {k : Nat} (hk : 9 < k) (v : Int32) : LA g (sI g1 67 (upd (g1.1 67) k v)) F e h :=
  ⟨H.1.s67 (by omega) v, by rw [sI_s, upd, if_neg (by omega)]; exact H.2.1, H.2.2.1, H.2.2.2.1, H.2.2.2.2.1, H.2.2.2.2.2⟩
/-- the reference has looked -/
def LM (g : Sg) (F : Fam) (e : Nat) : Prop := g.1 67 9 = nI e ∧ g.2 67 15 = lN (zpr F e) ∧ g.1 67 17 = nI (zt F e) ∧ g.1 67 18 = bI (zw F e).isSome ∧ (∀ p, p < zn F → g.1 75 p = bI (zl F e p)) ∧ (∀ p, p < zn F → g.1 76 p = nI (zB F e p)) ∧ (∀ i, i < 4 → ∀ p, p < zn F → g.1 77 (20 * i + p) = bI (zY F e i p))
theorem LM.congr {g g' : Sg} {F : Fam} {e : Nat} (h : LM g F e) (h1 : ∀ k, g'.1 67 k = g.1 67 k) (h2 : g'.2 67 15 = g.2 67 15) (hq : ∀ q, 75 ≤ q → q ≤ 77 → g'.1 q = g.1 q) : LM g' F e :=
  ⟨by rw [h1]; exact h.1, by rw [h2]; exact h.2.1, by rw [h1]; exact h.2.2.1, by rw [h1]; exact h.2.2.2.1, fun p hp => by rw [hq 75 (by omega) (by omega)]; exact h.2.2.2.2.1 p hp, fun p hp => by rw [hq 76 (by omega) (by omega)]; exact h.2.2.2.2.2.1 p hp, fun i hi p hp => by rw [hq 77 (by omega) (by omega)]; exact h.2.2.2.2.2.2 i hi p hp⟩
def zcd (F : Fam) (e : Nat) : Nat → Nat
  | 0 => if (zw F e).isSome = true then 4 else 5
  | j + 1 => if (zY F e (3 - j) e && (decide (3 - j < 3) || !(zw F e).isSome)) = true then 3 - j else zcd F e j
theorem zt_code {F : Fam} {e : Nat} (he : e < zn F) : (if 0 < zB F e e then 0 else zcd F e 3) = zt F e := by
  have h0 : zY F e 0 e = decide (0 < zB F e e) := by
    show zX F e e = _
    rw [zX_eq F e he]
    have : zl F e e = false := by unfold zl; simp
    rw [this]; rfl
  unfold zt
  rw [h0]
  simp only [zcd, ← Option.not_isSome]
  cases hw : (zw F e).isSome <;> cases h1 : zY F e 1 e <;> cases h2 : zY F e 2 e <;> cases h3 : zY F e 3 e <;> simp [h1, h2, h3]
/-- the children with heirs, below a bound -/
def zkn (F : Fam) (e p c : Nat) : Nat := zsum (fun c => if zk F e p c = true then 1 else 0) c
theorem zkn_0 (F : Fam) (e p : Nat) : ∀ c, c ≤ p + 1 → zkn F e p c = 0
  | 0, _ => rfl
  | c + 1, h => by
    show zkn F e p c + (if zk F e p c = true then 1 else 0) = 0
    rw [zkn_0 F e p c (by omega)]
    have : zk F e p c = false := by unfold zk; have : ¬ p < c := by omega
                                    simp [this]
    rw [this]; rfl
theorem zkn_le (F : Fam) (e p : Nat) : ∀ c, zkn F e p c ≤ c
  | 0 => Nat.le_refl _
  | c + 1 => by
    have := zkn_le F e p c
    show zkn F e p c + (if zk F e p c = true then 1 else 0) ≤ c + 1
    split <;> omega
set_option maxRecDepth 100000 in
set_option maxHeartbeats 4000000 in
theorem ct_M_look (l : Launch) (b : Nat) (id : Nat → ClassId) (D : va_G) {g : Sg} {F : Fam} (hW : zW F) (hm : Hm g F) {e u : Nat} (he : e < zn F) (hu : zd F e = some u) : qCT l b id D m_M_look false [.ref (b + 67), .int (nI e)] 85 kT g 85 kT (fun v g' => v = none ∧ LM g' F e ∧ FrL g g') (fun _ _ => False) := by
  have hn := hW.1
  have hu9 := hW.2.2.2.2.2.1 e u he hu
  refine qCT_of rfl (by decide) (Nat.le_of_ble_eq_true rfl) ?_
  show Vq l b id D m_M_look false 85 kT _ 85 kT _ 85 kT 0 0 0 [(0, .ref (b + 67)), (1, .int (nI e))] [] g
  have loopC : ∀ (n9 : Nat) (j : Nat) (g1 : Sg), 3 - j = n9 → (j ≤ 3 ∧ LA g g1 F e 4 ∧ g1.1 67 18 = bI (zw F e).isSome ∧ g1.1 67 17 = nI (zcd F e j)) → Vq l b id D m_M_look false 85 kT (fun v g' => v = none ∧ LM g' F e ∧ FrL g g') 85 kT (fun _ _ => False) 85 kT 0 0 344 [(2, .int (nI (3 - j))), (1, .int (nI e)), (0, .ref (b + 67))] [] g1 := by
    intro n9
    induction n9 using Nat.strongRecOn with
    | ind n9 ih =>
    intro j g1 hm9 hI
    have hj0 := hI.1
    refine vq_iload_n d_M_look_344 rfl ?_
    refine vq_if_le (tgt := 392) d_M_look_345 (by decide) (fun h345 => ?_) (fun h345 => ?_)
    · have hj3 : j = 3 := by
        rw [nI_n0 (by omega)] at h345
        omega
      subst hj3
      refine vq_aload_n d_M_look_392 rfl ?_
      refine vq_aload_n d_M_look_393 rfl ?_
      refine vq_getR (k := 11) (C := R_M) (T := T_M) d_M_look_394 rfl in_M w_666 (by decide) rfl (by decide) rfl rfl ?_
      refine vq_iload_n d_M_look_397 rfl ?_
      refine vq_iald d_M_look_398 (by decide) rfl rfl (show _ < 20 by omega) ?_
      refine vq_int (y := nI (zB F e e)) (hI.2.1.2.2.2.2.1 e he) ?_
      refine vq_if_le (tgt := 406) d_M_look_399 (by decide) (fun h399 => ?_) (fun h399 => ?_)
      · rw [nI_n0 (by have := zB_le (F := F) (e := e) e; omega)] at h399
        refine vq_aload_n d_M_look_406 rfl ?_
        refine vq_getI (k := 17) (C := R_M) (T := T_M) d_M_look_407 rfl in_M w_672 (by decide) rfl (by decide) rfl ?_
        refine vq_int (y := nI (zcd F e 3)) hI.2.2.2 ?_
        refine vq_putI (k := 17) (C := R_M) (T := T_M) (ty := .int) t_M d_M_look_410 rfl in_M w_672 ty_M nm_M (by decide) rfl (by decide) rfl (by decide +kernel) rfl rfl rfl ?_
        refine vq_vret d_M_look_413 rfl (by decide) (by decide) rfl rfl ?_
        obtain ⟨a1, a2, a3, a4, a5, a6⟩ := hI.2.1.put (k := 17) (by decide) _
        refine ⟨rfl, ⟨a2, a3, ?_, ?_, a4, a5, a6⟩, a1⟩
        · rw [sI_s, upd, if_pos rfl, ← zt_code he]
          first
            | (rw [if_neg (by omega)])
            | (rw [if_pos (by omega)]; rfl)
        · rw [sI_s, upd, if_neg (by decide)]; exact hI.2.2.1
      · rw [nI_n0 (by have := zB_le (F := F) (e := e) e; omega)] at h399
        refine vq_iconst (v := 0) d_M_look_402 (by decide) ?_
        refine vq_goto (tgt := 410) d_M_look_403 (by decide) ?_
        refine vq_putI (k := 17) (C := R_M) (T := T_M) (ty := .int) t_M d_M_look_410 rfl in_M w_672 ty_M nm_M (by decide) rfl (by decide) rfl (by decide +kernel) rfl rfl rfl ?_
        refine vq_vret d_M_look_413 rfl (by decide) (by decide) rfl rfl ?_
        obtain ⟨a1, a2, a3, a4, a5, a6⟩ := hI.2.1.put (k := 17) (by decide) _
        refine ⟨rfl, ⟨a2, a3, ?_, ?_, a4, a5, a6⟩, a1⟩
        · rw [sI_s, upd, if_pos rfl, ← zt_code he]
          first
            | (rw [if_neg (by omega)])
            | (rw [if_pos (by omega)]; rfl)
        · rw [sI_s, upd, if_neg (by decide)]; exact hI.2.2.1
    · have hj3 : j < 3 := by
        rw [nI_n0 (by omega)] at h345
        omega
      refine vq_aload_n d_M_look_348 rfl ?_
      refine vq_aload_n d_M_look_349 rfl ?_
      refine vq_getR (k := 12) (C := R_M) (T := T_M) d_M_look_350 rfl in_M w_667 (by decide) rfl (by decide) rfl rfl ?_
      refine vq_bipush (v := 20) d_M_look_353 (by decide) ?_
      refine vq_iload_n d_M_look_355 rfl ?_
      refine vq_imul d_M_look_356 ?_
      refine vq_iload_n d_M_look_357 rfl ?_
      refine vq_iadd d_M_look_358 ?_
      rw [ix20m]
      refine vq_zald d_M_look_359 (by decide) rfl rfl (show _ < 80 by omega) ?_
      refine vq_int (y := bI (zY F e (3 - j) e)) (hI.2.1.2.2.2.2.2 (3 - j) (by omega) e he) ?_
      refine vq_if_eq (tgt := 379) d_M_look_360 (by decide) (fun h360 => ?_) (fun h360 => ?_)
      · rw [bI_0] at h360
        refine vq_aload_n d_M_look_379 rfl ?_
        refine vq_getI (k := 17) (C := R_M) (T := T_M) d_M_look_380 rfl in_M w_672 (by decide) rfl (by decide) rfl ?_
        refine vq_int (y := nI (zcd F e j)) hI.2.2.2 ?_
        refine vq_putI (k := 17) (C := R_M) (T := T_M) (ty := .int) t_M d_M_look_383 rfl in_M w_672 ty_M nm_M (by decide) rfl (by decide) rfl (by decide +kernel) rfl rfl rfl ?_
        refine vq_iinc (k := 0) (lv' := [(2, _), (1, _), (0, _)]) d_M_look_386 rfl (by rw [im1, show 3 - j = (3 - (j + 1)) + 1 by omega, dn1]) (by decide) rfl ?_
        refine vq_goto (tgt := 344) d_M_look_389 (by decide) ?_
        refine ih (3 - (j + 1)) (by omega) (j + 1) _ rfl ⟨by omega, hI.2.1.put (by decide) _, by rw [sI_s, upd, if_neg (by decide)]; exact hI.2.2.1, ?_⟩
        rw [sI_s, upd, if_pos rfl]
        show _ = nI (if (zY F e (3 - j) e && (decide (3 - j < 3) || !(zw F e).isSome)) = true then 3 - j else zcd F e j)
        first
          | (rw [h360]; simp; done)
          | (rw [h360, decide_eq_true h365]; simp; done)
          | (rw [h360, h372, decide_eq_false h365]; simp; done)
      · rw [bI_n0] at h360
        refine vq_iload_n d_M_look_363 rfl ?_
        refine vq_iconst (v := 3) d_M_look_364 (by decide) ?_
        refine vq_icmp_lt (tgt := 375) d_M_look_365 (by decide) (fun h365 => ?_) (fun h365 => ?_)
        · rw [show (3 : Int32) = nI 3 from rfl, nI_ltI (by omega) (by decide)] at h365
          refine vq_iload_n d_M_look_375 rfl ?_
          refine vq_goto (tgt := 383) d_M_look_376 (by decide) ?_
          refine vq_putI (k := 17) (C := R_M) (T := T_M) (ty := .int) t_M d_M_look_383 rfl in_M w_672 ty_M nm_M (by decide) rfl (by decide) rfl (by decide +kernel) rfl rfl rfl ?_
          refine vq_iinc (k := 0) (lv' := [(2, _), (1, _), (0, _)]) d_M_look_386 rfl (by rw [im1, show 3 - j = (3 - (j + 1)) + 1 by omega, dn1]) (by decide) rfl ?_
          refine vq_goto (tgt := 344) d_M_look_389 (by decide) ?_
          refine ih (3 - (j + 1)) (by omega) (j + 1) _ rfl ⟨by omega, hI.2.1.put (by decide) _, by rw [sI_s, upd, if_neg (by decide)]; exact hI.2.2.1, ?_⟩
          rw [sI_s, upd, if_pos rfl]
          show _ = nI (if (zY F e (3 - j) e && (decide (3 - j < 3) || !(zw F e).isSome)) = true then 3 - j else zcd F e j)
          first
            | (rw [h360]; simp; done)
            | (rw [h360, decide_eq_true h365]; simp; done)
            | (rw [h360, h372, decide_eq_false h365]; simp; done)
        · rw [show (3 : Int32) = nI 3 from rfl, nI_ltI (by omega) (by decide)] at h365
          refine vq_aload_n d_M_look_368 rfl ?_
          refine vq_getI (k := 18) (C := R_M) (T := T_M) d_M_look_369 rfl in_M w_673 (by decide) rfl (by decide) rfl ?_
          refine vq_int (y := bI (zw F e).isSome) hI.2.2.1 ?_
          refine vq_if_ne (tgt := 379) d_M_look_372 (by decide) (fun h372 => ?_) (fun h372 => ?_)
          · rw [bI_n0] at h372
            refine vq_aload_n d_M_look_379 rfl ?_
            refine vq_getI (k := 17) (C := R_M) (T := T_M) d_M_look_380 rfl in_M w_672 (by decide) rfl (by decide) rfl ?_
            refine vq_int (y := nI (zcd F e j)) hI.2.2.2 ?_
            refine vq_putI (k := 17) (C := R_M) (T := T_M) (ty := .int) t_M d_M_look_383 rfl in_M w_672 ty_M nm_M (by decide) rfl (by decide) rfl (by decide +kernel) rfl rfl rfl ?_
            refine vq_iinc (k := 0) (lv' := [(2, _), (1, _), (0, _)]) d_M_look_386 rfl (by rw [im1, show 3 - j = (3 - (j + 1)) + 1 by omega, dn1]) (by decide) rfl ?_
            refine vq_goto (tgt := 344) d_M_look_389 (by decide) ?_
            refine ih (3 - (j + 1)) (by omega) (j + 1) _ rfl ⟨by omega, hI.2.1.put (by decide) _, by rw [sI_s, upd, if_neg (by decide)]; exact hI.2.2.1, ?_⟩
            rw [sI_s, upd, if_pos rfl]
            show _ = nI (if (zY F e (3 - j) e && (decide (3 - j < 3) || !(zw F e).isSome)) = true then 3 - j else zcd F e j)
            first
              | (rw [h360]; simp; done)
              | (rw [h360, decide_eq_true h365]; simp; done)
              | (rw [h360, h372, decide_eq_false h365]; simp; done)
          · rw [bI_0] at h372
            refine vq_iload_n d_M_look_375 rfl ?_
            refine vq_goto (tgt := 383) d_M_look_376 (by decide) ?_
            refine vq_putI (k := 17) (C := R_M) (T := T_M) (ty := .int) t_M d_M_look_383 rfl in_M w_672 ty_M nm_M (by decide) rfl (by decide) rfl (by decide +kernel) rfl rfl rfl ?_
            refine vq_iinc (k := 0) (lv' := [(2, _), (1, _), (0, _)]) d_M_look_386 rfl (by rw [im1, show 3 - j = (3 - (j + 1)) + 1 by omega, dn1]) (by decide) rfl ?_
            refine vq_goto (tgt := 344) d_M_look_389 (by decide) ?_
            refine ih (3 - (j + 1)) (by omega) (j + 1) _ rfl ⟨by omega, hI.2.1.put (by decide) _, by rw [sI_s, upd, if_neg (by decide)]; exact hI.2.2.1, ?_⟩
            rw [sI_s, upd, if_pos rfl]
            show _ = nI (if (zY F e (3 - j) e && (decide (3 - j < 3) || !(zw F e).isSome)) = true then 3 - j else zcd F e j)
            first
              | (rw [h360]; simp; done)
              | (rw [h360, decide_eq_true h365]; simp; done)
              | (rw [h360, h372, decide_eq_false h365]; simp; done)
  have loopB : ∀ (n9 : Nat) (h : Nat) (g1 : Sg), 4 - h = n9 → (1 ≤ h ∧ h ≤ 4 ∧ LA g g1 F e h) → Vq l b id D m_M_look false 85 kT (fun v g' => v = none ∧ LM g' F e ∧ FrL g g') 85 kT (fun _ _ => False) 85 kT 0 0 219 [(2, .int (nI h)), (1, .int (nI e)), (0, .ref (b + 67))] [] g1 := by
    intro n9
    induction n9 using Nat.strongRecOn with
    | ind n9 ih =>
    intro h g1 hm9 hI
    have hh1 := hI.1
    have hh4 := hI.2.1
    refine vq_iload_n d_M_look_219 rfl ?_
    refine vq_iconst (v := 4) d_M_look_220 (by decide) ?_
    refine vq_icmp_ge (tgt := 294) d_M_look_221 (by decide) (fun h221 => ?_) (fun h221 => ?_)
    · have hh : h = 4 := by
        rw [show (4 : Int32) = nI 4 from rfl, nI_leI (by decide) (by omega)] at h221
        omega
      subst hh
      have hm1 := hI.2.2.1.hm hm
      refine vq_aload_n d_M_look_294 rfl ?_
      refine vq_aload_n d_M_look_295 rfl ?_
      refine vq_getR (k := 4) (C := R_M) (T := T_M) d_M_look_296 rfl in_M w_659 (by decide) rfl (by decide) rfl rfl ?_
      refine vq_iload_n d_M_look_299 rfl ?_
      refine vq_iald d_M_look_300 (by decide) rfl rfl (show _ < 20 by omega) ?_
      refine vq_int (y := eO (zs F e)) (hm1.2.2.2.1 e he) ?_
      refine vq_if_lt (tgt := 322) d_M_look_301 (by decide) (fun h301 => ?_) (fun h301 => ?_)
      · rw [eO_neg (zs_lt hW he)] at h301
        have hw9 : (zw F e).isSome = false := by unfold zw; rw [h301]; rfl
        refine vq_iconst (v := 0) d_M_look_322 (by decide) ?_
        refine vq_putI (k := 18) (C := R_M) (T := T_M) (ty := .boolean) t_M d_M_look_323 rfl in_M w_673 ty_M nm_M (by decide) rfl (by decide) rfl (by decide +kernel) rfl rfl rfl ?_
        refine vq_aload_n d_M_look_326 rfl ?_
        refine vq_aload_n d_M_look_327 rfl ?_
        refine vq_getI (k := 18) (C := R_M) (T := T_M) d_M_look_328 rfl in_M w_673 (by decide) rfl (by decide) rfl ?_
        refine vq_int (y := 0) (by rw [sI_s, upd, if_pos rfl]) ?_
        refine vq_if_eq (tgt := 338) d_M_look_331 (by decide) (fun h331 => ?_) (fun h331 => absurd h331 (by decide))
        refine vq_iconst (v := 5) d_M_look_338 (by decide) ?_
        refine vq_putI (k := 17) (C := R_M) (T := T_M) (ty := .int) t_M d_M_look_339 rfl in_M w_672 ty_M nm_M (by decide) rfl (by decide) rfl (by decide +kernel) rfl rfl rfl ?_
        refine vq_iconst (v := 3) d_M_look_342 (by decide) ?_
        refine vq_istore_n (lv' := [(2, _), (1, _), (0, _)]) d_M_look_343 (by decide) rfl ?_
        refine loopC 3 0 _ rfl ⟨by decide, (hI.2.2.put (by decide) _).put (by decide) _, ?_, ?_⟩
        · rw [sI_s, upd, if_neg (by decide), sI_s, upd, if_pos rfl, hw9]; rfl
        · rw [sI_s, upd, if_pos rfl]; show _ = nI (if (zw F e).isSome = true then 4 else 5); rw [hw9]; rfl
      · rw [eO_neg (zs_lt hW he)] at h301
        obtain ⟨j, hj⟩ := Option.ne_none_iff_exists'.mp h301
        have hjn := hW.2.2.2.2.1 e j he hj
        refine vq_aload_n d_M_look_304 rfl ?_
        refine vq_getR (k := 10) (C := R_M) (T := T_M) d_M_look_305 rfl in_M w_665 (by decide) rfl (by decide) rfl rfl ?_
        refine vq_aload_n d_M_look_308 rfl ?_
        refine vq_getR (k := 4) (C := R_M) (T := T_M) d_M_look_309 rfl in_M w_659 (by decide) rfl (by decide) rfl rfl ?_
        refine vq_iload_n d_M_look_312 rfl ?_
        refine vq_iald d_M_look_313 (by decide) rfl rfl (show _ < 20 by omega) ?_
        refine vq_int (y := nI j) (by rw [← show eO (zs F e) = nI j by rw [hj]; rfl]; exact hm1.2.2.2.1 e he) ?_
        refine vq_zald d_M_look_314 (by decide) rfl rfl (show _ < 20 by omega) ?_
        refine vq_int (y := bI (zl F e j)) (hI.2.2.2.2.2.1 j hjn) ?_
        refine vq_if_eq (tgt := 322) d_M_look_315 (by decide) (fun h315 => ?_) (fun h315 => ?_)
        · rw [bI_0] at h315
          have hw9 : (zw F e).isSome = false := by unfold zw; rw [hj]; simp [h315]
          refine vq_iconst (v := 0) d_M_look_322 (by decide) ?_
          refine vq_putI (k := 18) (C := R_M) (T := T_M) (ty := .boolean) t_M d_M_look_323 rfl in_M w_673 ty_M nm_M (by decide) rfl (by decide) rfl (by decide +kernel) rfl rfl rfl ?_
          refine vq_aload_n d_M_look_326 rfl ?_
          refine vq_aload_n d_M_look_327 rfl ?_
          refine vq_getI (k := 18) (C := R_M) (T := T_M) d_M_look_328 rfl in_M w_673 (by decide) rfl (by decide) rfl ?_
          refine vq_int (y := 0) (by rw [sI_s, upd, if_pos rfl]) ?_
          refine vq_if_eq (tgt := 338) d_M_look_331 (by decide) (fun h331 => ?_) (fun h331 => absurd h331 (by decide))
          refine vq_iconst (v := 5) d_M_look_338 (by decide) ?_
          refine vq_putI (k := 17) (C := R_M) (T := T_M) (ty := .int) t_M d_M_look_339 rfl in_M w_672 ty_M nm_M (by decide) rfl (by decide) rfl (by decide +kernel) rfl rfl rfl ?_
          refine vq_iconst (v := 3) d_M_look_342 (by decide) ?_
          refine vq_istore_n (lv' := [(2, _), (1, _), (0, _)]) d_M_look_343 (by decide) rfl ?_
          refine loopC 3 0 _ rfl ⟨by decide, (hI.2.2.put (by decide) _).put (by decide) _, ?_, ?_⟩
          · rw [sI_s, upd, if_neg (by decide), sI_s, upd, if_pos rfl, hw9]; rfl
          · rw [sI_s, upd, if_pos rfl]; show _ = nI (if (zw F e).isSome = true then 4 else 5); rw [hw9]; rfl
        · rw [bI_n0] at h315
          have hw9 : (zw F e).isSome = true := by unfold zw; rw [hj]; simp [h315]
          refine vq_iconst (v := 1) d_M_look_318 (by decide) ?_
          refine vq_goto (tgt := 323) d_M_look_319 (by decide) ?_
          refine vq_putI (k := 18) (C := R_M) (T := T_M) (ty := .boolean) t_M d_M_look_323 rfl in_M w_673 ty_M nm_M (by decide) rfl (by decide) rfl (by decide +kernel) rfl rfl rfl ?_
          refine vq_aload_n d_M_look_326 rfl ?_
          refine vq_aload_n d_M_look_327 rfl ?_
          refine vq_getI (k := 18) (C := R_M) (T := T_M) d_M_look_328 rfl in_M w_673 (by decide) rfl (by decide) rfl ?_
          refine vq_int (y := 1) (by rw [sI_s, upd, if_pos rfl]) ?_
          refine vq_if_eq (tgt := 338) d_M_look_331 (by decide) (fun h331 => absurd h331 (by decide)) (fun h331 => ?_)
          refine vq_iconst (v := 4) d_M_look_334 (by decide) ?_
          refine vq_goto (tgt := 339) d_M_look_335 (by decide) ?_
          refine vq_putI (k := 17) (C := R_M) (T := T_M) (ty := .int) t_M d_M_look_339 rfl in_M w_672 ty_M nm_M (by decide) rfl (by decide) rfl (by decide +kernel) rfl rfl rfl ?_
          refine vq_iconst (v := 3) d_M_look_342 (by decide) ?_
          refine vq_istore_n (lv' := [(2, _), (1, _), (0, _)]) d_M_look_343 (by decide) rfl ?_
          refine loopC 3 0 _ rfl ⟨by decide, (hI.2.2.put (by decide) _).put (by decide) _, ?_, ?_⟩
          · rw [sI_s, upd, if_neg (by decide), sI_s, upd, if_pos rfl, hw9]; rfl
          · rw [sI_s, upd, if_pos rfl]; show _ = nI (if (zw F e).isSome = true then 4 else 5); rw [hw9]; rfl
    · have hh : h < 4 := by
        rw [show (4 : Int32) = nI 4 from rfl, nI_leI (by decide) (by omega)] at h221
        omega
      have loopB2 : ∀ (n8 : Nat) (p : Nat) (g2 : Sg), zn F - p = n8 → (p ≤ zn F ∧ LA g g2 F e h ∧ ∀ i, i < p → g2.1 77 (20 * h + i) = bI (zY F e h i)) → Vq l b id D m_M_look false 85 kT (fun v g' => v = none ∧ LM g' F e ∧ FrL g g') 85 kT (fun _ _ => False) 85 kT 0 0 226 [(3, .int (nI p)), (2, .int (nI h)), (1, .int (nI e)), (0, .ref (b + 67))] [] g2 := by
        intro n8
        induction n8 using Nat.strongRecOn with
        | ind n8 ih8 =>
        intro p g2 hm8 hJ
        have hm2 := hJ.2.1.1.hm hm
        refine vq_iload_n d_M_look_226 rfl ?_
        refine vq_aload_n d_M_look_227 rfl ?_
        refine vq_getI (k := 1) (C := R_M) (T := T_M) d_M_look_228 rfl in_M w_656 (by decide) rfl (by decide) rfl ?_
        refine vq_int (y := nI (zn F)) hm2.1 ?_
        refine vq_icmp_ge (tgt := 288) d_M_look_231 (by decide) (fun h231 => ?_) (fun h231 => ?_)
        · have hpn : p = zn F := by
            rw [nI_leI (by omega) (by omega)] at h231
            omega
          subst hpn
          refine vq_iinc (k := 1) (lv' := [(2, _), (3, _), (1, _), (0, _)]) d_M_look_288 rfl (ip1 h) (by decide) rfl ?_
          refine vq_goto (tgt := 219) d_M_look_291 (by decide) ?_
          refine vq_pk [0, 2, 3] (lv' := [(2, _), (1, _), (0, _)]) rfl ?_
          refine ih (4 - (h + 1)) (by omega) (h + 1) _ rfl ⟨by omega, by omega, hJ.2.1.1, hJ.2.1.2.1, hJ.2.1.2.2.1, hJ.2.1.2.2.2.1, hJ.2.1.2.2.2.2.1, fun i hi p hp => ?_⟩
          by_cases e1 : i = h
          · rw [e1]; exact hJ.2.2 p hp
          · exact hJ.2.1.2.2.2.2.2 i (by omega) p hp
        · have hpn : p < zn F := by
            rw [nI_leI (by omega) (by omega)] at h231
            omega
          refine vq_aload_n d_M_look_234 rfl ?_
          refine vq_getR (k := 12) (C := R_M) (T := T_M) d_M_look_235 rfl in_M w_667 (by decide) rfl (by decide) rfl rfl ?_
          refine vq_bipush (v := 20) d_M_look_238 (by decide) ?_
          refine vq_iload_n d_M_look_240 rfl ?_
          refine vq_imul d_M_look_241 ?_
          refine vq_iload_n d_M_look_242 rfl ?_
          refine vq_iadd d_M_look_243 ?_
          rw [ix20m]
          refine vq_aload_n d_M_look_244 rfl ?_
          refine vq_iload_n d_M_look_245 rfl ?_
          refine vq_iconst (v := 1) d_M_look_246 (by decide) ?_
          refine vq_isub d_M_look_247 ?_
          rw [show nI h - 1 = nI (h - 1) by rw [show h = (h - 1) + 1 by omega, dn1]; rfl]
          refine vq_aload_n d_M_look_248 rfl ?_
          refine vq_getR (k := 2) (C := R_M) (T := T_M) d_M_look_249 rfl in_M w_657 (by decide) rfl (by decide) rfl rfl ?_
          refine vq_iload_n d_M_look_252 rfl ?_
          refine vq_iald d_M_look_253 (by decide) rfl rfl (show _ < 20 by omega) ?_
          refine vq_int (y := eO (za F p)) (hm2.2.1 p hpn) ?_
          refine vq_callV (n := 2) (C := R_M) (T := T_M) _ _ d_M_look_254 (ct_M_hasLine l b id D (g := g2) (h := h - 1) (by omega) (o := za F p) (fun j hj => by have := hW.2.1 p j hpn hj; omega) (Y := zY F e (h - 1)) (fun j hj => hJ.2.1.2.2.2.2.2 (h - 1) (by omega) j (by have := hW.2.1 p j hpn hj; omega))) w_794 w_796 sel_M_hasLine w_797 w_7 rfl ⟨by decide, by decide, by decide +kernel⟩ ⟨by decide, by decide⟩ (by decide) rfl rfl rfl rfl (Nat.le_of_ble_eq_true rfl) rfl rfl rfl ⟨by decide, by decide⟩ (fun _ _ h => h.elim) (fun v254 g254 h254 => ?_)
          rw [h254.1, h254.2]
          refine vq_if_ne (tgt := 276) d_M_look_257 (by decide) (fun h257 => ?_) (fun h257 => ?_)
          · rw [bI_n0] at h257
            refine vq_iconst (v := 1) d_M_look_276 (by decide) ?_
            refine vq_goto (tgt := 281) d_M_look_277 (by decide) ?_
            refine vq_zast d_M_look_281 rfl (by decide) rfl rfl (show _ < 80 by omega) (by first | exact Or.inl rfl | exact Or.inr rfl | assumption) ?_
            refine vq_iinc (k := 0) (lv' := [(3, _), (2, _), (1, _), (0, _)]) d_M_look_282 rfl (ip1 p) (by decide) rfl ?_
            refine vq_goto (tgt := 226) d_M_look_285 (by decide) ?_
            refine ih8 (zn F - (p + 1)) (by omega) (p + 1) _ rfl ⟨by omega, ⟨hJ.2.1.1.sq (by omega) _, hJ.2.1.2.1, hJ.2.1.2.2.1, hJ.2.1.2.2.2.1, hJ.2.1.2.2.2.2.1, fun i hi j hj => ?_⟩, fun i hi => ?_⟩
            · show upd (g2.1 77) (20 * h + p) _ (20 * i + j) = _
              rw [upd, if_neg (by omega)]
              exact hJ.2.1.2.2.2.2.2 i hi j hj
            · show upd (g2.1 77) (20 * h + p) _ (20 * h + i) = _
              rw [upd]
              by_cases e1 : i = p
              · rw [if_pos (by omega), e1]
                obtain ⟨h0, rfl⟩ : ∃ h0, h = h0 + 1 := ⟨h - 1, by omega⟩
                show _ = bI (zoB (za F p) (zY F e h0) || zoB (zb F p) (zY F e h0))
                first
                  | (rw [show zoB (za F p) (zY F e h0) = true from h257]; rfl)
                  | (rw [show zoB (za F p) (zY F e h0) = false from h257, show zoB (zb F p) (zY F e h0) = true from h273]; rfl)
                  | (rw [show zoB (za F p) (zY F e h0) = false from h257, show zoB (zb F p) (zY F e h0) = false from h273]; rfl)
              · rw [if_neg (by omega)]; exact hJ.2.2 i (by omega)
          · rw [bI_0] at h257
            refine vq_aload_n d_M_look_260 rfl ?_
            refine vq_iload_n d_M_look_261 rfl ?_
            refine vq_iconst (v := 1) d_M_look_262 (by decide) ?_
            refine vq_isub d_M_look_263 ?_
            rw [show nI h - 1 = nI (h - 1) by rw [show h = (h - 1) + 1 by omega, dn1]; rfl]
            refine vq_aload_n d_M_look_264 rfl ?_
            refine vq_getR (k := 3) (C := R_M) (T := T_M) d_M_look_265 rfl in_M w_658 (by decide) rfl (by decide) rfl rfl ?_
            refine vq_iload_n d_M_look_268 rfl ?_
            refine vq_iald d_M_look_269 (by decide) rfl rfl (show _ < 20 by omega) ?_
            refine vq_int (y := eO (zb F p)) (hm2.2.2.1 p hpn) ?_
            refine vq_callV (n := 2) (C := R_M) (T := T_M) _ _ d_M_look_270 (ct_M_hasLine l b id D (g := g2) (h := h - 1) (by omega) (o := zb F p) (fun j hj => by have := hW.2.2.1 p j hpn hj; omega) (Y := zY F e (h - 1)) (fun j hj => hJ.2.1.2.2.2.2.2 (h - 1) (by omega) j (by have := hW.2.2.1 p j hpn hj; omega))) w_794 w_796 sel_M_hasLine w_797 w_7 rfl ⟨by decide, by decide, by decide +kernel⟩ ⟨by decide, by decide⟩ (by decide) rfl rfl rfl rfl (Nat.le_of_ble_eq_true rfl) rfl rfl rfl ⟨by decide, by decide⟩ (fun _ _ h => h.elim) (fun v270 g270 h270 => ?_)
            rw [h270.1, h270.2]
            refine vq_if_eq (tgt := 280) d_M_look_273 (by decide) (fun h273 => ?_) (fun h273 => ?_)
            · rw [bI_0] at h273
              refine vq_iconst (v := 0) d_M_look_280 (by decide) ?_
              refine vq_zast d_M_look_281 rfl (by decide) rfl rfl (show _ < 80 by omega) (by first | exact Or.inl rfl | exact Or.inr rfl | assumption) ?_
              refine vq_iinc (k := 0) (lv' := [(3, _), (2, _), (1, _), (0, _)]) d_M_look_282 rfl (ip1 p) (by decide) rfl ?_
              refine vq_goto (tgt := 226) d_M_look_285 (by decide) ?_
              refine ih8 (zn F - (p + 1)) (by omega) (p + 1) _ rfl ⟨by omega, ⟨hJ.2.1.1.sq (by omega) _, hJ.2.1.2.1, hJ.2.1.2.2.1, hJ.2.1.2.2.2.1, hJ.2.1.2.2.2.2.1, fun i hi j hj => ?_⟩, fun i hi => ?_⟩
              · show upd (g2.1 77) (20 * h + p) _ (20 * i + j) = _
                rw [upd, if_neg (by omega)]
                exact hJ.2.1.2.2.2.2.2 i hi j hj
              · show upd (g2.1 77) (20 * h + p) _ (20 * h + i) = _
                rw [upd]
                by_cases e1 : i = p
                · rw [if_pos (by omega), e1]
                  obtain ⟨h0, rfl⟩ : ∃ h0, h = h0 + 1 := ⟨h - 1, by omega⟩
                  show _ = bI (zoB (za F p) (zY F e h0) || zoB (zb F p) (zY F e h0))
                  first
                    | (rw [show zoB (za F p) (zY F e h0) = true from h257]; rfl)
                    | (rw [show zoB (za F p) (zY F e h0) = false from h257, show zoB (zb F p) (zY F e h0) = true from h273]; rfl)
                    | (rw [show zoB (za F p) (zY F e h0) = false from h257, show zoB (zb F p) (zY F e h0) = false from h273]; rfl)
                · rw [if_neg (by omega)]; exact hJ.2.2 i (by omega)
            · rw [bI_n0] at h273
              refine vq_iconst (v := 1) d_M_look_276 (by decide) ?_
              refine vq_goto (tgt := 281) d_M_look_277 (by decide) ?_
              refine vq_zast d_M_look_281 rfl (by decide) rfl rfl (show _ < 80 by omega) (by first | exact Or.inl rfl | exact Or.inr rfl | assumption) ?_
              refine vq_iinc (k := 0) (lv' := [(3, _), (2, _), (1, _), (0, _)]) d_M_look_282 rfl (ip1 p) (by decide) rfl ?_
              refine vq_goto (tgt := 226) d_M_look_285 (by decide) ?_
              refine ih8 (zn F - (p + 1)) (by omega) (p + 1) _ rfl ⟨by omega, ⟨hJ.2.1.1.sq (by omega) _, hJ.2.1.2.1, hJ.2.1.2.2.1, hJ.2.1.2.2.2.1, hJ.2.1.2.2.2.2.1, fun i hi j hj => ?_⟩, fun i hi => ?_⟩
              · show upd (g2.1 77) (20 * h + p) _ (20 * i + j) = _
                rw [upd, if_neg (by omega)]
                exact hJ.2.1.2.2.2.2.2 i hi j hj
              · show upd (g2.1 77) (20 * h + p) _ (20 * h + i) = _
                rw [upd]
                by_cases e1 : i = p
                · rw [if_pos (by omega), e1]
                  obtain ⟨h0, rfl⟩ : ∃ h0, h = h0 + 1 := ⟨h - 1, by omega⟩
                  show _ = bI (zoB (za F p) (zY F e h0) || zoB (zb F p) (zY F e h0))
                  first
                    | (rw [show zoB (za F p) (zY F e h0) = true from h257]; rfl)
                    | (rw [show zoB (za F p) (zY F e h0) = false from h257, show zoB (zb F p) (zY F e h0) = true from h273]; rfl)
                    | (rw [show zoB (za F p) (zY F e h0) = false from h257, show zoB (zb F p) (zY F e h0) = false from h273]; rfl)
                · rw [if_neg (by omega)]; exact hJ.2.2 i (by omega)
      refine vq_iconst (v := 0) d_M_look_224 (by decide) ?_
      refine vq_istore_n (lv' := [(3, _), (2, _), (1, _), (0, _)]) d_M_look_225 (by decide) rfl ?_
      exact loopB2 (zn F) 0 _ rfl ⟨by omega, hI.2.2, fun i hi => by omega⟩
  have loopA : ∀ (n9 : Nat) (i : Nat) (g1 : Sg), i = n9 → (i ≤ zn F ∧ FrL g g1 ∧ g1.1 67 9 = nI e ∧ g1.2 67 15 = lN (zsp (zfa F e) (zn F - i) i) ∧ ∀ c, i ≤ c → c < zn F → g1.1 75 c = bI (zl F e c) ∧ g1.1 76 c = nI (zB F e c) ∧ g1.1 77 c = bI (zX F e c)) → Vq l b id D m_M_look false 85 kT (fun v g' => v = none ∧ LM g' F e ∧ FrL g g') 85 kT (fun _ _ => False) 85 kT 0 0 17 [(2, .int (nI i - 1)), (0, .ref (b + 67)), (1, .int (nI e))] [] g1 := by
    intro n9
    induction n9 using Nat.strongRecOn with
    | ind n9 ih =>
    intro i g1 hm9 hI
    have hi0 := hI.1
    refine vq_iload_n d_M_look_17 rfl ?_
    refine vq_if_lt (tgt := 217) d_M_look_18 (by decide) (fun h18 => ?_) (fun h18 => ?_)
    · have hi : i = 0 := by
        rw [Int32.lt_iff_toInt_lt, tI0] at h18
        by_cases e0 : i = 0
        · exact e0
        · rw [show i = (i - 1) + 1 by omega, dn1, nI_toInt (by omega)] at h18; omega
      subst hi
      refine vq_iconst (v := 1) d_M_look_217 (by decide) ?_
      refine vq_istore_n (lv' := [(2, _), (0, _), (1, _)]) d_M_look_218 (by decide) rfl ?_
      refine vq_pk [0, 2, 1] (lv' := [(2, _), (1, _), (0, _)]) rfl ?_
      refine loopB 3 1 _ rfl ⟨by decide, by decide, hI.2.1, hI.2.2.1, ?_, fun p hp => (hI.2.2.2.2 p (by omega) hp).1, fun p hp => (hI.2.2.2.2 p (by omega) hp).2.1, fun i hi p hp => ?_⟩
      · rw [hI.2.2.2.1, Nat.sub_zero, zsp_all]; rfl
      · have : i = 0 := by omega
        subst this
        rw [Nat.mul_zero, Nat.zero_add]
        exact (hI.2.2.2.2 p (by omega) hp).2.2
    · have hi : 0 < i := by
        rcases Nat.eq_zero_or_pos i with e0 | e0
        · subst e0; exact absurd (by decide) h18
        · exact e0
      obtain ⟨p, rfl⟩ : ∃ p, i = p + 1 := ⟨i - 1, by omega⟩
      rw [dn1 p]
      have hm1 := hI.2.1.hm hm
      have hpn : p < zn F := by omega
      have loopA2 : ∀ (n8 : Nat) (c : Nat), zn F - c = n8 → (p < c ∧ c ≤ zn F) → Vq l b id D m_M_look false 85 kT (fun v g' => v = none ∧ LM g' F e ∧ FrL g g') 85 kT (fun _ _ => False) 85 kT 0 0 86 [(3, .int (nI c)), (2, .int (nI p)), (1, .int (nI e)), (0, .ref (b + 67))] [] (sI (sI g1 75 (upd (g1.1 75) p (bI (zl F e p)))) 76 (upd (g1.1 76) p (nI (zkn F e p c)))) := by
        intro n8
        induction n8 using Nat.strongRecOn with
        | ind n8 ih8 =>
        intro c hm8 hC
        refine vq_iload_n d_M_look_86 rfl ?_
        refine vq_aload_n d_M_look_87 rfl ?_
        refine vq_getI (k := 1) (C := R_M) (T := T_M) d_M_look_88 rfl in_M w_656 (by decide) rfl (by decide) rfl ?_
        refine vq_int (y := nI (zn F)) hm1.1 ?_
        refine vq_icmp_ge (tgt := 141) d_M_look_91 (by decide) (fun h91 => ?_) (fun h91 => ?_)
        · have hcn : c = zn F := by
            rw [nI_leI (by omega) (by omega)] at h91
            omega
          subst hcn
          refine vq_aload_n d_M_look_141 rfl ?_
          refine vq_getR (k := 12) (C := R_M) (T := T_M) d_M_look_142 rfl in_M w_667 (by decide) rfl (by decide) rfl rfl ?_
          refine vq_iload_n d_M_look_145 rfl ?_
          refine vq_aload_n d_M_look_146 rfl ?_
          refine vq_getR (k := 10) (C := R_M) (T := T_M) d_M_look_147 rfl in_M w_665 (by decide) rfl (by decide) rfl rfl ?_
          refine vq_iload_n d_M_look_150 rfl ?_
          refine vq_zald d_M_look_151 (by decide) rfl rfl (show _ < 20 by omega) ?_
          refine vq_int (y := bI (zl F e p)) (by show upd (g1.1 75) p _ p = _; rw [upd, if_pos rfl]) ?_
          refine vq_if_ne (tgt := 164) d_M_look_152 (by decide) (fun h152 => ?_) (fun h152 => ?_)
          · rw [bI_n0] at h152
            refine vq_iconst (v := 1) d_M_look_164 (by decide) ?_
            refine vq_goto (tgt := 169) d_M_look_165 (by decide) ?_
            refine vq_zast d_M_look_169 rfl (by decide) rfl rfl (show _ < 80 by omega) (by first | exact Or.inl rfl | exact Or.inr rfl | assumption) ?_
            refine vq_aload_n d_M_look_170 rfl ?_
            refine vq_aload_n d_M_look_171 rfl ?_
            refine vq_getR (k := 10) (C := R_M) (T := T_M) d_M_look_172 rfl in_M w_665 (by decide) rfl (by decide) rfl rfl ?_
            refine vq_iload_n d_M_look_175 rfl ?_
            refine vq_zald d_M_look_176 (by decide) rfl rfl (show _ < 20 by omega) ?_
            refine vq_int (y := bI (zl F e p)) (by show upd (g1.1 75) p _ p = _; rw [upd, if_pos rfl]) ?_
            refine vq_if_ne (tgt := 204) d_M_look_177 (by decide) (fun h177 => ?_) (fun h177 => absurd h177 (by rw [h152]; decide))
            refine vq_aload_n d_M_look_204 rfl ?_
            refine vq_getJ (k := 15) (C := R_M) (T := T_M) d_M_look_205 rfl in_M w_670 (by decide) rfl (by decide) rfl ?_
            refine vq_long (y := lN (zsp (zfa F e) (zn F - (p + 1)) (p + 1))) hI.2.2.2.1 ?_
            refine vq_putJ (k := 15) (C := R_M) (T := T_M) t_M d_M_look_208 rfl in_M w_670 ty_M nm_M (by decide) rfl (by decide) rfl (by decide +kernel) rfl ?_
            refine vq_iinc (k := 1) (lv' := [(2, _), (3, _), (1, _), (0, _)]) d_M_look_211 rfl (im1 _) (by decide) rfl ?_
            refine vq_goto (tgt := 17) d_M_look_214 (by decide) ?_
            refine vq_pk [0, 3, 2] (lv' := [(2, _), (0, _), (1, _)]) rfl ?_
            have hX := zX_eq F e hpn
            have hfa : zfa F e p = 1 := by unfold zfa; rw [h152]; rfl
            refine ih p (by omega) p _ rfl ⟨by omega, (((hI.2.1.sq (by omega) _).sq (by omega) _).sq (by omega) _).j67 _, hI.2.2.1, ?_, fun c h1 h2 => ?_⟩
            · rw [show zn F - p = (zn F - (p + 1)) + 1 by omega]
              show _ = lN (zfa F e p * zsp (zfa F e) (zn F - (p + 1)) (p + 1))
              rw [hfa, Nat.one_mul]
              rw [sJ_s]
              exact vps _ _ _
            · by_cases e1 : c = p
              · rw [e1]
                refine ⟨by show upd (g1.1 75) p _ p = _; rw [upd, if_pos rfl], by show upd (g1.1 76) p _ p = _; rw [upd, if_pos rfl]; rfl, ?_⟩
                show upd (g1.1 77) p _ p = _
                rw [upd, if_pos rfl, hX]
                first
                  | (rw [h152]; rfl)
                  | (rw [h152, decide_eq_true (by omega)]; rfl)
                  | (rw [h152, decide_eq_false (by omega)]; rfl)
              · obtain ⟨a1, a2, a3⟩ := hI.2.2.2.2 c (by omega) h2
                refine ⟨by show upd (g1.1 75) p _ c = _; rw [upd, if_neg e1]; exact a1, by show upd (g1.1 76) p _ c = _; rw [upd, if_neg e1]; exact a2, by show upd (g1.1 77) p _ c = _; rw [upd, if_neg e1]; exact a3⟩
          · rw [bI_0] at h152
            refine vq_aload_n d_M_look_155 rfl ?_
            refine vq_getR (k := 11) (C := R_M) (T := T_M) d_M_look_156 rfl in_M w_666 (by decide) rfl (by decide) rfl rfl ?_
            refine vq_iload_n d_M_look_159 rfl ?_
            refine vq_iald d_M_look_160 (by decide) rfl rfl (show _ < 20 by omega) ?_
            refine vq_int (y := nI (zB F e p)) (by show upd (g1.1 76) p _ p = _; rw [upd, if_pos rfl]; rfl) ?_
            refine vq_if_le (tgt := 168) d_M_look_161 (by decide) (fun h161 => ?_) (fun h161 => ?_)
            · rw [nI_n0 (by have := zB_le (F := F) (e := e) p; omega)] at h161
              refine vq_iconst (v := 0) d_M_look_168 (by decide) ?_
              refine vq_zast d_M_look_169 rfl (by decide) rfl rfl (show _ < 80 by omega) (by first | exact Or.inl rfl | exact Or.inr rfl | assumption) ?_
              refine vq_aload_n d_M_look_170 rfl ?_
              refine vq_aload_n d_M_look_171 rfl ?_
              refine vq_getR (k := 10) (C := R_M) (T := T_M) d_M_look_172 rfl in_M w_665 (by decide) rfl (by decide) rfl rfl ?_
              refine vq_iload_n d_M_look_175 rfl ?_
              refine vq_zald d_M_look_176 (by decide) rfl rfl (show _ < 20 by omega) ?_
              refine vq_int (y := bI (zl F e p)) (by show upd (g1.1 75) p _ p = _; rw [upd, if_pos rfl]) ?_
              refine vq_if_ne (tgt := 204) d_M_look_177 (by decide) (fun h177 => absurd h177 (fun h => h (by rw [h152]; rfl))) (fun h177 => ?_)
              refine vq_aload_n d_M_look_180 rfl ?_
              refine vq_getR (k := 11) (C := R_M) (T := T_M) d_M_look_181 rfl in_M w_666 (by decide) rfl (by decide) rfl rfl ?_
              refine vq_iload_n d_M_look_184 rfl ?_
              refine vq_iald d_M_look_185 (by decide) rfl rfl (show _ < 20 by omega) ?_
              refine vq_int (y := nI (zB F e p)) (by show upd (g1.1 76) p _ p = _; rw [upd, if_pos rfl]; rfl) ?_
              refine vq_if_le (tgt := 204) d_M_look_186 (by decide) (fun h186 => ?_) (fun h186 => absurd h186 (fun h => h (by rw [nI_n0 (by omega)]; omega)))
              refine vq_aload_n d_M_look_204 rfl ?_
              refine vq_getJ (k := 15) (C := R_M) (T := T_M) d_M_look_205 rfl in_M w_670 (by decide) rfl (by decide) rfl ?_
              refine vq_long (y := lN (zsp (zfa F e) (zn F - (p + 1)) (p + 1))) hI.2.2.2.1 ?_
              refine vq_putJ (k := 15) (C := R_M) (T := T_M) t_M d_M_look_208 rfl in_M w_670 ty_M nm_M (by decide) rfl (by decide) rfl (by decide +kernel) rfl ?_
              refine vq_iinc (k := 1) (lv' := [(2, _), (3, _), (1, _), (0, _)]) d_M_look_211 rfl (im1 _) (by decide) rfl ?_
              refine vq_goto (tgt := 17) d_M_look_214 (by decide) ?_
              refine vq_pk [0, 3, 2] (lv' := [(2, _), (0, _), (1, _)]) rfl ?_
              have hX := zX_eq F e hpn
              have hfa : zfa F e p = 1 := by unfold zfa; rw [h152, decide_eq_false (by omega)]; rfl
              refine ih p (by omega) p _ rfl ⟨by omega, (((hI.2.1.sq (by omega) _).sq (by omega) _).sq (by omega) _).j67 _, hI.2.2.1, ?_, fun c h1 h2 => ?_⟩
              · rw [show zn F - p = (zn F - (p + 1)) + 1 by omega]
                show _ = lN (zfa F e p * zsp (zfa F e) (zn F - (p + 1)) (p + 1))
                rw [hfa, Nat.one_mul]
                rw [sJ_s]
                exact vps _ _ _
              · by_cases e1 : c = p
                · rw [e1]
                  refine ⟨by show upd (g1.1 75) p _ p = _; rw [upd, if_pos rfl], by show upd (g1.1 76) p _ p = _; rw [upd, if_pos rfl]; rfl, ?_⟩
                  show upd (g1.1 77) p _ p = _
                  rw [upd, if_pos rfl, hX]
                  first
                    | (rw [h152]; rfl)
                    | (rw [h152, decide_eq_true (by omega)]; rfl)
                    | (rw [h152, decide_eq_false (by omega)]; rfl)
                · obtain ⟨a1, a2, a3⟩ := hI.2.2.2.2 c (by omega) h2
                  refine ⟨by show upd (g1.1 75) p _ c = _; rw [upd, if_neg e1]; exact a1, by show upd (g1.1 76) p _ c = _; rw [upd, if_neg e1]; exact a2, by show upd (g1.1 77) p _ c = _; rw [upd, if_neg e1]; exact a3⟩
            · rw [nI_n0 (by have := zB_le (F := F) (e := e) p; omega)] at h161
              refine vq_iconst (v := 1) d_M_look_164 (by decide) ?_
              refine vq_goto (tgt := 169) d_M_look_165 (by decide) ?_
              refine vq_zast d_M_look_169 rfl (by decide) rfl rfl (show _ < 80 by omega) (by first | exact Or.inl rfl | exact Or.inr rfl | assumption) ?_
              refine vq_aload_n d_M_look_170 rfl ?_
              refine vq_aload_n d_M_look_171 rfl ?_
              refine vq_getR (k := 10) (C := R_M) (T := T_M) d_M_look_172 rfl in_M w_665 (by decide) rfl (by decide) rfl rfl ?_
              refine vq_iload_n d_M_look_175 rfl ?_
              refine vq_zald d_M_look_176 (by decide) rfl rfl (show _ < 20 by omega) ?_
              refine vq_int (y := bI (zl F e p)) (by show upd (g1.1 75) p _ p = _; rw [upd, if_pos rfl]) ?_
              refine vq_if_ne (tgt := 204) d_M_look_177 (by decide) (fun h177 => absurd h177 (fun h => h (by rw [h152]; rfl))) (fun h177 => ?_)
              refine vq_aload_n d_M_look_180 rfl ?_
              refine vq_getR (k := 11) (C := R_M) (T := T_M) d_M_look_181 rfl in_M w_666 (by decide) rfl (by decide) rfl rfl ?_
              refine vq_iload_n d_M_look_184 rfl ?_
              refine vq_iald d_M_look_185 (by decide) rfl rfl (show _ < 20 by omega) ?_
              refine vq_int (y := nI (zB F e p)) (by show upd (g1.1 76) p _ p = _; rw [upd, if_pos rfl]; rfl) ?_
              refine vq_if_le (tgt := 204) d_M_look_186 (by decide) (fun h186 => absurd h186 (fun h => h161 ((nI_n0 (by have := zB_le (F := F) (e := e) p; omega)).mp h))) (fun h186 => ?_)
              refine vq_aload_n d_M_look_189 rfl ?_
              refine vq_getJ (k := 15) (C := R_M) (T := T_M) d_M_look_190 rfl in_M w_670 (by decide) rfl (by decide) rfl ?_
              refine vq_long (y := lN (zsp (zfa F e) (zn F - (p + 1)) (p + 1))) hI.2.2.2.1 ?_
              refine vq_aload_n d_M_look_193 rfl ?_
              refine vq_getR (k := 11) (C := R_M) (T := T_M) d_M_look_194 rfl in_M w_666 (by decide) rfl (by decide) rfl rfl ?_
              refine vq_iload_n d_M_look_197 rfl ?_
              refine vq_iald d_M_look_198 (by decide) rfl rfl (show _ < 20 by omega) ?_
              refine vq_int (y := nI (zB F e p)) (by show upd (g1.1 76) p _ p = _; rw [upd, if_pos rfl]; rfl) ?_
              refine vq_i2l d_M_look_199 (nI_l (by have := zB_le (F := F) (e := e) p; omega)) ?_
              refine vq_lmul d_M_look_200 ?_
              rw [lN_mul]
              refine vq_goto (tgt := 208) d_M_look_201 (by decide) ?_
              refine vq_putJ (k := 15) (C := R_M) (T := T_M) t_M d_M_look_208 rfl in_M w_670 ty_M nm_M (by decide) rfl (by decide) rfl (by decide +kernel) rfl ?_
              refine vq_iinc (k := 1) (lv' := [(2, _), (3, _), (1, _), (0, _)]) d_M_look_211 rfl (im1 _) (by decide) rfl ?_
              refine vq_goto (tgt := 17) d_M_look_214 (by decide) ?_
              refine vq_pk [0, 3, 2] (lv' := [(2, _), (0, _), (1, _)]) rfl ?_
              have hX := zX_eq F e hpn
              have hfa : zfa F e p = zB F e p := by unfold zfa; rw [h152, decide_eq_true (by omega)]; rfl
              refine ih p (by omega) p _ rfl ⟨by omega, (((hI.2.1.sq (by omega) _).sq (by omega) _).sq (by omega) _).j67 _, hI.2.2.1, ?_, fun c h1 h2 => ?_⟩
              · rw [show zn F - p = (zn F - (p + 1)) + 1 by omega]
                show _ = lN (zfa F e p * zsp (zfa F e) (zn F - (p + 1)) (p + 1))
                rw [hfa, Nat.mul_comm]
                rw [sJ_s]
                exact vps _ _ _
              · by_cases e1 : c = p
                · rw [e1]
                  refine ⟨by show upd (g1.1 75) p _ p = _; rw [upd, if_pos rfl], by show upd (g1.1 76) p _ p = _; rw [upd, if_pos rfl]; rfl, ?_⟩
                  show upd (g1.1 77) p _ p = _
                  rw [upd, if_pos rfl, hX]
                  first
                    | (rw [h152]; rfl)
                    | (rw [h152, decide_eq_true (by omega)]; rfl)
                    | (rw [h152, decide_eq_false (by omega)]; rfl)
                · obtain ⟨a1, a2, a3⟩ := hI.2.2.2.2 c (by omega) h2
                  refine ⟨by show upd (g1.1 75) p _ c = _; rw [upd, if_neg e1]; exact a1, by show upd (g1.1 76) p _ c = _; rw [upd, if_neg e1]; exact a2, by show upd (g1.1 77) p _ c = _; rw [upd, if_neg e1]; exact a3⟩
        · have hcn : c < zn F := by
            rw [nI_leI (by omega) (by omega)] at h91
            omega
          refine vq_aload_n d_M_look_94 rfl ?_
          refine vq_getR (k := 11) (C := R_M) (T := T_M) d_M_look_95 rfl in_M w_666 (by decide) rfl (by decide) rfl rfl ?_
          refine vq_iload_n d_M_look_98 rfl ?_
          refine vq_aload_n d_M_look_99 rfl ?_
          refine vq_iload_n d_M_look_100 rfl ?_
          refine vq_iload_n d_M_look_101 rfl ?_
          refine vq_callV (n := 2) (C := R_M) (T := T_M) _ _ d_M_look_102 (ct_M_isChild l b id D hW (hm1.congr (g' := (sI (sI g1 75 (upd (g1.1 75) p (bI (zl F e p)))) 76 (upd (g1.1 76) p (nI (zkn F e p c))))) rfl (fun q h1 h2 => by rw [sI_n (by omega), sI_n (by omega)])) hcn (show p < zn F by omega)) w_790 w_792 sel_M_isChild w_793 w_7 rfl ⟨by decide, by decide, by decide +kernel⟩ ⟨by decide, by decide⟩ (by decide) rfl rfl rfl rfl (Nat.le_of_ble_eq_true rfl) rfl rfl rfl ⟨by decide, by decide⟩ (fun _ _ h => h.elim) (fun v102 g102 h102 => ?_)
          rw [h102.1, h102.2]
          refine vq_if_eq (tgt := 128) d_M_look_105 (by decide) (fun h105 => ?_) (fun h105 => ?_)
          · rw [bI_0] at h105
            have hk9 : zkn F e p (c + 1) = zkn F e p c := by
              show zkn F e p c + (if zk F e p c = true then 1 else 0) = _
              unfold zk
              rw [h105]
              simp
            refine vq_aload_n d_M_look_128 rfl ?_
            refine vq_getR (k := 11) (C := R_M) (T := T_M) d_M_look_129 rfl in_M w_666 (by decide) rfl (by decide) rfl rfl ?_
            refine vq_iload_n d_M_look_132 rfl ?_
            refine vq_iald d_M_look_133 (by decide) rfl rfl (show _ < 20 by omega) ?_
            refine vq_int (y := nI (zkn F e p c)) (by rw [sI_s, upd, if_pos rfl]) ?_
            refine vq_iast d_M_look_134 rfl (by decide) rfl rfl (show _ < 20 by omega) ?_
            rw [sI_s, sI_sI, upd_upd]
            refine vq_iinc (k := 0) (lv' := [(3, _), (2, _), (1, _), (0, _)]) d_M_look_135 rfl (ip1 c) (by decide) rfl ?_
            refine vq_goto (tgt := 86) d_M_look_138 (by decide) ?_
            rw [← hk9]
            exact ih8 (zn F - (c + 1)) (by omega) (c + 1) rfl ⟨by omega, by omega⟩
          · rw [bI_n0] at h105
            refine vq_aload_n d_M_look_108 rfl ?_
            refine vq_getR (k := 12) (C := R_M) (T := T_M) d_M_look_109 rfl in_M w_667 (by decide) rfl (by decide) rfl rfl ?_
            refine vq_iload_n d_M_look_112 rfl ?_
            refine vq_zald d_M_look_113 (by decide) rfl rfl (show _ < 80 by omega) ?_
            refine vq_int (y := bI (zX F e c)) (hI.2.2.2.2 c (by omega) hcn).2.2 ?_
            refine vq_if_eq (tgt := 128) d_M_look_114 (by decide) (fun h114 => ?_) (fun h114 => ?_)
            · rw [bI_0] at h114
              have hk9 : zkn F e p (c + 1) = zkn F e p c := by
                show zkn F e p c + (if zk F e p c = true then 1 else 0) = _
                unfold zk
                rw [h114]
                simp
              refine vq_aload_n d_M_look_128 rfl ?_
              refine vq_getR (k := 11) (C := R_M) (T := T_M) d_M_look_129 rfl in_M w_666 (by decide) rfl (by decide) rfl rfl ?_
              refine vq_iload_n d_M_look_132 rfl ?_
              refine vq_iald d_M_look_133 (by decide) rfl rfl (show _ < 20 by omega) ?_
              refine vq_int (y := nI (zkn F e p c)) (by rw [sI_s, upd, if_pos rfl]) ?_
              refine vq_iast d_M_look_134 rfl (by decide) rfl rfl (show _ < 20 by omega) ?_
              rw [sI_s, sI_sI, upd_upd]
              refine vq_iinc (k := 0) (lv' := [(3, _), (2, _), (1, _), (0, _)]) d_M_look_135 rfl (ip1 c) (by decide) rfl ?_
              refine vq_goto (tgt := 86) d_M_look_138 (by decide) ?_
              rw [← hk9]
              exact ih8 (zn F - (c + 1)) (by omega) (c + 1) rfl ⟨by omega, by omega⟩
            · rw [bI_n0] at h114
              have hk9 : zkn F e p (c + 1) = zkn F e p c + 1 := by
                show zkn F e p c + (if zk F e p c = true then 1 else 0) = _
                unfold zk
                rw [h105, h114]
                simp [hC.1]
              refine vq_aload_n d_M_look_117 rfl ?_
              refine vq_getR (k := 11) (C := R_M) (T := T_M) d_M_look_118 rfl in_M w_666 (by decide) rfl (by decide) rfl rfl ?_
              refine vq_iload_n d_M_look_121 rfl ?_
              refine vq_iald d_M_look_122 (by decide) rfl rfl (show _ < 20 by omega) ?_
              refine vq_int (y := nI (zkn F e p c)) (by rw [sI_s, upd, if_pos rfl]) ?_
              refine vq_iconst (v := 1) d_M_look_123 (by decide) ?_
              refine vq_iadd d_M_look_124 ?_
              rw [show nI (zkn F e p c) + 1 = nI (zkn F e p c + 1) from nI_1 _]
              refine vq_goto (tgt := 134) d_M_look_125 (by decide) ?_
              refine vq_iast d_M_look_134 rfl (by decide) rfl rfl (show _ < 20 by omega) ?_
              rw [sI_s, sI_sI, upd_upd]
              refine vq_iinc (k := 0) (lv' := [(3, _), (2, _), (1, _), (0, _)]) d_M_look_135 rfl (ip1 c) (by decide) rfl ?_
              refine vq_goto (tgt := 86) d_M_look_138 (by decide) ?_
              rw [← hk9]
              exact ih8 (zn F - (c + 1)) (by omega) (c + 1) rfl ⟨by omega, by omega⟩
      have s74 : ∀ (v : Int32), v = bI (zl F e p) → Vq l b id D m_M_look false 85 kT (fun v g' => v = none ∧ LM g' F e ∧ FrL g g') 85 kT (fun _ _ => False) 85 kT 0 0 74 [(2, .int (nI p)), (0, .ref (b + 67)), (1, .int (nI e))] [.int v, .int (nI p), .ref (b + 75)] g1 := by
        intro v hv
        subst hv
        refine vq_zast d_M_look_74 rfl (by decide) rfl rfl (show _ < 20 by omega) (bI_01 _) ?_
        refine vq_aload_n d_M_look_75 rfl ?_
        refine vq_getR (k := 11) (C := R_M) (T := T_M) d_M_look_76 rfl in_M w_666 (by decide) rfl (by decide) rfl rfl ?_
        refine vq_iload_n d_M_look_79 rfl ?_
        refine vq_iconst (v := 0) d_M_look_80 (by decide) ?_
        refine vq_iast d_M_look_81 rfl (by decide) rfl rfl (show _ < 20 by omega) ?_
        refine vq_iload_n d_M_look_82 rfl ?_
        refine vq_iconst (v := 1) d_M_look_83 (by decide) ?_
        refine vq_iadd d_M_look_84 ?_
        rw [show nI p + 1 = nI (p + 1) from nI_1 p]
        refine vq_istore_n (lv' := [(3, _), (2, _), (0, _), (1, _)]) d_M_look_85 (by decide) rfl ?_
        refine vq_pk [0, 1, 3, 2] (lv' := [(3, _), (2, _), (1, _), (0, _)]) rfl ?_
        have h0 := zkn_0 F e p (p + 1) (Nat.le_refl _)
        have h9 := loopA2 (zn F - (p + 1)) (p + 1) rfl ⟨by omega, by omega⟩
        rw [h0] at h9
        exact h9
      refine vq_aload_n d_M_look_21 rfl ?_
      refine vq_getR (k := 10) (C := R_M) (T := T_M) d_M_look_22 rfl in_M w_665 (by decide) rfl (by decide) rfl rfl ?_
      refine vq_iload_n d_M_look_25 rfl ?_
      refine vq_iload_n d_M_look_26 rfl ?_
      refine vq_iload_n d_M_look_27 rfl ?_
      refine vq_icmp_eq (tgt := 73) d_M_look_28 (by decide) (fun h28 => ?_) (fun h28 => ?_)
      · rw [nI_eq (by omega) (by omega)] at h28
        refine vq_iconst (v := 0) d_M_look_73 (by decide) ?_
        refine s74 _ ?_
        unfold zl zlt
        first
          | (rw [h28]; simp [bI]; done)
          | (rw [h42]; simp [bI]; done)
          | (rw [h28b, h42, h51]; rfl)
          | (rw [h28b, h42, ht, hu]; show _ = bI (!false && !false && decide (u < t)); rw [decide_eq_true h67]; rfl)
          | (rw [h28b, h42, ht, hu]; show _ = bI (!false && !false && decide (u < t)); rw [decide_eq_false h67]; rfl)
      · rw [nI_eq (by omega) (by omega)] at h28
        have h28b : (p == e) = false := by simp [h28]
        refine vq_aload_n d_M_look_31 rfl ?_
        refine vq_getR (k := 8) (C := R_M) (T := T_M) d_M_look_32 rfl in_M w_663 (by decide) rfl (by decide) rfl rfl ?_
        refine vq_bipush (v := 20) d_M_look_35 (by decide) ?_
        refine vq_iload_n d_M_look_37 rfl ?_
        refine vq_imul d_M_look_38 ?_
        refine vq_iload_n d_M_look_39 rfl ?_
        refine vq_iadd d_M_look_40 ?_
        rw [ix20m]
        refine vq_zald d_M_look_41 (by decide) rfl rfl (show _ < 400 by omega) ?_
        refine vq_int (y := bI (zx F p e)) (hm1.2.2.2.2.2.2.2 p e (by omega) (by omega)) ?_
        refine vq_if_ne (tgt := 73) d_M_look_42 (by decide) (fun h42 => ?_) (fun h42 => ?_)
        · rw [bI_n0] at h42
          refine vq_iconst (v := 0) d_M_look_73 (by decide) ?_
          refine s74 _ ?_
          unfold zl zlt
          first
            | (rw [h28]; simp [bI]; done)
            | (rw [h42]; simp [bI]; done)
            | (rw [h28b, h42, h51]; rfl)
            | (rw [h28b, h42, ht, hu]; show _ = bI (!false && !false && decide (u < t)); rw [decide_eq_true h67]; rfl)
            | (rw [h28b, h42, ht, hu]; show _ = bI (!false && !false && decide (u < t)); rw [decide_eq_false h67]; rfl)
        · rw [bI_0] at h42
          refine vq_aload_n d_M_look_45 rfl ?_
          refine vq_getR (k := 5) (C := R_M) (T := T_M) d_M_look_46 rfl in_M w_660 (by decide) rfl (by decide) rfl rfl ?_
          refine vq_iload_n d_M_look_49 rfl ?_
          refine vq_iald d_M_look_50 (by decide) rfl rfl (show _ < 20 by omega) ?_
          refine vq_int (y := eO (zd F p)) (hm1.2.2.2.2.1 p (by omega)) ?_
          refine vq_if_lt (tgt := 69) d_M_look_51 (by decide) (fun h51 => ?_) (fun h51 => ?_)
          · rw [eO_neg (zd_lt hW hpn)] at h51
            refine vq_iconst (v := 1) d_M_look_69 (by decide) ?_
            refine vq_goto (tgt := 74) d_M_look_70 (by decide) ?_
            refine s74 _ ?_
            unfold zl zlt
            first
              | (rw [h28]; simp [bI]; done)
              | (rw [h42]; simp [bI]; done)
              | (rw [h28b, h42, h51]; rfl)
              | (rw [h28b, h42, ht, hu]; show _ = bI (!false && !false && decide (u < t)); rw [decide_eq_true h67]; rfl)
              | (rw [h28b, h42, ht, hu]; show _ = bI (!false && !false && decide (u < t)); rw [decide_eq_false h67]; rfl)
          · rw [eO_neg (zd_lt hW hpn)] at h51
            obtain ⟨t, ht⟩ := Option.ne_none_iff_exists'.mp h51
            have ht9 := hW.2.2.2.2.2.1 p t hpn ht
            refine vq_aload_n d_M_look_54 rfl ?_
            refine vq_getR (k := 5) (C := R_M) (T := T_M) d_M_look_55 rfl in_M w_660 (by decide) rfl (by decide) rfl rfl ?_
            refine vq_iload_n d_M_look_58 rfl ?_
            refine vq_iald d_M_look_59 (by decide) rfl rfl (show _ < 20 by omega) ?_
            refine vq_int (y := eO (zd F p)) (hm1.2.2.2.2.1 p (by omega)) ?_
            refine vq_aload_n d_M_look_60 rfl ?_
            refine vq_getR (k := 5) (C := R_M) (T := T_M) d_M_look_61 rfl in_M w_660 (by decide) rfl (by decide) rfl rfl ?_
            refine vq_iload_n d_M_look_64 rfl ?_
            refine vq_iald d_M_look_65 (by decide) rfl rfl (show _ < 20 by omega) ?_
            refine vq_int (y := eO (zd F e)) (hm1.2.2.2.2.1 e he) ?_
            refine vq_icmp_le (tgt := 73) d_M_look_66 (by decide) (fun h66 => ?_) (fun h66 => ?_)
            · rw [ht, hu, show eO (some t) = nI t from rfl, show eO (some u) = nI u from rfl, nI_leI (by omega) (by omega)] at h66
              have h67 : ¬ u < t := by omega
              refine vq_iconst (v := 0) d_M_look_73 (by decide) ?_
              refine s74 _ ?_
              unfold zl zlt
              first
                | (rw [h28]; simp [bI]; done)
                | (rw [h42]; simp [bI]; done)
                | (rw [h28b, h42, h51]; rfl)
                | (rw [h28b, h42, ht, hu]; show _ = bI (!false && !false && decide (u < t)); rw [decide_eq_true h67]; rfl)
                | (rw [h28b, h42, ht, hu]; show _ = bI (!false && !false && decide (u < t)); rw [decide_eq_false h67]; rfl)
            · rw [ht, hu, show eO (some t) = nI t from rfl, show eO (some u) = nI u from rfl, nI_leI (by omega) (by omega)] at h66
              have h67 : u < t := by omega
              refine vq_iconst (v := 1) d_M_look_69 (by decide) ?_
              refine vq_goto (tgt := 74) d_M_look_70 (by decide) ?_
              refine s74 _ ?_
              unfold zl zlt
              first
                | (rw [h28]; simp [bI]; done)
                | (rw [h42]; simp [bI]; done)
                | (rw [h28b, h42, h51]; rfl)
                | (rw [h28b, h42, ht, hu]; show _ = bI (!false && !false && decide (u < t)); rw [decide_eq_true h67]; rfl)
                | (rw [h28b, h42, ht, hu]; show _ = bI (!false && !false && decide (u < t)); rw [decide_eq_false h67]; rfl)
  refine vq_aload_n d_M_look_0 rfl ?_
  refine vq_iload_n d_M_look_1 rfl ?_
  refine vq_putI (k := 9) (C := R_M) (T := T_M) (ty := .int) t_M d_M_look_2 rfl in_M w_664 ty_M nm_M (by decide) rfl (by decide) rfl (by decide +kernel) rfl rfl rfl ?_
  refine vq_aload_n d_M_look_5 rfl ?_
  refine vq_lconst (v := 1) d_M_look_6 rfl ?_
  refine vq_putJ (k := 15) (C := R_M) (T := T_M) t_M d_M_look_7 rfl in_M w_670 ty_M nm_M (by decide) rfl (by decide) rfl (by decide +kernel) rfl ?_
  refine vq_aload_n d_M_look_10 rfl ?_
  refine vq_getI (k := 1) (C := R_M) (T := T_M) d_M_look_11 rfl in_M w_656 (by decide) rfl (by decide) rfl ?_
  refine vq_int (y := nI (zn F)) hm.1 ?_
  refine vq_iconst (v := 1) d_M_look_14 (by decide) ?_
  refine vq_isub d_M_look_15 ?_
  refine vq_istore_n (lv' := [(2, _), (0, _), (1, _)]) d_M_look_16 (by decide) rfl ?_
  refine loopA (zn F) (zn F) _ rfl ⟨Nat.le_refl _, ((FrL.rf g).s67 (by decide) _).j67 _, rfl, ?_, fun c h1 h2 => by omega⟩
  show vp_updL (g.2 67) 15 _ 15 = _
  rw [vp_updL, if_pos rfl, Nat.sub_self]
  rfl
