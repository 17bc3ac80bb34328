/-! System.arraycopy of longs, whole from the beginning -/
theorem vq_copy {l : Launch} {b : Nat} {id : Nat → ClassId} {D : va_G} {M : Mt} {z : Bool} {NE : Nat} {KE : Nat → Nat → Bool} {post : Option Value → Sg → Prop} {NX : Nat} {KX : Nat → Nat → Bool} {px : String → Sg → Prop} {N : Nat} {K : Nat → Nat → Bool} {ce sl pc : Nat} {lv : List (Nat × Value)} {st : List Value} {g : Sg} {q0 q1 index : Nat} (n : Nat)
    (hd : decode (mC M) pc = .ok (.invokestatic index, 3)) (hlk : Cond.methodLink (mO M) index arraycopyName ∈ TT) (hnat : Cond.native arraycopyName ∈ TT) (hst : Cond.static arraycopyName ∈ TT) (hini : Cond.initialized "java/lang/System" ∈ TT) (hz0 : z = false) (h0 : q0 < N) (h1 : q1 < N) (k0 : qK q0 = 3) (k1 : qK q1 = 3) (hn0 : n ≤ qL q0) (hn1 : n ≤ qL q1) (hfr : 1 ≤ (mR M).frames) (hlo : (st.map fun v => v.category).sum + (nativeFrameWords "java/lang/System" "arraycopy" 5 + 11) ≤ (mR M).locals)
    (kk : Vq l b id D M z NE KE post NX KX px N K ce sl (pc + 3) lv st (sJ g q1 (va_cpy (g.2 q0) (g.2 q1) 0 0 n))) : Vq l b id D M z NE KE post NX KX px N K ce sl pc lv (.int (nI n) :: .int 0 :: .ref (b + q1) :: .int 0 :: .ref (b + q0) :: st) g := by
  intro p e s m args below meth c X H locs ls hP hS hl hz
  have hts := X.2.2.2.2.1
  have hn31 : n < 2 ^ 31 := Nat.lt_of_le_of_lt hn0 (qL_lt q0)
  have e0 : (0 : Int32).toNatClampNeg = 0 := by decide
  have en : (nI n).toNatClampNeg = n := nI_clamp hn31
  refine va_copyl X.1 X.2.1 (X.2.2.1.trans hl.1.symm) X.2.2.2.1 (hts _ hlk) (hts _ hnat) (hts _ hst) (hts _ hini) X.2.2.2.2.2.2.2.2.2.1 hP (qW_D hz.2) hS q0 q1 2 2 (ty := .long) (by rw [qW_get h0, qE_3 k0]) (by rw [qW_get h1, qE_3 k1]) rfl rfl rfl (by decide) (by decide) (nI_pos hn31) (by rw [e0, en]; omega) (by rw [e0, en]; omega) (fun i _ => rfl) hfr hlo hd (fun H1 locs1 hP1 hD1 hS1 => ?_)
  rw [e0, en, qW_s3 h1 k1] at hP1
  exact kk p e s m args below meth c X H1 locs1 ls hP1 hS1 hl ⟨fun h => (by rw [hz0] at h; cases h), hz.2⟩
