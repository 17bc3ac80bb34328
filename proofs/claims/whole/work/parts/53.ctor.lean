/-! Constructors called: Object's own, and ours -/
section Ct
variable {l : Launch} {b : Nat} {id : Nat → ClassId} {D : va_G} {M : Mt} {z : Bool} {NE : Nat} {KE : Nat → Nat → Bool} {post : Option Value → Sg → Prop} {NX : Nat} {KX : Nat → Nat → Bool} {px : String → Sg → Prop} {N : Nat} {K : Nat → Nat → Bool} {ce sl pc : Nat} {lv : List (Nat × Value)} {st : List Value} {g : Sg}
theorem vq_obj {a index : Nat} (hd : decode (mC M) pc = .ok (.invokespecial index, 3)) (hlk : Cond.methodLink (mO M) index Lib.objectInit ∈ TT) (hins : Cond.instanceMethod Lib.objectInit ∈ TT) (hcd : Cond.code Lib.objectInit ⟨#[0xb1]⟩ 1 none ∈ TT) (hfr : 1 ≤ (mR M).frames) (hlo : 2 * 0 + (st.map fun v => v.category).sum + 12 ≤ (mR M).locals)
    (kk : Vq l b id D M z NE KE post NX KX px N K ce sl (pc + 3) lv st g) : Vq l b id D M z NE KE post NX KX px N K ce sl pc lv (.ref a :: st) g := by
  intro p e s m args below meth c X H locs ls hP hS hl hz
  exact W.objInit X.1 X.2.1 X.2.2.2.1 (X.2.2.2.2.1 _ hlk) (X.2.2.2.2.1 _ hins) (X.2.2.2.2.1 _ hcd) (g := F0 m pc ls (.ref a :: st)) rfl (hl.1.trans X.2.2.1.symm) rfl hd hfr hlo (kk p e s m args below meth c X H locs ls hP hS hl hz)
/-- a constructor of ours, that throws nothing -/
theorem vq_callI {M' : Mt} {q index n : Nat} (As rest : List Value) {st0 : List Value} {NE' : Nat} {KE' : Nat → Nat → Bool} {post' : Option Value → Sg → Prop} (hd : decode (mC M) pc = .ok (.invokespecial index, 3))
    (hM : qCT l b id D M' z (.ref (b + q) :: As) N K g NE' KE' post' (fun _ _ => False)) (hy1 : (mM M').name = "<init>") (hlk : Cond.methodLink (mO M) index (mM M') ∈ TT) (hinst : Cond.instanceMethod (mM M') ∈ TT) (hcd : Cond.code (mM M') (mC M') (mN M') none ∈ TT) (hini : Cond.initialized (mO M') ∈ TT) (hhM : mH M' = none) (hret : mY M' = none)
    (hdd : (mO M') ≠ "java/lang/invoke/MethodHandle" ∧ (mO M') ≠ "java/lang/invoke/VarHandle" ∧ (parseMethodDescriptor (mM M').desc).map (fun d => d.parameters.length) = some n) (hR : (mR M').frames + 1 ≤ (mR M).frames ∧ 8 + (mN M' + 11) + (mR M').locals ≤ (mR M).locals)
    (hn : As.length = n) (hst : st0 = As.reverse ++ .ref (b + q) :: rest) (hrest : (rest.map fun v => v.category).sum ≤ 8) (hf : ce + (mR M').cells ≤ (mR M).cells ∧ sl + (mR M').slots ≤ (mR M).slots)
    (kk : ∀ v g', post' v g' → Vq l b id D M z NE KE post NX KX px NE' KE' (ce + (mR M').cells) (sl + (mR M').slots) (pc + 3) lv (v.toList ++ rest) g') : Vq l b id D M z NE KE post NX KX px N K ce sl pc lv st0 g := by
  intro p e s m args below meth c X H locs ls hP hS hl hz
  subst hst
  intro T0 hT XS
  have hts := X.2.2.2.2.1
  have hpl : e.platform.magicAccessors = ({} : Platform).magicAccessors := by rw [XS.admits.platform]
  have hw : mW M' ∈ TT := by simp only [mW, hhM, hret]; exact hcd
  obtain ⟨mk, methM, cM, kP, vm₁, hnamed, hmethM, hcodeM, -, hlocalsM, -, hkP, -, hW₁, hstep₁⟩ := Steps.initColdArgs (e := e) XS.here X.1 XS.warmed hpl X.2.2.2.1 hy1 ⟨hdd.1, hdd.2.1⟩ (hts _ hlk) (hts _ hinst) (hts _ hcd) (f := F0 m pc ls (As.reverse ++ .ref (b + q) :: rest)) rfl
    (fun sig h => by have h2 := hdd.2.2; rw [h] at h2; rw [hn]; exact (Option.some.inj h2).symm) rfl (by rw [X.2.1]; exact hd)
  have X₁ := XS.noted hW₁
  obtain ⟨t, a1, b1⟩ := qcall (av := .ref (b + q) :: As) (rest := rest) X hP hS hl hz X₁ hT hM hhM hw hini hR hf hrest (X₁.named hnamed) hd
    (fun T' x E cx g' locs1 XT hp hP1 hS1 h1 h2 h3 => hp.elim)
    (fun v g' T' locs1 XT hp hP1 hS1 hz1 => kk v g' hp p e s m args below meth c X T'.heap locs1 ls hP1 hS1 hl hz1 T' rfl XT)
  exact ⟨t, hstep₁ t (fun acts => by rw [doInvoke_state]; exact a1), b1⟩
/-- the same through the nest's link -/
theorem vq_callIN {M' : Mt} {q index n : Nat} {host : String} (As rest : List Value) {st0 : List Value} {NE' : Nat} {KE' : Nat → Nat → Bool} {post' : Option Value → Sg → Prop} (hd : decode (mC M) pc = .ok (.invokespecial index, 3))
    (hM : qCT l b id D M' z (.ref (b + q) :: As) N K g NE' KE' post' (fun _ _ => False)) (hy1 : (mM M').name = "<init>") (hlk : (mO M, index, mM M', host) ∈ qNest) (hinst : Cond.instanceMethod (mM M') ∈ TT) (hcd : Cond.code (mM M') (mC M') (mN M') none ∈ TT) (hini : Cond.initialized (mO M') ∈ TT) (hhM : mH M' = none) (hret : mY M' = none)
    (hdd : (mO M') ≠ "java/lang/invoke/MethodHandle" ∧ (mO M') ≠ "java/lang/invoke/VarHandle" ∧ (parseMethodDescriptor (mM M').desc).map (fun d => d.parameters.length) = some n) (hR : (mR M').frames + 1 ≤ (mR M).frames ∧ 8 + (mN M' + 11) + (mR M').locals ≤ (mR M).locals)
    (hn : As.length = n) (hst : st0 = As.reverse ++ .ref (b + q) :: rest) (hrest : (rest.map fun v => v.category).sum ≤ 8) (hf : ce + (mR M').cells ≤ (mR M).cells ∧ sl + (mR M').slots ≤ (mR M).slots)
    (kk : ∀ v g', post' v g' → Vq l b id D M z NE KE post NX KX px NE' KE' (ce + (mR M').cells) (sl + (mR M').slots) (pc + 3) lv (v.toList ++ rest) g') : Vq l b id D M z NE KE post NX KX px N K ce sl pc lv st0 g := by
  intro p e s m args below meth c X H locs ls hP hS hl hz
  subst hst
  intro T0 hT XS
  have hts := X.2.2.2.2.1
  have hpl : e.platform.magicAccessors = ({} : Platform).magicAccessors := by rw [XS.admits.platform]
  have hw : mW M' ∈ TT := by simp only [mW, hhM, hret]; exact hcd
  have hnl : (Cond.methodLinkNest (mO M) index (mM M') host).before args s = true := va_Nw.use rfl (X.2.2.2.2.2.2.2.2.2.2.2.2.2.1 _ hlk)
  obtain ⟨mk, methM, cM, kP, vm₁, hnamed, hmethM, hcodeM, -, hlocalsM, -, hkP, -, hW₁, hstep₁⟩ := Steps.initColdArgsNest (e := e) XS.here X.1 XS.warmed hpl X.2.2.2.1 hy1 ⟨hdd.1, hdd.2.1⟩ hnl (hts _ hinst) (hts _ hcd) (f := F0 m pc ls (As.reverse ++ .ref (b + q) :: rest)) rfl
    (fun sig h => by have h2 := hdd.2.2; rw [h] at h2; rw [hn]; exact (Option.some.inj h2).symm) rfl (by rw [X.2.1]; exact hd)
  have X₁ := XS.noted hW₁
  obtain ⟨t, a1, b1⟩ := qcall (av := .ref (b + q) :: As) (rest := rest) X hP hS hl hz X₁ hT hM hhM hw hini hR hf hrest (X₁.named hnamed) hd
    (fun T' x E cx g' locs1 XT hp hP1 hS1 h1 h2 h3 => hp.elim)
    (fun v g' T' locs1 XT hp hP1 hS1 hz1 => kk v g' hp p e s m args below meth c X T'.heap locs1 ls hP1 hS1 hl hz1 T' rfl XT)
  exact ⟨t, hstep₁ t (fun acts => by rw [doInvoke_state]; exact a1), b1⟩
end Ct
