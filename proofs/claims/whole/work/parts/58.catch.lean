/-! What a method throws, caught by its caller: tables of one or two rows, their classes resolved or not. The rows of the search follow the library's for resolved classes, with the tables that the resolving leaves. -/
section Ca
theorem qgo_row {Q : Handler → Pre} {E : CtlPost} {e : Env} {d : Bool} {acts : List Action} {s : State} {f : JFrame} {a : Addr} {x : ExceptionTableEntry} {t : List ExceptionTableEntry} {c : ClassId} {cell : Cell} {k1 k2 : Class} (hx : covers x f.pc = true) (h0 : x.catchType ≠ 0) (hl : s.vm.ClassLinks e.platform f.method.cls x.catchType c) (hcell : s.heap[a]? = some cell) (hv : cell.vm = .none) (hk1 : s.vm.classes[cell.cls]? = some k1) (hk2 : s.vm.classes[c]? = some k2) :
    wp (findHandler.go f a (x :: t)) Q E e d acts s ↔ if s.vm.assignable cell.cls c = true then Q (.found x.handlerPc) d acts (s.setVm (s.vm.noted f.method.cls x.catchType (.cls c))) else wp (findHandler.go f a t) Q E e d acts (s.setVm (s.vm.noted f.method.cls x.catchType (.cls c))) := by
  have hal := (Vm.Alike.refl s.vm).noted f.method.cls x.catchType (Resolved.cls c)
  obtain ⟨r1, e1, -⟩ := hal.2.2 _ _ hk1
  obtain ⟨r2, e2, -⟩ := hal.2.2 _ _ hk2
  obtain ⟨ha, ht⟩ := (resolveClass_links e.toSetting hl).op (op := VmOp.resolveClass f.method.cls x.catchType) rfl
  have hs : ∀ k, cell.vm ≠ .statics k := fun k h => by rw [hv] at h; cases h
  rw [← hal.assignable]
  simp only [covers] at hx
  cases h9 : (s.vm.noted f.method.cls x.catchType (.cls c)).assignable cell.cls c <;> simp [findHandler.go, hx, h0, ha, ht, hcell, hs, e1, e2, h9, VmOp.dirties, VmOp.acts]
/-- the throwing note over a frame whose table takes the object: on at the handler, the tables as the search leaves them -/
theorem qstep_catch {tb : Tables} {e : Env} {s target : State} {g : JFrame} {c : Code} {below : List Frame} {a : Addr} (h : At s g.method c below) {pc : Nat} {vm' : Vm}
    (hfind : ∀ (Q : Handler → Pre) (E : CtlPost) (d : Bool) (acts : List Action), wp (findHandler g a) Q E e d acts ((s.setTop g).pushFrame (.throwing a)) ↔ Q (.found pc) d acts (((s.setTop g).pushFrame (.throwing a)).setVm vm'))
    (hrest : Steps tb e below ((s.setVm vm').setTop { g with pc := pc, stack := [.ref a] }) target) : Steps tb e below ((s.setTop g).pushFrame (.throwing a)) target := by
  obtain ⟨S, hS⟩ : ∃ S, S = (s.setTop g).pushFrame (.throwing a) := ⟨_, rfl⟩
  have hone : ∀ r : List Frame, (stepThrowing e S a (.java g :: r)).Is ((S.setVm vm').setFrames (.java { g with pc := pc, stack := [.ref a] } :: r)) [] := by
    intro r
    rw [← hS] at hfind
    simp only [stepThrowing, searchFrame, vmDo]
    generalize hr : Sem.go _ e false [] S = res
    obtain ⟨as, rfl, ha⟩ := Sem.eq_ok_of hr (a := Handler.found pc) (s' := S.setVm vm') (acts' := []) (by simp [hfind _ _ _ _])
    exact ⟨rfl, ha⟩
  obtain ⟨hgo, hw⟩ := h.throwing a
  refine Steps.head hgo hw ?_
  rw [stepThread_throwing (frames_entered h.top _), ← hS, (hone _).1, hS]
  obtain ⟨g₀, hg⟩ := Option.isSome_iff_exists.mp h.top
  obtain ⟨r, hr⟩ := State.topJava?_eq_some.mp hg
  have hr' : (s.setVm vm').frames = .java g₀ :: r := hr
  rw [State.setTop_of_frames _ hr'] at hrest
  have key : ∀ (F G : List Frame), ((s.setFrames F).setVm vm').setFrames G = (s.setVm vm').setFrames G := fun F G => by
    rw [show (s.setFrames F).setVm vm' = (s.setVm vm').setFrames F from rfl, State.setFrames_setFrames]
  rw [hr, List.tail_cons, State.pushFrame, State.setTop_of_frames _ hr, State.setFrames_setFrames, key]
  exact hrest
/-- what the method's table does with an exception of the class E at pc -/
def qTk (M : Mt) (pc : Nat) (E : String) (tgt : Nat) : Prop :=
  ∃ (x : ExceptionTableEntry) (t : List ExceptionTableEntry), (E, E) ∈ qCast ∧ covers x pc = true ∧ x.catchType ≠ 0 ∧ x.handlerPc = tgt ∧ Cond.classLink (mO M) x.catchType E ∈ TT ∧
    (mX M = x :: t ∨ ∃ (y : ExceptionTableEntry) (n : String), mX M = y :: x :: t ∧ covers y pc = true ∧ y.catchType ≠ 0 ∧ Cond.classLink (mO M) y.catchType n ∈ TT ∧ (E, n) ∈ qNoc)
variable {l : Launch} {b : Nat} {id : Nat → ClassId} {D : va_G} {M : Mt} {z : Bool} {NE : Nat} {KE : Nat → Nat → Bool} {post : Option Value → Sg → Prop} {NX : Nat} {KX : Nat → Nat → Bool} {px : String → Sg → Prop} {N : Nat} {K : Nat → Nat → Bool} {ce sl pc : Nat} {lv : List (Nat × Value)} {st : List Value} {g : Sg}
theorem qcatch {rest : List Value} {p : Program} {e : Env} {s : State} {m : MethodId} {args : Array Value} {below : List Frame} {meth : Method} {c : Code} {ls : Array Slot} {T' : State} {x : Addr} {E : String} {cx : Cell} {locs1 : List Loc} {tgt : Nat} {Q : State → Prop} (X : Cq b id D M p s m args meth c) (XT : Stand p l e (mR M) s m args below meth c T' locs1 ce sl) (htk : qTk M pc E tgt)
    (h1 : T'.heap[x]? = some cx) (h2 : cx.vm = .none) (h3 : s.vm.findClass E = some cx.cls) (kk : ∀ T2 : State, T2.heap = T'.heap → Stand p l e (mR M) s m args below meth c T2 locs1 ce sl → ∃ t, Steps p.tables e below (T2.setTop (F0 m tgt ls [.ref x])) t ∧ Q t) :
    ∃ t, Steps p.tables e below ((T'.setTop (F0 m pc ls rest)).pushFrame (.throwing x)) t ∧ Q t := by
  obtain ⟨y, tl, hcast, hcov, hct, htgt, hlk, htab⟩ := htk
  have hts := X.2.2.2.2.1
  have hpl : e.platform.magicAccessors = ({} : Platform).magicAccessors := by rw [XT.admits.platform]
  obtain ⟨cE, hE, hlE⟩ := Cond.classLink_spec X.2.2.2.1 (hts _ hlk) e.platform hpl
  cases h3.symm.trans hE
  have hfit : s.vm.assignable cx.cls cx.cls = true := by
    obtain ⟨c0, t0, f1, f2, f3⟩ := Cond.castable_spec (va_Nw.use (A := args) rfl (X.2.2.2.2.2.2.2.2.2.2.2.2.2.2.1 _ hcast))
    cases h3.symm.trans f1
    cases h3.symm.trans f2
    exact f3
  obtain ⟨kE, hkE⟩ := Vm.classAt_of_findClass h3
  obtain ⟨dk, _, _, kt, hd, _, _, _, _, hkt, _, hopen⟩ := hlE.here
  obtain ⟨S, hS⟩ : ∃ S, S = (T'.setTop (F0 m pc ls rest)).pushFrame (.throwing x) := ⟨_, rfl⟩
  have hSv : S.vm = T'.vm := by rw [hS]; exact Stand.throwing_vm _ _ _
  have hSh : S.heap = T'.heap := by rw [hS]; exact Stand.throwing_heap _ _ _
  have hcl : ∀ (U : State) (k : ClassId) (kk : Class), s.WarmedH U.vm → s.vm.classes[k]? = some kk → ∃ k', U.vm.classes[k]? = some k' := fun U k kk hW h => by
    obtain ⟨k', hk', -⟩ := hW.alike.2.2 _ _ h
    exact ⟨k', hk'⟩
  have hone : ∀ U : State, s.WarmedH U.vm → U.heap[x]? = some cx → ∃ vm', s.WarmedH vm' ∧ ∀ (Q : Handler → Pre) (E : CtlPost) (d : Bool) (acts : List Action), wp (findHandler.go (F0 m pc ls rest) x (y :: tl)) Q E e d acts U ↔ Q (.found tgt) d acts (U.setVm vm') := by
    intro U hW hx
    obtain ⟨k1, hk1⟩ := hcl U _ _ hW hkE
    refine ⟨_, hW.noted hd hopen (State.rightAt_cls hlE), fun Q E d acts => ?_⟩
    rw [qgo_row (f := F0 m pc ls rest) hcov hct (hW.classLinks hlE) hx h2 hk1 hk1, if_pos (by rw [hW.alike.assignable]; exact hfit), htgt]
  have hall : ∃ vm', s.WarmedH vm' ∧ ∀ (Q : Handler → Pre) (E : CtlPost) (d : Bool) (acts : List Action), wp (findHandler (F0 m pc ls rest) x) Q E e d acts S ↔ Q (.found tgt) d acts (S.setVm vm') := by
    have hmt : S.vm.method? m = some meth := by rw [hSv]; exact XT.method'
    have hWS : s.WarmedH S.vm := by rw [hSv]; exact XT.warmed
    rcases htab with htab | ⟨u, n, htab, hcu, hcu0, hlu, hno⟩
    · obtain ⟨vm', hW', hq⟩ := hone S hWS (by rw [hSh]; exact h1)
      refine ⟨vm', hW', fun Q E d acts => ?_⟩
      rw [Jvm.W.findHandler_eq (f := F0 m pc ls rest) hmt XT.code, X.2.2.2.2.2.2.2.2.1, htab]
      exact hq Q E d acts
    · obtain ⟨cU, hU, hlU⟩ := Cond.classLink_spec X.2.2.2.1 (hts _ hlu) e.platform hpl
      obtain ⟨c0, t0, f1, f2, f3⟩ := X.2.2.2.2.2.2.2.2.2.2.2.2.2.2.2.2.1 _ hno
      cases h3.symm.trans f1
      cases hU.symm.trans f2
      obtain ⟨dk', _, _, kt', hd', _, _, _, _, hkt', _, hopen'⟩ := hlU.here
      obtain ⟨k1, hk1⟩ := hcl S _ _ hWS hkE
      obtain ⟨k2, hk2⟩ := hcl S _ _ hWS hkt'
      have hW1 : s.WarmedH (S.vm.noted m.cls u.catchType (.cls cU)) := hWS.noted hd' hopen' (State.rightAt_cls hlU)
      obtain ⟨vm', hW', hq⟩ := hone (S.setVm (S.vm.noted m.cls u.catchType (.cls cU))) hW1 (by show S.heap[x]? = some cx; rw [hSh]; exact h1)
      refine ⟨vm', hW', fun Q E d acts => ?_⟩
      rw [Jvm.W.findHandler_eq (f := F0 m pc ls rest) hmt XT.code, X.2.2.2.2.2.2.2.2.1, htab, qgo_row (f := F0 m pc ls rest) hcu hcu0 (hWS.classLinks hlU) (by rw [hSh]; exact h1) h2 hk1 hk2, if_neg (by rw [hWS.alike.assignable, f3]; decide)]
      exact hq Q E d acts
  obtain ⟨vm', hW', hf⟩ := hall
  rw [hS] at hf
  obtain ⟨t, a1, b1⟩ := kk (T'.setVm vm') rfl (XT.noted hW')
  exact ⟨t, qstep_catch (g := F0 m pc ls rest) XT.here hf a1, b1⟩
/-- a call by the receiver; what it throws is caught here -/
theorem vq_callVC {M' : Mt} {q index n nf : Nat} {C : String} {T : u_T} (As rest : List Value) {st0 : List Value} {NE' : Nat} {KE' : Nat → Nat → Bool} {post' : Option Value → Sg → Prop} {px' : String → Sg → Prop} (hd : decode (mC M) pc = .ok (.invokevirtual index, 3))
    (hM : qCT l b id D M' z (.ref (b + q) :: As) N K g NE' KE' post' px') (hlk : Cond.methodLink (mO M) index (mM M') ∈ TT) (hinst : Cond.instanceMethod (mM M') ∈ TT) (hsel : Cond.selects C (mM M') (mM M') ∈ TT) (hcd : mW M' ∈ TT) (hini : Cond.initialized (mO M') ∈ TT) (hhM : mH M' = none)
    (hdd : (mO M') ≠ "java/lang/invoke/MethodHandle" ∧ (mO M') ≠ "java/lang/invoke/VarHandle" ∧ (parseMethodDescriptor (mM M').desc).map (fun d => d.parameters.length) = some n) (hR : (mR M').frames + 1 ≤ (mR M).frames ∧ 8 + (mN M' + 11) + (mR M').locals ≤ (mR M).locals)
    (hq : q < N) (h0 : qK q = 0) (hc : vwCl[qC q]? = some (C, T, nf)) (hn : As.length = n) (hst : st0 = As.reverse ++ .ref (b + q) :: rest) (hrest : (rest.map fun v => v.category).sum ≤ 8) (hz0 : z = false) (hf : ce + (mR M').cells ≤ (mR M).cells ∧ sl + (mR M').slots ≤ (mR M).slots)
    (kx : ∀ E g', px' E g' → ∃ tgt, qTk M pc E tgt ∧ ∀ x : Addr, Vq l b id D M z NE KE post NX KX px N K (ce + (mR M').cells) (sl + (mR M').slots) tgt lv [.ref x] g') (kk : ∀ v g', post' v g' → Vq l b id D M z NE KE post NX KX px NE' KE' (ce + (mR M').cells) (sl + (mR M').slots) (pc + 3) lv (v.toList ++ rest) g') : Vq l b id D M z NE KE post NX KX px N K ce sl pc lv st0 g := by
  intro p e s m args below meth c X H locs ls hP hS hl hz
  subst hst
  intro T0 hT XS
  have hts := X.2.2.2.2.1
  obtain ⟨mk, methM, hnamed, hmethM, hstM, habM⟩ := Cond.instanceMethod_spec (hts _ hinst)
  have hcode : (Cond.code (mM M') (mC M') (mN M') (mY M')).before args s = true := by
    have h := hts _ hcd
    simp only [mW, hhM] at h
    exact h
  obtain ⟨methM', cM, hmethM', -, -, -, -, -, -, hsigM⟩ := Cond.code_spec hnamed hcode
  cases hmethM.symm.trans hmethM'
  obtain ⟨c2, r2, m2, q1, q2, q3, q4, kP, hkP, hkPi⟩ := Cond.selects_spec (hts _ hsel)
  obtain ⟨cellB, hcB, hoB, hclB⟩ := va_recv X.2.2.2.2.2.2.2.2.2.1 hP hc (show (qW b id N K g)[q]? = some (b + q, .inr (qC q, (List.range (qL q)).map (qV b K g q))) by rw [qW_get hq, qE_0 h0])
  cases hclB.symm.trans q1
  have hy : (mM M').cls ≠ "java/lang/invoke/MethodHandle" ∧ (mM M').cls ≠ "java/lang/invoke/VarHandle" := ⟨hdd.1, hdd.2.1⟩
  cases (State.methodFound?_of_named hnamed hy).symm.trans q2
  cases hnamed.symm.trans q3
  have hselP : selectMethod e.platform s.vm cellB.cls mk = .method mk := by rw [Launch.admits_selectMethod XS.admits]; exact q4
  have hlen : As.length = methM.sig.parameters.length := by
    have h2 := hdd.2.2
    rw [hsigM] at h2
    rw [hn]
    exact (Option.some.inj h2).symm
  obtain ⟨vm₁, X₁, hstep₁⟩ := XS.invokevirtual X.1 X.2.2.2.1 (hts _ hlk) hnamed hmethM hstM hkP hkPi hy (a := b + q) (cell := cellB) (by rw [hT]; exact hcB)
    (fun z h => by rw [h] at hoB; cases hoB) hselP hmethM habM hkP hkPi (g := F0 m pc ls (As.reverse ++ .ref (b + q) :: rest)) rfl (argsL := As) (rest := rest) hlen rfl (by rw [X.2.1]; exact hd)
  obtain ⟨t, a1, b1⟩ := qcall (av := .ref (b + q) :: As) (rest := rest) X hP hS hl hz X₁ hT hM hhM hcd hini hR hf hrest (X₁.named hnamed) hd
    (fun T' x E cx g' locs1 XT hp hP1 hS1 h1 h2 h3 => by
      obtain ⟨tgt, htk, kq⟩ := kx E g' hp
      exact qcatch X XT htk h1 h2 h3 (fun T2 hT2 X2 => kq x p e s m args below meth c X T2.heap locs1 ls (by rw [hT2]; exact hP1) (by rw [hT2]; exact hS1) hl ⟨fun h => (by rw [hz0] at h; cases h), hz.2⟩ T2 rfl X2))
    (fun v g' T' locs1 XT hp hP1 hS1 hz1 => kk v g' hp p e s m args below meth c X T'.heap locs1 ls hP1 hS1 hl hz1 T' rfl XT)
  exact ⟨t, hstep₁ t (fun acts => by rw [doInvoke_state]; exact a1), b1⟩
/-- a method's word tells its code, with handlers or without -/
theorem mW_spec {M' : Mt} {a : Array Value} {U : State} (h : (mW M').before a U = true) : ∃ (mk : MethodId) (methY : Method) (cY : Code), U.methodNamed? (mM M') = some mk ∧ U.vm.method? mk = some methY ∧ methY.code = some cY ∧ cY.code = mC M' ∧ cY.maxLocals = mN M' ∧ methY.sig.returnType = mY M' ∧ methY.locks = false ∧ cY.exceptionTable.toList = mX M' ∧ parseMethodDescriptor (mM M').desc = some methY.sig := by
  unfold mW at h
  cases hh : mH M' with
  | none =>
    simp only [hh] at h
    obtain ⟨mk, hn⟩ := Cond.code_named h
    obtain ⟨m9, c9, h1, h2, h3, h4, h5, h6, h7, h8⟩ := Cond.code_spec hn h
    exact ⟨mk, m9, c9, hn, h1, h2, h3, h4, h5, h6, by rw [Array.isEmpty_iff.mp h7]; simp only [mX, hh], h8⟩
  | some tt =>
    simp only [hh] at h
    obtain ⟨mk, m9, c9, hn, h1, h2, h3, h4, h5, h6, h7, h8⟩ := Cond.codeWith_spec h
    exact ⟨mk, m9, c9, hn, h1, h2, h3, h4, h6, h7, by simp only [mX, hh]; rw [← h5, table_eq], h8⟩
/-- a method with handlers: its walk gives its contract -/
theorem qCT_ofH {av : List Value} {hh : List (Nat × Nat × Nat × Nat)} (hH : mH M = some hh) (hy : plainName (mO M) = true) (hlen : (lg_sl av).length ≤ mN M)
    (k : Vq l b id D M z NE KE post N K px N K 0 0 0 (lv_args 0 av) [] g) : qCT l b id D M z av N K g NE KE post px := by
  refine MetFree.of_bodyS (code := mC M) (maxLocals := mN M) (ret := mY M) hy ?_ ?_
  · intro args s m h hn
    obtain ⟨mk, m9, c9, h1, h2, h3, h4, h5, h6, h7, -, -⟩ := mW_spec (atoms_spec (ws := mW M :: TT) h _ List.mem_cons_self)
    cases Option.some.inj (h1.symm.trans hn)
    exact ⟨m9, c9, h2, h3, h4, h5, h6, h7⟩
  · intro p e s m args below meth c s₁ B hml hv _
    have X := Stand.of_body B
    have ht : c.exceptionTable.toList = mX M := by
      obtain ⟨mk, m9, c9, h1, h2, h3, -, -, -, -, h8, -⟩ := mW_spec (atoms_spec (ws := mW M :: TT) B.pre _ List.mem_cons_self)
      cases Option.some.inj (h1.symm.trans B.named)
      cases Option.some.inj (h2.symm.trans B.method)
      cases Option.some.inj (h3.symm.trans X.code)
      exact h8
    obtain ⟨rfl, hP, hK, hX, hz⟩ := hv
    have hts := atoms_spec (ws := mW M :: TT) B.pre
    have hw := k p e s m _ below meth c ⟨B.exec, B.bytes, hml, findClass_of_methodNamed B.named, fun w h => hts w (List.mem_cons_of_mem _ h), B.notSynchronized, B.returns, (name_of_methodNamed B.named B.method).1, ht, hK, hX⟩ s.heap [] _ hP va_S.rf (lv_entry av (n := mN M) hlen) hz
    rw [← lg_entry_eq] at hw
    obtain ⟨t, a1, o, b1, b2, b3⟩ := hw s₁ (by rw [B.state]; rfl) X
    exact ⟨t, o, a1, b1, b2, b3⟩
end Ca
