/-! Methods that return or throw (launches without stack traces): contracts, and their calls. The way of a call follows the library's Back.of_free, with one outcome more. -/
/-- what a method leaves behind it: the tables warmer, L written, at most so much new -/
def qFr (st t : State) (L : List Loc) (mc ms : Nat) : Prop := st.WarmedH t.vm ∧ st.sameButNew ({ t with vm := st.vm } : State) L mc ms
/-- a contract's end, whatever the outcome is -/
def qOut (Q : State → Outcome → State → Prop) (mc ms : Nat) (free : Addr → Prop) : Array Value → State → Outcome → State → Prop := fun _ st o t =>
  ((∃ v, o = .returned v) ∨ ∃ x, o = .threw x) ∧ Q st o t ∧ ∃ L, qFr st t L mc ms ∧ ∀ q ∈ L, free q.base
/-- a body's end -/
def qMQ (below : List Frame) (Q : State → Outcome → State → Prop) (s : State) (mc ms : Nat) (free : Addr → Prop) : State → Prop := fun t =>
  ∃ o, t.status = .running ∧ Ended t below o ∧ qOut Q mc ms free #[] s o t
section Qx
variable {l : Launch} {R : Room} {p : Program} {e : Env} {below : List Frame} {s : State} {sargs : Array Value} {m : MethodId} {meth : Method} {c : Code} {U : State} {locs : List Loc} {cells slots : Nat}
theorem qenter {y : MethodName} {ws : List Cond} {rm : Room} {Pc : Array Value → State → Prop} {Q : State → Outcome → State → Prop} {mc ms len maxL : Nat} {free : Addr → Prop} {a : Array Value} {g : JFrame} {ig : Instr} {mk : MethodId}
    (hM : MetFree l y (headSpec ws rm) Pc (fun _ _ _ _ _ => True) (qOut Q mc ms free)) (X : Stand p l e R s m sargs below meth c U locs cells slots) (hg : g.method = m) (hsize : g.locals.size = c.maxLocals) (hdg : decode c.code g.pc = .ok (ig, len)) (hW8 : 2 * g.monitorRoom + (g.stack.map fun v => v.category).sum ≤ 8)
    (hframes : rm.frames + 1 ≤ R.frames) (hlocals : 8 + (maxL + 11) + rm.locals ≤ R.locals) (hcells : cells + rm.cells ≤ R.cells) (hslots : slots + rm.slots ≤ R.slots) (hn : U.methodNamed? y = some mk) (hws : ∀ w ∈ ws, w.before a U = true)
    (hcode : ∃ (methY : Method) (cY : Code), U.vm.method? mk = some methY ∧ methY.code = some cY ∧ cY.maxLocals = maxL) (hinit : (Cond.initialized y.cls).before a U = true) (hPc : Pc a (U.calling g mk a)) :
    ∃ (s₂ U' : State) (L : List Loc), U'.heap = s₂.heap ∧ U'.vm = s₂.vm ∧ Stand p l e R s m sargs below meth c U' (locs ++ L) (cells + mc) (slots + ms) ∧ (∀ q ∈ L, free q.base) ∧
      ((∃ v, Q (U.calling g mk a) (.returned v) s₂ ∧ Steps p.tables e below (doInvoke e (U.setTop g) [] mk a).1 (U'.setTop { g with pc := g.pc + len, stack := v.toList ++ g.stack })) ∨
       (∃ x, Q (U.calling g mk a) (.threw x) s₂ ∧ Steps p.tables e below (doInvoke e (U.setTop g) [] mk a).1 ((U'.setTop g).pushFrame (.throwing x)))) := by
  obtain ⟨methY, cY, hmY, hcY, hlY⟩ := hcode
  obtain ⟨kY, hkY, -⟩ := className_of_methodNamed hn
  have hinitY : kY.init = .initialized := Cond.initialized_spec (findClass_of_methodNamed hn) hkY hinit
  have h : At U g.method c below := by rw [hg]; exact X.here
  have hpre : (headSpec ws rm).pre.before a U = true := atoms_intro hws
  have hroom := X.room_calling (g := g) (args' := a) (R' := (headSpec ws rm).room) hsize hmY hcY hframes (by rw [hlY]; show _ + _ + rm.locals ≤ _; omega) hcells hslots
  have happ : (headSpec ws rm).appliesLoose y e.platform (U.calling g mk a) = true := Spec.appliesLoose_calling (g := g) h hdg hn hkY hinitY hroom hpre
  obtain ⟨mid, hmid⟩ := h.above
  have hfr : (U.setTop g).frames = (.java g :: mid) ++ below := by rw [State.frames_setTop' g h.top, hmid]; rfl
  obtain ⟨o, s₂, hsteps, -, hend, ho, hq, L, ⟨hW₂, hsm⟩, hL⟩ := Steps.callFree hM p X.admits X.cas X.clock (acts := []) hfr happ hPc trivial
  rw [State.frames_setTop' g h.top] at hend
  have hW' : U.WarmedH s₂.vm := hW₂
  obtain ⟨e2, q2, q3, q4, q5, q6⟩ := id hsm
  have e3 : s₂ = ({ (U.calling g mk a).setFrames s₂.frames with heap := s₂.heap, slotsUsed := s₂.slotsUsed } : State).setVm s₂.vm := by
    have h0 : s₂ = ({ s₂ with vm := (U.calling g mk a).vm } : State).setVm s₂.vm := rfl
    exact h0.trans (congrArg (fun z : State => z.setVm s₂.vm) e2)
  obtain ⟨g₀, hg0⟩ := Option.isSome_iff_exists.mp h.top
  obtain ⟨r, hr⟩ := State.topJava?_eq_some.mp hg0
  obtain ⟨U', hU'⟩ : ∃ z : State, z = ({ U with heap := s₂.heap, slotsUsed := s₂.slotsUsed } : State).setVm s₂.vm := ⟨_, rfl⟩
  have hr' : U'.frames = .java g₀ :: r := by rw [hU']; exact hr
  have hsame : U.sameButNew ({ U with heap := s₂.heap, slotsUsed := s₂.slotsUsed } : State) L mc ms := by
    refine ⟨?_, q2, q3, q4, q5, q6⟩
    obtain ⟨t, ht, -⟩ := State.frames_cons hr
    show ({ U with heap := s₂.heap, slotsUsed := s₂.slotsUsed } : State) = { U.setFrames U.frames with heap := s₂.heap, slotsUsed := s₂.slotsUsed }
    rw [State.setFrames_self ht]
  have X' : Stand p l e R s m sargs below meth c U' (locs ++ L) (cells + mc) (slots + ms) := by
    subst hg
    rw [hU']
    exact ⟨X.admits, X.cas, X.clock, X.frames, X.room, X.hears, X.method, X.code, (X.here.setHeapUsed s₂.heap s₂.slotsUsed).setVm hW'.alike, X.tail, State.WarmedH.trans X.warmed hW', X.limits, X.bytes, X.same.trans (hsame.setVm s.vm)⟩
  refine ⟨s₂, U', L, by rw [hU']; rfl, by rw [hU']; rfl, X', hL, ?_⟩
  rcases ho with ⟨v, rfl⟩ | ⟨x, rfl⟩
  · refine Or.inl ⟨v, hq, ?_⟩
    obtain ⟨c₂, i₂, len₂, hc₂, hd₂, hf₂⟩ := hend
    have hcc : c₂ = c := by
      have h1 : s₂.code? g.method = U.code? g.method := by rw [State.code?_eq, State.code?_eq, hW'.alike.method?]
      exact Option.some.inj (hc₂.symm.trans (h1.trans h.code))
    rw [hcc, hdg] at hd₂
    cases hd₂
    have hs₂ : s₂ = U'.setTop { g with pc := g.pc + len, stack := v.toList ++ g.stack } := by
      refine e3.trans ?_
      rw [hf₂, State.calling_eq h.top, State.setFrames_setFrames, State.setTop_of_frames _ hr', hr, hU']
      rfl
    rw [← hs₂]
    exact hsteps
  · refine Or.inr ⟨x, hq, ?_⟩
    have hf₂ : s₂.frames = .throwing x :: .java g :: U.frames.tail := hend
    have hs₂ : s₂ = (U'.setTop g).pushFrame (.throwing x) := by
      refine e3.trans ?_
      rw [hf₂, State.calling_eq h.top, State.setFrames_setFrames, State.pushFrame, State.frames_setTop _ hr', State.setTop_of_frames _ hr', State.setFrames_setFrames, hr, hU']
      rfl
    rw [← hs₂]
    exact hsteps
/-- a body's walk gives its contract -/
theorem qmet {y : MethodName} {ws ws' : List Cond} {rm : Room} {Pc : Array Value → State → Prop} {Q : State → Outcome → State → Prop} {mc ms : Nat} {free : Addr → Prop} {cc : ByteArray} {maxL : Nat} {ret : Option FieldType} (hy : plainName y.cls = true) (hw : ws = Cond.code y cc maxL ret :: ws')
    (body : ∀ p e s m args below meth c s₁, BodyLoose p l y (headSpec ws rm) cc maxL ret e s m args below meth c s₁ → c.maxLocals = maxL → c.exceptionTable.toList = [] → Pc args s → W p l e rm s m args below meth c s.heap [] 0 0 (qMQ below Q s mc ms free) (entryFrame m args maxL)) :
    MetFree l y (headSpec ws rm) Pc (fun _ _ _ _ _ => True) (qOut Q mc ms free) := by
  refine MetFree.of_bodyS (code := cc) (maxLocals := maxL) (ret := ret) hy ?_ ?_
  · intro args s m h hn
    obtain ⟨meth, c, h1, h2, h3, h4, h5, h6, -, -⟩ := Cond.code_spec hn (atoms_spec (ws := ws) h _ (by rw [hw]; exact List.mem_cons_self))
    exact ⟨meth, c, h1, h2, h3, h4, h5, h6⟩
  · intro p e s m args below meth c s₁ B hml hP _
    have X := Stand.of_body B
    have ht : c.exceptionTable.toList = [] := by
      obtain ⟨m9, c9, h1, h2, -, -, -, -, h7, -⟩ := Cond.code_spec B.named (atoms_spec (ws := ws) B.pre _ (by rw [hw]; exact List.mem_cons_self))
      cases Option.some.inj (h1.symm.trans B.method)
      cases Option.some.inj (h2.symm.trans X.code)
      rw [Array.isEmpty_iff.mp h7]
    obtain ⟨t, a1, o, b1, b2, b3⟩ := body p e s m args below meth c s₁ B hml ht hP s₁ (by rw [B.state]; rfl) X
    exact ⟨t, o, a1, b1, b2, b3⟩
/-- a plain end is an end here -/
theorem qret {args : Array Value} {H : Heap} {g : JFrame} {Qc : Array Value → State → Outcome → State → Prop} {Q : State → Outcome → State → Prop} {mc ms : Nat} {free : Addr → Prop} (hQ : ∀ o t, Qc args s o t → Q s o t) (k : W p l e R s m args below meth c H locs cells slots (MQ below Qc args s mc ms free) g) : W p l e R s m args below meth c H locs cells slots (qMQ below Q s mc ms free) g := by
  intro T hT X
  obtain ⟨t, a1, o, b1, b2, b3, L, hF, hL⟩ := k T hT X
  exact ⟨t, a1, o, b1, b2, Or.inl hF.1, hQ o t b3, L, hF.2, hL⟩
/-- an exception over this frame that no row of the table covers goes to the caller -/
theorem qthrough {args : Array Value} {ls : Array Slot} {pc : Nat} {rest : List Value} {Q : State → Outcome → State → Prop} {mc ms : Nat} {free : Addr → Prop} {x : Addr} (X : Stand p l e R s m args below meth c U locs cells slots) (hout : ∀ y ∈ c.exceptionTable.toList, covers y pc = false) (hlocks : meth.locks = false) (hq : ∀ t : State, t.heap = U.heap → s.vm.Alike t.vm → Q s (.threw x) t) (hf : ∀ z ∈ locs, free z.base) (hc : cells ≤ mc) (hs : slots ≤ ms) :
    ∃ t, Steps p.tables e below ((U.setTop (F0 m pc ls rest)).pushFrame (.throwing x)) t ∧ qMQ below Q s mc ms free t := by
  obtain ⟨st1, hrun, hend, hW, hsm⟩ := X.leaveThrown x (g := F0 m pc ls rest) rfl rfl rfl hout hlocks
  exact ⟨_, st1, .threw x, hrun, hend, Or.inr ⟨x, rfl⟩, hq _ rfl hW.alike, locs, ⟨hW, hsm.mono hc hs⟩, hf⟩
end Qx
