/-! 'throw new E("text")' in a method without handlers, launches without stack traces -/
section Th
variable {p : Program} {l : Launch} {e : Env} {R : Room} {s : State} {m : MethodId} {args : Array Value} {below : List Frame} {meth : Method} {c : Code} {T : State} {locs : List Loc} {cells slots : Nat}
/-- cells of which nothing was written are the same -/
theorem same_nil {s1 s2 : State} {k n : Nat} (h : s1.sameButNew s2 [] k n) : s1.heap.size ≤ s2.heap.size ∧ ∀ q, q < s1.heap.size → s2.heap[q]? = s1.heap[q]? := by
  obtain ⟨-, h1, -, -, -, h2⟩ := h
  refine ⟨h1, fun q hq => ?_⟩
  obtain ⟨x, e1, e2, -, e3⟩ := h2 q _ (Array.getElem?_eq_getElem hq)
  have hs : x.slots = (s1.heap[q]).slots := Array.ext_getElem? fun i => e3 i (fun h => nomatch h)
  rw [hs] at e2
  rw [e1, e2, Array.getElem?_eq_getElem hq]
/-- the walk's place, seen as a start of its own: what was written before is no concern of what follows -/
theorem qbase (X : Stand p l e R s m args below meth c T locs cells slots) (hc : cells ≤ R.cells) (hs : slots ≤ R.slots) :
    Stand p l e { R with cells := R.cells - cells, slots := R.slots - slots } ((T.setVm s.vm).setFrames (.invoking m args :: below)) m args below meth c T [] 0 0 := by
  have htop : (T.setVm s.vm).topJava?.isSome := X.here.top
  obtain ⟨U, hU⟩ : ∃ U, U = (T.setVm s.vm).setFrames (.invoking m args :: below) := ⟨_, rfl⟩
  have hfr : U.frames = .invoking m args :: below := by rw [hU]; exact State.frames_setFrames _ (State.cur_lt_of_top htop)
  obtain ⟨g₀, hg0⟩ := Option.isSome_iff_exists.mp htop
  obtain ⟨r, hr⟩ := State.topJava?_eq_some.mp hg0
  rw [← hU]
  have hvm : U.vm = s.vm := by rw [hU]; rfl
  have hli : e.platform.stackLimits U.me = e.platform.stackLimits s.me := by rw [hU, State.stackLimits_setFrames]; exact X.limits
  have hby : U.me.stackBytes = s.me.stackBytes := by rw [hU, State.stackBytes_setFrames]; exact X.bytes
  have hlo : U.localsInUse = s.localsInUse := by
    rw [State.localsInUse_invoking hfr (meth := meth) (c := c) (by rw [hvm]; exact X.method) X.code, State.localsInUse_invoking X.frames X.method X.code]
  have hroom : U.hasRoom e.platform { R with cells := R.cells - cells, slots := R.slots - slots } = true := by
    have h := X.room
    have k1 := X.heapSize
    have k2 := X.used
    simp only [State.hasRoom, Bool.and_eq_true, decide_eq_true_eq] at h ⊢
    rw [hfr, hlo, hli, hby]
    rw [X.frames] at h
    refine ⟨⟨⟨h.1.1.1, ?_⟩, ?_⟩, ?_⟩
    · have h5 := h.1.1.2
      rw [hU]
      show T.heap.size + (R.cells - cells) ≤ _
      omega
    · have h6 := h.1.2
      rw [hU]
      show T.slotsUsed + (R.slots - slots) ≤ _
      omega
    · rw [hU]; exact X.book
  have hsame : U.sameButNew (T.setVm U.vm) [] 0 0 := by
    rw [hvm]
    have hn : ((T.setVm s.vm).heap.toList.drop U.heap.size) = [] := by
      rw [hU]
      exact List.drop_eq_nil_of_le (Nat.le_of_eq Array.length_toList)
    refine ⟨?_, by rw [hU]; exact Nat.le_refl _, by rw [hU]; exact Nat.le_refl _, by rw [hn, hU]; rfl, by rw [hn]; exact Nat.le_refl _, fun a x h => ⟨x, by rw [hU] at h; exact h, rfl, rfl, fun _ _ => rfl⟩⟩
    obtain ⟨t, ht, -⟩ := State.frames_cons hr
    rw [hU, State.setFrames_setFrames, State.setFrames_self ht]
  exact ⟨X.admits, X.cas, X.clock, hfr, hroom, by rw [hU]; exact X.hears, by rw [hvm]; exact X.method, X.code, X.here, X.tail, by rw [hU]; exact X.warmed, by rw [hli]; exact X.limits, by rw [hby]; exact X.bytes, hsame⟩
end Th
/-- the words that an exception's making needs are in the tables, or known beside them -/
def qAt (own : String) (ic : Nat) (cls : String) (names : List String) : Bool := (Bundle.ownAtoms own ic cls names).all (fun w => decide (w ∈ TT) || decide (w = .isRef (.static Bundle.tN "UNASSIGNED_STACK" Bundle.steD)) || decide (w = .isRef (.static Bundle.tN "SUPPRESSED_SENTINEL" Bundle.listD)) || decide (w = .laysStatic Bundle.tN "UNASSIGNED_STACK" Bundle.steD) || decide (w = .laysStatic Bundle.tN "SUPPRESSED_SENTINEL" Bundle.listD) || qCast.any (fun x => decide (w = .castable x.1 x.2)) || qDecl.any (fun y => decide (w = .declares y)))
theorem qAt_use {own : String} {ic : Nat} {cls : String} {names : List String} (h : qAt own ic cls names = true) {b : Nat} {s : State} {args : Array Value} (hts : ∀ w ∈ TT, w.before args s = true) (hX : qX b s s.heap) : ∀ w ∈ Bundle.ownAtoms own ic cls names, w.before args s = true := by
  intro w hw
  have h1 := List.all_eq_true.mp h w hw
  simp only [Bool.or_eq_true, decide_eq_true_eq, List.any_eq_true] at h1
  rcases h1 with (((((h1 | h1) | h1) | h1) | h1) | ⟨x, hx, h1⟩) | ⟨y, hy, h1⟩
  · exact hts w h1
  · rw [h1]; exact hX.2.1.ref
  · rw [h1]; exact hX.2.2.1.ref
  · rw [h1]; exact hX.2.1.lays
  · rw [h1]; exact hX.2.2.1.lays
  · rw [h1]; exact va_Nw.use rfl (hX.2.2.2.2.1 x hx)
  · rw [h1]; exact va_Nw.use rfl (hX.2.2.2.2.2.1 y hy)
theorem vq_throw {l : Launch} {b : Nat} {id : Nat → ClassId} {D : va_G} {M : Mt} {z : Bool} {NE : Nat} {KE : Nat → Nat → Bool} {post : Option Value → Sg → Prop} {NX : Nat} {KX : Nat → Nat → Bool} {px : String → Sg → Prop} {N : Nat} {K : Nat → Nat → Bool} {ce sl pc : Nat} {lv : List (Nat × Value)} {g : Sg} {cls text : String} {names : List String} {ik is ic : Nat} (htr : l.stackTraces = false)
    (d0 : decode (mC M) pc = .ok (.new ik, 3)) (d3 : decode (mC M) (pc + 3) = .ok (.dup, 1)) (d4 : decode (mC M) (pc + 3 + 1) = .ok (.ldc is, 2)) (d6 : decode (mC M) (pc + 3 + 1 + 2) = .ok (.invokespecial ic, 3)) (d9 : decode (mC M) (pc + 3 + 1 + 2 + 3) = .ok (.athrow, 1))
    (hcls : Bundle.fit cls = true) (hnames : ∀ n ∈ names, Bundle.fit n = true) (hk : Cond.classLink (mO M) ik cls ∈ TT) (hini : Cond.initialized cls ∈ TT) (hins : Cond.instantiable cls 6 ∈ TT) (hstr : (mO M, is, text) ∈ qStr) (hat : qAt (mO M) ic cls names = true) (hx0 : mH M = none)
    (hfr : names.length + 3 < (mR M).frames) (hlo : 13 * (names.length + 1) + 43 ≤ (mR M).locals) (hce : ce + 1 ≤ (mR M).cells) (hsl : sl + 6 ≤ (mR M).slots) (hNX : N = NX) (hKX : K = KX) (hp : px cls g) : Vq l b id D M z NE KE post NX KX px N K ce sl pc lv [] g := by
  intro p e s m args below meth c X H locs ls hP hS hl hz
  subst hNX; subst hKX
  intro T hT XS
  obtain ⟨s', hs'⟩ : ∃ z, z = (T.setVm s.vm).setFrames (.invoking m args :: below) := ⟨_, rfl⟩
  have Y := qbase XS (by omega) (by omega)
  rw [← hs'] at Y
  have hvm : s'.vm = s.vm := by rw [hs']; rfl
  have hhp : s'.heap = H := by rw [hs']; exact hT
  have hW0 : s.WarmedH s'.vm := by rw [hvm]; exact State.WarmedH.refl s
  have hts : ∀ w ∈ TT, w.before args s' = true := fun w hw => tU X.2.2.2.2.1 hW0 hw
  have hX' : qX b s' s'.heap := by rw [hhp]; exact qX.go X.2.2.2.2.2.2.2.2.2.2 hS hW0
  have hown : s'.vm.findClass (mO M) = some m.cls := by rw [hvm]; exact X.2.2.2.1
  obtain ⟨sa, hsa⟩ := hX'.1 _ hstr
  obtain ⟨cX, kX0, hfX, -⟩ := Cond.instantiable_spec (hts _ hins)
  have htp : e.platform.stackTraces = false := (show e.platform.stackTraces = l.stackTraces by rw [XS.admits.platform]).trans htr
  have hK : W p l e { mR M with cells := (mR M).cells - ce, slots := (mR M).slots - sl } s' m args below meth c H [] 0 0 (qMQ below (qQx b id D z NE KE post N K px) s (mR M).cells (mR M).slots (qA b)) (F0 m pc ls []) := by
    refine W.newcK X.1 X.2.1 hown (hts _ hk) (hts _ hins) (hts _ hini) (g := F0 m pc ls []) rfl d0 (by show 0 + 1 ≤ (mR M).cells - ce; omega) (by show 0 + 6 ≤ (mR M).slots - sl; omega) hfX rfl (fun H1 kX hkX e1 z1 o1 => ?_)
    refine lv_dup X.1 X.2.1 d3 rfl ?_
    refine va_ldcS X.1 X.2.1 hown hsa d4 ?_
    intro T1 hT1 X1
    have hm : mX M = [] := by simp only [mX, hx0]
    obtain ⟨U, hsteps, hrun, hend, hW, hsame, cx, hcx, hO⟩ := X1.ctorThrowS X.1 htp (own := mO M) (cls := cls) (names := names) (ic := ic) hown hcls hnames (qAt_use hat hts hX') (fun x hx => nomatch hx) hfX hkX (a := H.size) (by rw [hT1]; exact e1) (by rw [hhp]; exact Nat.le_refl _) (msg := .ref sa) rfl
      (g := F0 m (pc + 3 + 1 + 2) ls [.ref sa, .ref H.size, .ref H.size]) rfl (hl.1.trans X.2.2.1.symm) rfl rfl (rest := []) rfl (by rw [X.2.1]; exact d6) (by rw [X.2.1]; exact d9) (by rw [X.2.2.2.2.2.2.2.2.1, hm]; intro x hx; cases hx) hfr (by show 2 * 0 + (1 + 0) + (13 * (names.length + 1) + 42) ≤ (mR M).locals; omega) X.2.2.2.2.2.1
    obtain ⟨f1, f2⟩ := same_nil hsame
    rw [hhp] at f1 f2
    have hWs : s.WarmedH U.vm := State.WarmedH.trans hW0 hW
    have hall : s.sameButNew ({ U with vm := s.vm } : State) locs (mR M).cells (mR M).slots := by
      have h2 : (T.setVm s.vm).sameButNew ({ U with vm := s.vm } : State) [] (0 + 1) (0 + 6) := by
        rw [hvm] at hsame
        obtain ⟨e2, e3⟩ := hsame
        refine ⟨?_, ?_⟩
        · rw [hs', State.setFrames_setFrames] at e2
          exact e2
        · rw [hs'] at e3
          exact e3
      have h3 := XS.same.trans h2
      rw [List.append_nil] at h3
      exact h3.mono (by omega) (by omega)
    have hcl : s.vm.findClass cls = some cx.cls := by
      have h9 := hO.cls
      rw [hvm] at h9
      exact h9
    have hP' : va_P D vwCl (qW b id N K g) U.heap := hP.kept (fun k q hk9 => f2 q.1 ((hP k q hk9).lt))
    refine ⟨U, hsteps, .threw H.size, hrun, hend, Or.inr ⟨_, rfl⟩, ⟨⟨Nat.le_trans hS.1 f1, fun q h1 h2 => (f2 q (Nat.lt_of_lt_of_le h1 hS.1)).trans (hS.2.1 q h1 h2)⟩, Or.inr ⟨H.size, cls, cx, g, rfl, hp, hP', hcx, hO.vm, hcl⟩⟩, locs, ⟨hWs, hall⟩, hS.2.2⟩
  exact hK T hT Y
