/-! The state of the world: ints (booleans too) and longs, by place and index. Place q lies at the address b + q. -/
abbrev Sg : Type := (Nat → Nat → Int32) × (Nat → Nat → Int64)
def sI (g : Sg) (p : Nat) (f : Nat → Int32) : Sg := (fun q => if q = p then f else g.1 q, g.2)
def sJ (g : Sg) (p : Nat) (f : Nat → Int64) : Sg := (g.1, fun q => if q = p then f else g.2 q)
theorem sI_s (g : Sg) (p : Nat) (f : Nat → Int32) : (sI g p f).1 p = f := if_pos rfl
theorem sI_n {g : Sg} {p q : Nat} {f : Nat → Int32} (h : q ≠ p) : (sI g p f).1 q = g.1 q := if_neg h
theorem sI_2 (g : Sg) (p : Nat) (f : Nat → Int32) : (sI g p f).2 = g.2 := rfl
theorem sJ_1 (g : Sg) (p : Nat) (f : Nat → Int64) : (sJ g p f).1 = g.1 := rfl
theorem sJ_s (g : Sg) (p : Nat) (f : Nat → Int64) : (sJ g p f).2 p = f := if_pos rfl
theorem sJ_n {g : Sg} {p q : Nat} {f : Nat → Int64} (h : q ≠ p) : (sJ g p f).2 q = g.2 q := if_neg h
def qV (b : Nat) (K : Nat → Nat → Bool) (g : Sg) (p k : Nat) : Value := match qF p k with
  | 0 => .int (g.1 p k)
  | 1 => .long (g.2 p k)
  | n + 2 => if K p k = true then .ref (b + n) else .null
def qQ (b p : Nat) : Nat → Option Nat := fun i => if i < qL p then some (b + qC p + i) else none
def qE (b : Nat) (id : Nat → ClassId) (K : Nat → Nat → Bool) (g : Sg) (p : Nat) : va_E := match qK p with
  | 0 => .inr (qC p, (List.range (qL p)).map (qV b K g p))
  | 1 => .inl (id 0, qL p, .inl (g.1 p))
  | 2 => .inl (id 1, qL p, .inl (g.1 p))
  | 3 => .inl (id 2, qL p, .inr (.inl (g.2 p)))
  | 4 => .inl (id 3, qL p, .inr (.inr (.inr (.inr (qQ b p)))))
  | _ => .inl (id 4, qL p, .inr (.inr (.inr (.inr (qQ b p)))))
/-- the addresses of the world -/
def qA (b : Nat) : Nat → Prop := fun q => b ≤ q ∧ q < b + 85
section Qa
variable {b : Nat} {id : Nat → ClassId} {K K' : Nat → Nat → Bool} {g g' : Sg} {p q N : Nat}
theorem qE_0 (h : qK p = 0) : qE b id K g p = .inr (qC p, (List.range (qL p)).map (qV b K g p)) := by simp only [qE, h]
theorem qE_1 (h : qK p = 1) : qE b id K g p = .inl (id 0, qL p, .inl (g.1 p)) := by simp only [qE, h]
theorem qE_2 (h : qK p = 2) : qE b id K g p = .inl (id 1, qL p, .inl (g.1 p)) := by simp only [qE, h]
theorem qE_3 (h : qK p = 3) : qE b id K g p = .inl (id 2, qL p, .inr (.inl (g.2 p))) := by simp only [qE, h]
theorem qE_4 (h : qK p = 4) : qE b id K g p = .inl (id 3, qL p, .inr (.inr (.inr (.inr (qQ b p))))) := by simp only [qE, h]
theorem qE_5 (h : qK p = 5) : qE b id K g p = .inl (id 4, qL p, .inr (.inr (.inr (.inr (qQ b p))))) := by simp only [qE, h]
theorem qV_congr (h1 : g'.1 p = g.1 p) (h2 : g'.2 p = g.2 p) (h3 : K' p = K p) : qV b K' g' p = qV b K g p := by
  funext k
  simp only [qV, h1, h2, h3]
theorem qE_congr (h1 : g'.1 p = g.1 p) (h2 : g'.2 p = g.2 p) (h3 : K' p = K p) : qE b id K' g' p = qE b id K g p := by
  simp only [qE, h1, h2, qV_congr h1 h2 h3]
def qW (b : Nat) (id : Nat → ClassId) (N : Nat) (K : Nat → Nat → Bool) (g : Sg) : va_W := (List.range N).map (fun p => (b + p, qE b id K g p))
theorem qW_len : (qW b id N K g).length = N := by simp [qW]
theorem qW_get (h : p < N) : (qW b id N K g)[p]? = some (b + p, qE b id K g p) := by
  unfold qW
  rw [List.getElem?_map, List.getElem?_range h]
  rfl
theorem qW_of {k : Nat} {x : Nat × va_E} (h : (qW b id N K g)[k]? = some x) : k < N ∧ x = (b + k, qE b id K g k) := by
  have hl : k < N := by
    have := (List.getElem?_eq_some_iff.mp h).1
    rw [qW_len] at this
    exact this
  rw [qW_get hl] at h
  exact ⟨hl, (Option.some.inj h).symm⟩
theorem qW_D (h85 : N ≤ 85) : va_D (qA b) (qW b id N K g) := by
  refine ⟨fun i j x y hi hj hxy => ?_, fun k x hk => ?_⟩
  · obtain ⟨-, rfl⟩ := qW_of hi
    obtain ⟨-, rfl⟩ := qW_of hj
    dsimp only at hxy
    omega
  · obtain ⟨hk9, rfl⟩ := qW_of hk
    exact ⟨Nat.le_add_right _ _, by show b + k < b + 85; omega⟩
theorem qW_set (hp : p < N) {e : va_E} (he : qE b id K' g' p = e) (ho : ∀ q, q ≠ p → qE b id K' g' q = qE b id K g q) : (qW b id N K g).set p (b + p, e) = qW b id N K' g' := by
  apply List.ext_getElem?
  intro k
  by_cases hk : k < N
  · by_cases hkp : k = p
    · subst hkp
      rw [List.getElem?_set_self (by rw [qW_len]; exact hk), qW_get hk, he]
    · rw [List.getElem?_set_ne (Ne.symm hkp), qW_get hk, qW_get hk, ho k hkp]
  · rw [List.getElem?_eq_none (by rw [List.length_set, qW_len]; omega), List.getElem?_eq_none (by rw [qW_len]; omega)]
theorem qE_sI (h : q ≠ p) {f : Nat → Int32} : qE b id K (sI g p f) q = qE b id K g q := qE_congr (sI_n h) rfl rfl
theorem qE_sJ (h : q ≠ p) {f : Nat → Int64} : qE b id K (sJ g p f) q = qE b id K g q := qE_congr rfl (sJ_n h) rfl
theorem qW_s1 (hp : p < N) (hk : qK p = 1) {f : Nat → Int32} : (qW b id N K g).set p (b + p, .inl (id 0, qL p, .inl f)) = qW b id N K (sI g p f) :=
  qW_set hp (by rw [qE_1 hk, sI_s]) (fun q h => qE_sI h)
theorem qW_s2 (hp : p < N) (hk : qK p = 2) {f : Nat → Int32} : (qW b id N K g).set p (b + p, .inl (id 1, qL p, .inl f)) = qW b id N K (sI g p f) :=
  qW_set hp (by rw [qE_2 hk, sI_s]) (fun q h => qE_sI h)
theorem qW_s3 (hp : p < N) (hk : qK p = 3) {f : Nat → Int64} : (qW b id N K g).set p (b + p, .inl (id 2, qL p, .inr (.inl f))) = qW b id N K (sJ g p f) :=
  qW_set hp (by rw [qE_3 hk, sJ_s]) (fun q h => qE_sJ h)
end Qa
/-- the array classes that the worlds name -/
def tyQ (id : Nat → ClassId) : List (ClassId × FieldType) := [(id 0, .int), (id 1, .boolean), (id 2, .long), (id 3, .array .int), (id 4, .array .long)]
/-- a static of a class, in a cell below the world: a reference or null -/
def qZ (C n d : String) (b : Nat) (U : State) (H : Heap) : Prop := ∃ (c : ClassId) (k : Class) (i : Nat) (f : Field) (a : Nat) (cell : Cell) (v : Value), U.vm.findClass C = some c ∧ U.fieldFound? C n d = some (c, k, i, f) ∧ f.isStatic = true ∧ k.statics = some a ∧ H[a]? = some cell ∧ cell.vm.isStatics = true ∧ cell.cls = c ∧ f.slot < cell.slots.size ∧ k.staticTypes[f.slot]? = some f.type ∧ cell.slots[f.slot]? = some v ∧ v.isRef = true ∧ a < b
theorem qZ.go {C n d : String} {b : Nat} {s U : State} {H H1 : Heap} (h : qZ C n d b s H) (hk : ∀ q, q < H.size → ¬ qA b q → H1[q]? = H[q]?) (hvm : s.vm.Alike U.vm) : qZ C n d b U H1 := by
  obtain ⟨c, k, i, f, a, cell, v, h1, h2, h3, h4, h5, h6, h7, h8, h9, h10, h11, h12⟩ := h
  obtain ⟨k', hi', he⟩ := State.fieldFound?_setVm hvm h2
  refine ⟨c, k', i, f, a, cell, v, by rw [hvm.findClass]; exact h1, hi', h3, by rw [he]; exact h4, ?_, h6, h7, h8, by rw [he]; exact h9, h10, h11, h12⟩
  rw [hk a (Array.getElem?_eq_some_iff.mp h5).1 (fun h => by have := h.1; omega)]
  exact h5
theorem qZ.lays {C n d : String} {b : Nat} {s : State} {args : Array Value} (h : qZ C n d b s s.heap) : (Cond.laysStatic C n d).before args s = true := by
  obtain ⟨c, k, i, f, a, cell, v, h1, h2, h3, h4, h5, h6, h7, h8, h9, -⟩ := h
  exact Cond.laysStatic_of h1 h2 h3 h4 h5 h6 h7 h8 h9
theorem qZ.ref {C n d : String} {b : Nat} {s : State} {args : Array Value} (h : qZ C n d b s s.heap) : (Cond.isRef (.static C n d)).before args s = true := by
  obtain ⟨c, k, i, f, a, cell, v, h1, h2, h3, h4, h5, h6, h7, h8, h9, h10, h11, -⟩ := h
  have he : (Term.static C n d).eval args s none [] s = some v := by
    simp [Term.eval, State.fieldNamed?, h2, h3, h4, h5, h6, h10]
  simp only [Cond.before, Cond.holds, Cond.value, he]
  cases v <;> simp_all [Value.isRef]
def qOver : List FieldType := [.int, .long]
/-- what is known beside the tables: strings, statics of Throwable, links to nest mates, casts, declared methods -/
def qX (b : Nat) (U : State) (H : Heap) : Prop :=
  (∀ x ∈ qStr, ∃ sa : Nat, vk_R x.1 x.2.1 x.2.2 sa U) ∧ qZ Bundle.tN "UNASSIGNED_STACK" Bundle.steD b U H ∧ qZ Bundle.tN "SUPPRESSED_SENTINEL" Bundle.listD b U H ∧ (∀ x ∈ qNest, va_Nw (.methodLinkNest x.1 x.2.1 x.2.2.1 x.2.2.2) U) ∧ (∀ x ∈ qCast, va_Nw (.castable x.1 x.2) U) ∧ (∀ y ∈ qDecl, va_Nw (.declares y) U) ∧ (∀ x ∈ qNoc, va_Nc x.1 x.2 U) ∧ ∀ t ∈ qOver, (Cond.arrayOver (.array t)).before #[] U = true
theorem qX.go {b : Nat} {s U : State} {H H1 : Heap} {locs : List Loc} (h : qX b s H) (hS : va_S (qA b) H H1 locs) (hW : s.WarmedH U.vm) : qX b U H1 := by
  obtain ⟨h1, h2, h3, h4, h5, h6, h7, h8⟩ := h
  refine ⟨fun x hx => ?_, h2.go hS.2.1 hW.alike, h3.go hS.2.1 hW.alike, fun x hx => va_Nw.warmM hW (h4 x hx), fun x hx => va_Nw.warmC hW (h5 x hx), fun y hy => va_Nw.warmD hW (h6 y hy), fun x hx => va_Nc.moved hW.alike (h7 x hx), fun t ht => Stand.arrayOver_alikeB hW.alike (h8 t ht)⟩
  obtain ⟨sa, hsa⟩ := h1 x hx
  exact ⟨sa, vk_R.warm hW hsa⟩
/-- where the size matters, the heap ends with the world; the world has its bound -/
def qz (z : Bool) (b N : Nat) (H : Heap) : Prop := (z = true → H.size = b + N) ∧ N ≤ 85
/-- a word of TT at any warmer state -/
theorem tU {w : Cond} {args a' : Array Value} {s U : State} (hts : ∀ w ∈ TT, w.before args s = true) (hW : s.WarmedH U.vm) (h : w ∈ TT) : w.before a' U = true := word_at hW (good_of_word (List.mem_filter.mp h).2) (hts w h)
/-- a method: its name, its code, its locals, its room, what it returns, its table -/
abbrev Mt : Type := MethodName × ByteArray × Nat × Room × Option FieldType × Option (List (Nat × Nat × Nat × Nat))
abbrev mM (M : Mt) : MethodName := M.1
abbrev mO (M : Mt) : String := M.1.cls
abbrev mC (M : Mt) : ByteArray := M.2.1
abbrev mN (M : Mt) : Nat := M.2.2.1
abbrev mR (M : Mt) : Room := M.2.2.2.1
abbrev mY (M : Mt) : Option FieldType := M.2.2.2.2.1
abbrev mH (M : Mt) : Option (List (Nat × Nat × Nat × Nat)) := M.2.2.2.2.2
def mW (M : Mt) : Cond := match mH M with
  | none => .code (mM M) (mC M) (mN M) (mY M)
  | some hh => .codeWith (mM M) (mC M) (mN M) (mY M) hh
def mX (M : Mt) : List ExceptionTableEntry := match mH M with
  | none => []
  | some hh => tableOf hh
def qPW (b : Nat) (id : Nat → ClassId) (D : va_G) (z : Bool) (N : Nat) (K : Nat → Nat → Bool) (g : Sg) (U : State) : Prop :=
  va_P D vwCl (qW b id N K g) U.heap ∧ va_K D vwCl (tyQ id) U ∧ qX b U U.heap ∧ qz z b N U.heap
def qQx (b : Nat) (id : Nat → ClassId) (D : va_G) (z : Bool) (NE : Nat) (KE : Nat → Nat → Bool) (post : Option Value → Sg → Prop) (NX : Nat) (KX : Nat → Nat → Bool) (px : String → Sg → Prop) : State → Outcome → State → Prop := fun st o t =>
  va_F (qA b) st t ∧ ((∃ (v : Option Value) (g : Sg), o = .returned v ∧ post v g ∧ va_P D vwCl (qW b id NE KE g) t.heap ∧ qz z b NE t.heap) ∨
    ∃ (x : Addr) (E : String) (cell : Cell) (g : Sg), o = .threw x ∧ px E g ∧ va_P D vwCl (qW b id NX KX g) t.heap ∧ t.heap[x]? = some cell ∧ cell.vm = .none ∧ st.vm.findClass E = some cell.cls)
/-- a contract: from the world g, with the arguments av, the method returns with post, or throws with px -/
def qCT (l : Launch) (b : Nat) (id : Nat → ClassId) (D : va_G) (M : Mt) (z : Bool) (av : List Value) (N : Nat) (K : Nat → Nat → Bool) (g : Sg) (NE : Nat) (KE : Nat → Nat → Bool) (post : Option Value → Sg → Prop) (px : String → Sg → Prop) : Prop :=
  MetFree l (mM M) (headSpec (mW M :: TT) (mR M)) (va_Pc av (qPW b id D z N K g)) (fun _ _ _ _ _ => True) (qOut (qQx b id D z NE KE post N K px) (mR M).cells (mR M).slots (qA b))
/-- what a method's body knows all along -/
def Cq (b : Nat) (id : Nat → ClassId) (D : va_G) (M : Mt) (p : Program) (s : State) (m : MethodId) (args : Array Value) (meth : Method) (c : Code) : Prop :=
  p.tables.exec = Jvm.exec ∧ c.code = mC M ∧ c.maxLocals = mN M ∧ s.vm.findClass (mO M) = some m.cls ∧ (∀ w ∈ TT, w.before args s = true) ∧ meth.locks = false ∧ meth.sig.returnType = mY M ∧ meth.name = (mM M).name ∧ c.exceptionTable.toList = mX M ∧ va_K D vwCl (tyQ id) s ∧ qX b s s.heap
/-- the machine stands at pc with these locals, this stack, the world g: it comes to an end with post or px -/
def Vq (l : Launch) (b : Nat) (id : Nat → ClassId) (D : va_G) (M : Mt) (z : Bool) (NE : Nat) (KE : Nat → Nat → Bool) (post : Option Value → Sg → Prop) (NX : Nat) (KX : Nat → Nat → Bool) (px : String → Sg → Prop) (N : Nat) (K : Nat → Nat → Bool) (ce sl pc : Nat) (lv : List (Nat × Value)) (st : List Value) (g : Sg) : Prop :=
  ∀ (p : Program) (e : Env) (s : State) (m : MethodId) (args : Array Value) (below : List Frame) (meth : Method) (c : Code), Cq b id D M p s m args meth c → ∀ (H : Heap) (locs : List Loc) (ls : Array Slot), va_P D vwCl (qW b id N K g) H → va_S (qA b) s.heap H locs → lv_has ls (mN M) lv → qz z b N H →
    W p l e (mR M) s m args below meth c H locs ce sl (qMQ below (qQx b id D z NE KE post NX KX px) s (mR M).cells (mR M).slots (qA b)) (F0 m pc ls st)
theorem lk_at {ls : Array Slot} {nL : Nat} {v : Value} {i : Nat} : ∀ {lv : List (Nat × Value)}, lv_has ls nL lv → lv.lookup i = some v → ls[i]? = some (.val v)
  | [], _, h => by simp at h
  | (j, w) :: lv, hl, h => by
    by_cases e : i = j
    · subst e
      simp [List.lookup] at h
      subst h
      exact hl.2.2 (i, w) List.mem_cons_self
    · have h2 : lv.lookup i = some v := by
        have hb : (i == j) = false := by simp [e]
        simp only [List.lookup, hb] at h
        exact h
      exact lk_at (lv := lv) ⟨hl.1, hl.2.1, fun x hx => hl.2.2 x (List.mem_cons_of_mem _ hx)⟩ h2
/-- the locals behind a store of one word, of two -/
def s1L (i : Nat) (v : Value) (lv : List (Nat × Value)) : List (Nat × Value) := (i, v) :: lv.filter (fun q => !(q.1 == i) && !(q.1 + 1 == i && q.2.category == 2))
def s2L (i : Nat) (v : Value) (lv : List (Nat × Value)) : List (Nat × Value) := (i, v) :: lv.filter (fun q => !(q.1 == i) && (!(q.1 == i + 1) && !(q.1 + 1 == i && q.2.category == 2)))
section Vb
variable {l : Launch} {b : Nat} {id : Nat → ClassId} {D : va_G} {M : Mt} {z : Bool} {NE : Nat} {KE : Nat → Nat → Bool} {post : Option Value → Sg → Prop} {NX : Nat} {KX : Nat → Nat → Bool} {px : String → Sg → Prop} {N : Nat} {K : Nat → Nat → Bool} {ce sl pc : Nat} {lv : List (Nat × Value)} {st : List Value} {g : Sg}
theorem vq_iconst {n : Int} {v : Int32} (hd : decode (mC M) pc = .ok (.iconst n, 1)) (hv : Int32.ofInt n = v) (kk : Vq l b id D M z NE KE post NX KX px N K ce sl (pc + 1) lv (.int v :: st) g) : Vq l b id D M z NE KE post NX KX px N K ce sl pc lv st g :=
  fun p e s m args below meth c X H locs ls hP hS hl hz => lv_iconst X.1 X.2.1 hd hv (kk p e s m args below meth c X H locs ls hP hS hl hz)
theorem vq_bipush {n : Int} {v : Int32} (hd : decode (mC M) pc = .ok (.bipush n, 2)) (hv : (Int8.ofInt n).toInt32 = v) (kk : Vq l b id D M z NE KE post NX KX px N K ce sl (pc + 2) lv (.int v :: st) g) : Vq l b id D M z NE KE post NX KX px N K ce sl pc lv st g :=
  fun p e s m args below meth c X H locs ls hP hS hl hz => lv_bipush X.1 X.2.1 hd hv (kk p e s m args below meth c X H locs ls hP hS hl hz)
theorem vq_sipush {n : Int} {v : Int32} (hd : decode (mC M) pc = .ok (.sipush n, 3)) (hv : (Int16.ofInt n).toInt32 = v) (kk : Vq l b id D M z NE KE post NX KX px N K ce sl (pc + 3) lv (.int v :: st) g) : Vq l b id D M z NE KE post NX KX px N K ce sl pc lv st g :=
  fun p e s m args below meth c X H locs ls hP hS hl hz => lv_sipush X.1 X.2.1 hd hv (kk p e s m args below meth c X H locs ls hP hS hl hz)
theorem vq_lconst {n : Fin 2} {v : Int64} (hd : decode (mC M) pc = .ok (.lconst n, 1)) (hv : Int64.ofNat (n : Nat) = v) (kk : Vq l b id D M z NE KE post NX KX px N K ce sl (pc + 1) lv (.long v :: st) g) : Vq l b id D M z NE KE post NX KX px N K ce sl pc lv st g :=
  fun p e s m args below meth c X H locs ls hP hS hl hz => lv_lconst X.1 X.2.1 hd hv (kk p e s m args below meth c X H locs ls hP hS hl hz)
theorem vq_ldc {index : Nat} {v : Int32} (hd : decode (mC M) pc = .ok (.ldc index, 2)) (hv : Cond.constant (mO M) index v ∈ TT) (kk : Vq l b id D M z NE KE post NX KX px N K ce sl (pc + 2) lv (.int v :: st) g) : Vq l b id D M z NE KE post NX KX px N K ce sl pc lv st g :=
  fun p e s m args below meth c X H locs ls hP hS hl hz => lv_ldc X.1 X.2.1 X.2.2.2.1 (X.2.2.2.2.1 _ hv) hd (kk p e s m args below meth c X H locs ls hP hS hl hz)
theorem vq_ldc2 {index : Nat} {v : Int64} (hd : decode (mC M) pc = .ok (.ldc2_w index, 3)) (hv : Cond.constantLong (mO M) index v ∈ TT) (kk : Vq l b id D M z NE KE post NX KX px N K ce sl (pc + 3) lv (.long v :: st) g) : Vq l b id D M z NE KE post NX KX px N K ce sl pc lv st g :=
  fun p e s m args below meth c X H locs ls hP hS hl hz => lv_ldc2 X.1 X.2.1 X.2.2.2.1 (X.2.2.2.2.1 _ hv) hd (kk p e s m args below meth c X H locs ls hP hS hl hz)
theorem vq_iload_n {k : Fin 4} {x : Int32} (hd : decode (mC M) pc = .ok (.iload_n k, 1)) (h : lv.lookup (k : Nat) = some (.int x)) (kk : Vq l b id D M z NE KE post NX KX px N K ce sl (pc + 1) lv (.int x :: st) g) : Vq l b id D M z NE KE post NX KX px N K ce sl pc lv st g :=
  fun p e s m args below meth c X H locs ls hP hS hl hz => lv_iload_n X.1 X.2.1 hd rfl (lk_at hl h) (kk p e s m args below meth c X H locs ls hP hS hl hz)
theorem vq_iload {i : Nat} {x : Int32} (hd : decode (mC M) pc = .ok (.iload i, 2)) (h : lv.lookup i = some (.int x)) (kk : Vq l b id D M z NE KE post NX KX px N K ce sl (pc + 2) lv (.int x :: st) g) : Vq l b id D M z NE KE post NX KX px N K ce sl pc lv st g :=
  fun p e s m args below meth c X H locs ls hP hS hl hz => lv_iload X.1 X.2.1 hd (lk_at hl h) (kk p e s m args below meth c X H locs ls hP hS hl hz)
theorem vq_istore_n {k : Fin 4} {x : Int32} {lv' : List (Nat × Value)} (hd : decode (mC M) pc = .ok (.istore_n k, 1)) (hn : (k : Nat) < mN M) (h : s1L (k : Nat) (.int x) lv = lv') (kk : Vq l b id D M z NE KE post NX KX px N K ce sl (pc + 1) lv' st g) : Vq l b id D M z NE KE post NX KX px N K ce sl pc lv (.int x :: st) g :=
  fun p e s m args below meth c X H locs ls hP hS hl hz => lv_istore_n X.1 X.2.1 hd rfl hl hn h (fun ls' hl' => kk p e s m args below meth c X H locs ls' hP hS hl' hz)
theorem vq_istore {i : Nat} {x : Int32} {lv' : List (Nat × Value)} (hd : decode (mC M) pc = .ok (.istore i, 2)) (hn : i < mN M) (h : s1L i (.int x) lv = lv') (kk : Vq l b id D M z NE KE post NX KX px N K ce sl (pc + 2) lv' st g) : Vq l b id D M z NE KE post NX KX px N K ce sl pc lv (.int x :: st) g :=
  fun p e s m args below meth c X H locs ls hP hS hl hz => lv_istore X.1 X.2.1 hd hl hn h (fun ls' hl' => kk p e s m args below meth c X H locs ls' hP hS hl' hz)
theorem vq_lload_n {k : Fin 4} {x : Int64} (hd : decode (mC M) pc = .ok (.lload_n k, 1)) (h : lv.lookup (k : Nat) = some (.long x)) (kk : Vq l b id D M z NE KE post NX KX px N K ce sl (pc + 1) lv (.long x :: st) g) : Vq l b id D M z NE KE post NX KX px N K ce sl pc lv st g :=
  fun p e s m args below meth c X H locs ls hP hS hl hz => lv_lload_n X.1 X.2.1 hd rfl (lk_at hl h) (kk p e s m args below meth c X H locs ls hP hS hl hz)
theorem vq_lload {i : Nat} {x : Int64} (hd : decode (mC M) pc = .ok (.lload i, 2)) (h : lv.lookup i = some (.long x)) (kk : Vq l b id D M z NE KE post NX KX px N K ce sl (pc + 2) lv (.long x :: st) g) : Vq l b id D M z NE KE post NX KX px N K ce sl pc lv st g :=
  fun p e s m args below meth c X H locs ls hP hS hl hz => lv_lload X.1 X.2.1 hd (lk_at hl h) (kk p e s m args below meth c X H locs ls hP hS hl hz)
theorem vq_lstore_n {k : Fin 4} {x : Int64} {lv' : List (Nat × Value)} (hd : decode (mC M) pc = .ok (.lstore_n k, 1)) (hn : (k : Nat) + 1 < mN M) (h : s2L (k : Nat) (.long x) lv = lv') (kk : Vq l b id D M z NE KE post NX KX px N K ce sl (pc + 1) lv' st g) : Vq l b id D M z NE KE post NX KX px N K ce sl pc lv (.long x :: st) g :=
  fun p e s m args below meth c X H locs ls hP hS hl hz => lv_lstore_n X.1 X.2.1 hd rfl hl hn h (fun ls' hl' => kk p e s m args below meth c X H locs ls' hP hS hl' hz)
theorem vq_lstore {i : Nat} {x : Int64} {lv' : List (Nat × Value)} (hd : decode (mC M) pc = .ok (.lstore i, 2)) (hn : i + 1 < mN M) (h : s2L i (.long x) lv = lv') (kk : Vq l b id D M z NE KE post NX KX px N K ce sl (pc + 2) lv' st g) : Vq l b id D M z NE KE post NX KX px N K ce sl pc lv (.long x :: st) g :=
  fun p e s m args below meth c X H locs ls hP hS hl hz => lv_lstore X.1 X.2.1 hd hl hn h (fun ls' hl' => kk p e s m args below meth c X H locs ls' hP hS hl' hz)
theorem vq_aload_n {k : Fin 4} {x : Nat} (hd : decode (mC M) pc = .ok (.aload_n k, 1)) (h : lv.lookup (k : Nat) = some (.ref x)) (kk : Vq l b id D M z NE KE post NX KX px N K ce sl (pc + 1) lv (.ref x :: st) g) : Vq l b id D M z NE KE post NX KX px N K ce sl pc lv st g :=
  fun p e s m args below meth c X H locs ls hP hS hl hz => lv_aload_n X.1 X.2.1 hd rfl (lk_at hl h) (kk p e s m args below meth c X H locs ls hP hS hl hz)
theorem vq_aload {i : Nat} {x : Nat} (hd : decode (mC M) pc = .ok (.aload i, 2)) (h : lv.lookup i = some (.ref x)) (kk : Vq l b id D M z NE KE post NX KX px N K ce sl (pc + 2) lv (.ref x :: st) g) : Vq l b id D M z NE KE post NX KX px N K ce sl pc lv st g :=
  fun p e s m args below meth c X H locs ls hP hS hl hz => lv_aload X.1 X.2.1 hd (lk_at hl h) (kk p e s m args below meth c X H locs ls hP hS hl hz)
theorem vq_astore_n {k : Fin 4} {x : Nat} {lv' : List (Nat × Value)} (hd : decode (mC M) pc = .ok (.astore_n k, 1)) (hn : (k : Nat) < mN M) (h : s1L (k : Nat) (.ref x) lv = lv') (kk : Vq l b id D M z NE KE post NX KX px N K ce sl (pc + 1) lv' st g) : Vq l b id D M z NE KE post NX KX px N K ce sl pc lv (.ref x :: st) g :=
  fun p e s m args below meth c X H locs ls hP hS hl hz => lv_astore_n X.1 X.2.1 hd rfl hl hn h (fun ls' hl' => kk p e s m args below meth c X H locs ls' hP hS hl' hz)
theorem vq_astore {i : Nat} {x : Nat} {lv' : List (Nat × Value)} (hd : decode (mC M) pc = .ok (.astore i, 2)) (hn : i < mN M) (h : s1L i (.ref x) lv = lv') (kk : Vq l b id D M z NE KE post NX KX px N K ce sl (pc + 2) lv' st g) : Vq l b id D M z NE KE post NX KX px N K ce sl pc lv (.ref x :: st) g :=
  fun p e s m args below meth c X H locs ls hP hS hl hz => lv_astore X.1 X.2.1 hd hl hn h (fun ls' hl' => kk p e s m args below meth c X H locs ls' hP hS hl' hz)
theorem vq_iinc {i k : Nat} {n : Int} {x v : Int32} {lv' : List (Nat × Value)} (hd : decode (mC M) pc = .ok (.iinc i n, 3)) (hk : lv[k]? = some (i, .int x)) (hv : x + Int32.ofInt n = v) (hn : i < mN M) (h : s1L i (.int v) lv = lv') (kk : Vq l b id D M z NE KE post NX KX px N K ce sl (pc + 3) lv' st g) : Vq l b id D M z NE KE post NX KX px N K ce sl pc lv st g :=
  fun p e s m args below meth c X H locs ls hP hS hl hz => lv_iinc X.1 X.2.1 hd hl hk hv hn h (fun ls' hl' => kk p e s m args below meth c X H locs ls' hP hS hl' hz)
theorem vq_iadd {x y : Int32} (hd : decode (mC M) pc = .ok (.iadd, 1)) (kk : Vq l b id D M z NE KE post NX KX px N K ce sl (pc + 1) lv (.int (x + y) :: st) g) : Vq l b id D M z NE KE post NX KX px N K ce sl pc lv (.int y :: .int x :: st) g :=
  fun p e s m args below meth c X H locs ls hP hS hl hz => lv_iadd X.1 X.2.1 hd (kk p e s m args below meth c X H locs ls hP hS hl hz)
theorem vq_isub {x y : Int32} (hd : decode (mC M) pc = .ok (.isub, 1)) (kk : Vq l b id D M z NE KE post NX KX px N K ce sl (pc + 1) lv (.int (x - y) :: st) g) : Vq l b id D M z NE KE post NX KX px N K ce sl pc lv (.int y :: .int x :: st) g :=
  fun p e s m args below meth c X H locs ls hP hS hl hz => lv_isub X.1 X.2.1 hd (kk p e s m args below meth c X H locs ls hP hS hl hz)
theorem vq_imul {x y : Int32} (hd : decode (mC M) pc = .ok (.imul, 1)) (kk : Vq l b id D M z NE KE post NX KX px N K ce sl (pc + 1) lv (.int (x * y) :: st) g) : Vq l b id D M z NE KE post NX KX px N K ce sl pc lv (.int y :: .int x :: st) g :=
  fun p e s m args below meth c X H locs ls hP hS hl hz => lv_imul X.1 X.2.1 hd (kk p e s m args below meth c X H locs ls hP hS hl hz)
theorem vq_iand {x y : Int32} (hd : decode (mC M) pc = .ok (.iand, 1)) (kk : Vq l b id D M z NE KE post NX KX px N K ce sl (pc + 1) lv (.int (x &&& y) :: st) g) : Vq l b id D M z NE KE post NX KX px N K ce sl pc lv (.int y :: .int x :: st) g :=
  fun p e s m args below meth c X H locs ls hP hS hl hz => lv_iand X.1 X.2.1 hd (kk p e s m args below meth c X H locs ls hP hS hl hz)
theorem vq_ior {x y : Int32} (hd : decode (mC M) pc = .ok (.ior, 1)) (kk : Vq l b id D M z NE KE post NX KX px N K ce sl (pc + 1) lv (.int (x ||| y) :: st) g) : Vq l b id D M z NE KE post NX KX px N K ce sl pc lv (.int y :: .int x :: st) g :=
  fun p e s m args below meth c X H locs ls hP hS hl hz => lv_ior X.1 X.2.1 hd (kk p e s m args below meth c X H locs ls hP hS hl hz)
theorem vq_ixor {x y : Int32} (hd : decode (mC M) pc = .ok (.ixor, 1)) (kk : Vq l b id D M z NE KE post NX KX px N K ce sl (pc + 1) lv (.int (x ^^^ y) :: st) g) : Vq l b id D M z NE KE post NX KX px N K ce sl pc lv (.int y :: .int x :: st) g :=
  fun p e s m args below meth c X H locs ls hP hS hl hz => lv_ixor X.1 X.2.1 hd (kk p e s m args below meth c X H locs ls hP hS hl hz)
theorem vq_ladd {x y : Int64} (hd : decode (mC M) pc = .ok (.ladd, 1)) (kk : Vq l b id D M z NE KE post NX KX px N K ce sl (pc + 1) lv (.long (x + y) :: st) g) : Vq l b id D M z NE KE post NX KX px N K ce sl pc lv (.long y :: .long x :: st) g :=
  fun p e s m args below meth c X H locs ls hP hS hl hz => lv_ladd X.1 X.2.1 hd (kk p e s m args below meth c X H locs ls hP hS hl hz)
theorem vq_lsub {x y : Int64} (hd : decode (mC M) pc = .ok (.lsub, 1)) (kk : Vq l b id D M z NE KE post NX KX px N K ce sl (pc + 1) lv (.long (x - y) :: st) g) : Vq l b id D M z NE KE post NX KX px N K ce sl pc lv (.long y :: .long x :: st) g :=
  fun p e s m args below meth c X H locs ls hP hS hl hz => lv_lsub X.1 X.2.1 hd (kk p e s m args below meth c X H locs ls hP hS hl hz)
theorem vq_lmul {x y : Int64} (hd : decode (mC M) pc = .ok (.lmul, 1)) (kk : Vq l b id D M z NE KE post NX KX px N K ce sl (pc + 1) lv (.long (x * y) :: st) g) : Vq l b id D M z NE KE post NX KX px N K ce sl pc lv (.long y :: .long x :: st) g :=
  fun p e s m args below meth c X H locs ls hP hS hl hz => lv_lmul X.1 X.2.1 hd (kk p e s m args below meth c X H locs ls hP hS hl hz)
theorem vq_lor {x y : Int64} (hd : decode (mC M) pc = .ok (.lor, 1)) (kk : Vq l b id D M z NE KE post NX KX px N K ce sl (pc + 1) lv (.long (x ||| y) :: st) g) : Vq l b id D M z NE KE post NX KX px N K ce sl pc lv (.long y :: .long x :: st) g :=
  fun p e s m args below meth c X H locs ls hP hS hl hz => lv_lor X.1 X.2.1 hd (kk p e s m args below meth c X H locs ls hP hS hl hz)
theorem vq_land {x y : Int64} (hd : decode (mC M) pc = .ok (.land, 1)) (kk : Vq l b id D M z NE KE post NX KX px N K ce sl (pc + 1) lv (.long (x &&& y) :: st) g) : Vq l b id D M z NE KE post NX KX px N K ce sl pc lv (.long y :: .long x :: st) g :=
  fun p e s m args below meth c X H locs ls hP hS hl hz => lv_land X.1 X.2.1 hd (kk p e s m args below meth c X H locs ls hP hS hl hz)
theorem vq_ldiv {x y : Int64} (hd : decode (mC M) pc = .ok (.ldiv, 1)) (hne : ¬ y = 0) (kk : Vq l b id D M z NE KE post NX KX px N K ce sl (pc + 1) lv (.long (x / y) :: st) g) : Vq l b id D M z NE KE post NX KX px N K ce sl pc lv (.long y :: .long x :: st) g :=
  fun p e s m args below meth c X H locs ls hP hS hl hz => lv_ldiv X.1 X.2.1 hd hne (kk p e s m args below meth c X H locs ls hP hS hl hz)
theorem vq_lrem {x y : Int64} (hd : decode (mC M) pc = .ok (.lrem, 1)) (hne : ¬ y = 0) (kk : Vq l b id D M z NE KE post NX KX px N K ce sl (pc + 1) lv (.long (x - x / y * y) :: st) g) : Vq l b id D M z NE KE post NX KX px N K ce sl pc lv (.long y :: .long x :: st) g :=
  fun p e s m args below meth c X H locs ls hP hS hl hz => lv_lrem X.1 X.2.1 hd hne (kk p e s m args below meth c X H locs ls hP hS hl hz)
theorem vq_ishl {x y : Int32} (hd : decode (mC M) pc = .ok (.ishl, 1)) (kk : Vq l b id D M z NE KE post NX KX px N K ce sl (pc + 1) lv (.int (x <<< (y &&& 31)) :: st) g) : Vq l b id D M z NE KE post NX KX px N K ce sl pc lv (.int y :: .int x :: st) g :=
  fun p e s m args below meth c X H locs ls hP hS hl hz => lv_ishl X.1 X.2.1 hd (kk p e s m args below meth c X H locs ls hP hS hl hz)
theorem vq_lshl {x v : Int64} {y : Int32} (hd : decode (mC M) pc = .ok (.lshl, 1)) (hv : x <<< (y.toInt64 &&& 63) = v) (kk : Vq l b id D M z NE KE post NX KX px N K ce sl (pc + 1) lv (.long v :: st) g) : Vq l b id D M z NE KE post NX KX px N K ce sl pc lv (.int y :: .long x :: st) g :=
  fun p e s m args below meth c X H locs ls hP hS hl hz => lv_lshl X.1 X.2.1 hd hv (kk p e s m args below meth c X H locs ls hP hS hl hz)
theorem vq_i2l {x : Int32} {v : Int64} (hd : decode (mC M) pc = .ok (.i2l, 1)) (hv : x.toInt64 = v) (kk : Vq l b id D M z NE KE post NX KX px N K ce sl (pc + 1) lv (.long v :: st) g) : Vq l b id D M z NE KE post NX KX px N K ce sl pc lv (.int x :: st) g :=
  fun p e s m args below meth c X H locs ls hP hS hl hz => lv_i2l X.1 X.2.1 hd hv (kk p e s m args below meth c X H locs ls hP hS hl hz)
theorem vq_l2i {x : Int64} {v : Int32} (hd : decode (mC M) pc = .ok (.l2i, 1)) (hv : x.toInt32 = v) (kk : Vq l b id D M z NE KE post NX KX px N K ce sl (pc + 1) lv (.int v :: st) g) : Vq l b id D M z NE KE post NX KX px N K ce sl pc lv (.long x :: st) g :=
  fun p e s m args below meth c X H locs ls hP hS hl hz => lv_l2i X.1 X.2.1 hd hv (kk p e s m args below meth c X H locs ls hP hS hl hz)
theorem vq_lcmp {x y : Int64} (hd : decode (mC M) pc = .ok (.lcmp, 1)) (kk : Vq l b id D M z NE KE post NX KX px N K ce sl (pc + 1) lv (.int (lg_cmp x y) :: st) g) : Vq l b id D M z NE KE post NX KX px N K ce sl pc lv (.long y :: .long x :: st) g :=
  fun p e s m args below meth c X H locs ls hP hS hl hz => W.lcmp X.1 X.2.1 hd (kk p e s m args below meth c X H locs ls hP hS hl hz)
theorem vq_dup {va : Value} (hd : decode (mC M) pc = .ok (.dup, 1)) (hva : va.category = 1) (kk : Vq l b id D M z NE KE post NX KX px N K ce sl (pc + 1) lv (va :: va :: st) g) : Vq l b id D M z NE KE post NX KX px N K ce sl pc lv (va :: st) g :=
  fun p e s m args below meth c X H locs ls hP hS hl hz => lv_dup X.1 X.2.1 hd hva (kk p e s m args below meth c X H locs ls hP hS hl hz)
theorem vq_pop {va : Value} (hd : decode (mC M) pc = .ok (.pop, 1)) (hva : va.category = 1) (kk : Vq l b id D M z NE KE post NX KX px N K ce sl (pc + 1) lv st g) : Vq l b id D M z NE KE post NX KX px N K ce sl pc lv (va :: st) g :=
  fun p e s m args below meth c X H locs ls hP hS hl hz => lv_pop X.1 X.2.1 hd hva (kk p e s m args below meth c X H locs ls hP hS hl hz)
theorem vq_dup_x1 {va vb : Value} (hd : decode (mC M) pc = .ok (.dup_x1, 1)) (hva : va.category = 1) (hvb : vb.category = 1) (kk : Vq l b id D M z NE KE post NX KX px N K ce sl (pc + 1) lv (va :: vb :: va :: st) g) : Vq l b id D M z NE KE post NX KX px N K ce sl pc lv (va :: vb :: st) g :=
  fun p e s m args below meth c X H locs ls hP hS hl hz => lv_dup_x1 X.1 X.2.1 hd hva hvb (kk p e s m args below meth c X H locs ls hP hS hl hz)
theorem vq_dup_x2 {va vb vd : Value} (hd : decode (mC M) pc = .ok (.dup_x2, 1)) (hva : va.category = 1) (hvb : vb.category = 1) (hvd : vd.category = 1) (kk : Vq l b id D M z NE KE post NX KX px N K ce sl (pc + 1) lv (va :: vb :: vd :: va :: st) g) : Vq l b id D M z NE KE post NX KX px N K ce sl pc lv (va :: vb :: vd :: st) g :=
  fun p e s m args below meth c X H locs ls hP hS hl hz => lv_dup_x2 X.1 X.2.1 hd hva hvb hvd (kk p e s m args below meth c X H locs ls hP hS hl hz)
theorem vq_dup2_11 {va vb : Value} (hd : decode (mC M) pc = .ok (.dup2, 1)) (hva : va.category = 1) (hvb : vb.category = 1) (kk : Vq l b id D M z NE KE post NX KX px N K ce sl (pc + 1) lv (va :: vb :: va :: vb :: st) g) : Vq l b id D M z NE KE post NX KX px N K ce sl pc lv (va :: vb :: st) g :=
  fun p e s m args below meth c X H locs ls hP hS hl hz => lv_dup2_11 X.1 X.2.1 hd hva hvb (kk p e s m args below meth c X H locs ls hP hS hl hz)
theorem vq_dup2_2 {va : Value} (hd : decode (mC M) pc = .ok (.dup2, 1)) (hva : va.category = 2) (kk : Vq l b id D M z NE KE post NX KX px N K ce sl (pc + 1) lv (va :: va :: st) g) : Vq l b id D M z NE KE post NX KX px N K ce sl pc lv (va :: st) g :=
  fun p e s m args below meth c X H locs ls hP hS hl hz => lv_dup2_2 X.1 X.2.1 hd hva (kk p e s m args below meth c X H locs ls hP hS hl hz)
theorem vq_dup2_x1_2 {va vb : Value} (hd : decode (mC M) pc = .ok (.dup2_x1, 1)) (hva : va.category = 2) (hvb : vb.category = 1) (kk : Vq l b id D M z NE KE post NX KX px N K ce sl (pc + 1) lv (va :: vb :: va :: st) g) : Vq l b id D M z NE KE post NX KX px N K ce sl pc lv (va :: vb :: st) g :=
  fun p e s m args below meth c X H locs ls hP hS hl hz => lv_dup2_x1_2 X.1 X.2.1 hd hva hvb (kk p e s m args below meth c X H locs ls hP hS hl hz)
theorem vq_dup2_x2_2 {va vb vd : Value} (hd : decode (mC M) pc = .ok (.dup2_x2, 1)) (hva : va.category = 2) (hvb : vb.category = 1) (hvd : vd.category = 1) (kk : Vq l b id D M z NE KE post NX KX px N K ce sl (pc + 1) lv (va :: vb :: vd :: va :: st) g) : Vq l b id D M z NE KE post NX KX px N K ce sl pc lv (va :: vb :: vd :: st) g :=
  fun p e s m args below meth c X H locs ls hP hS hl hz => lv_dup2_x2_2 X.1 X.2.1 hd hva hvb hvd (kk p e s m args below meth c X H locs ls hP hS hl hz)
theorem vq_if_eq {x : Int32} {off : Int} {tgt : Nat} (hd : decode (mC M) pc = .ok (.ifCond .eq off, 3)) (ht : (pc : Int) + off = (tgt : Int)) (kt : x = 0 → Vq l b id D M z NE KE post NX KX px N K ce sl tgt lv st g) (kf : ¬ x = 0 → Vq l b id D M z NE KE post NX KX px N K ce sl (pc + 3) lv st g) : Vq l b id D M z NE KE post NX KX px N K ce sl pc lv (.int x :: st) g :=
  fun p e s m args below meth c X H locs ls hP hS hl hz => lv_if_eq X.1 X.2.1 hd ht (fun h => kt h p e s m args below meth c X H locs ls hP hS hl hz) (fun h => kf h p e s m args below meth c X H locs ls hP hS hl hz)
theorem vq_icmp_eq {x y : Int32} {off : Int} {tgt : Nat} (hd : decode (mC M) pc = .ok (.if_icmp .eq off, 3)) (ht : (pc : Int) + off = (tgt : Int)) (kt : x = y → Vq l b id D M z NE KE post NX KX px N K ce sl tgt lv st g) (kf : ¬ x = y → Vq l b id D M z NE KE post NX KX px N K ce sl (pc + 3) lv st g) : Vq l b id D M z NE KE post NX KX px N K ce sl pc lv (.int y :: .int x :: st) g :=
  fun p e s m args below meth c X H locs ls hP hS hl hz => lv_icmp_eq X.1 X.2.1 hd ht (fun h => kt h p e s m args below meth c X H locs ls hP hS hl hz) (fun h => kf h p e s m args below meth c X H locs ls hP hS hl hz)
theorem vq_if_ne {x : Int32} {off : Int} {tgt : Nat} (hd : decode (mC M) pc = .ok (.ifCond .ne off, 3)) (ht : (pc : Int) + off = (tgt : Int)) (kt : ¬ x = 0 → Vq l b id D M z NE KE post NX KX px N K ce sl tgt lv st g) (kf : x = 0 → Vq l b id D M z NE KE post NX KX px N K ce sl (pc + 3) lv st g) : Vq l b id D M z NE KE post NX KX px N K ce sl pc lv (.int x :: st) g :=
  fun p e s m args below meth c X H locs ls hP hS hl hz => lv_if_ne X.1 X.2.1 hd ht (fun h => kt h p e s m args below meth c X H locs ls hP hS hl hz) (fun h => kf h p e s m args below meth c X H locs ls hP hS hl hz)
theorem vq_icmp_ne {x y : Int32} {off : Int} {tgt : Nat} (hd : decode (mC M) pc = .ok (.if_icmp .ne off, 3)) (ht : (pc : Int) + off = (tgt : Int)) (kt : ¬ x = y → Vq l b id D M z NE KE post NX KX px N K ce sl tgt lv st g) (kf : x = y → Vq l b id D M z NE KE post NX KX px N K ce sl (pc + 3) lv st g) : Vq l b id D M z NE KE post NX KX px N K ce sl pc lv (.int y :: .int x :: st) g :=
  fun p e s m args below meth c X H locs ls hP hS hl hz => lv_icmp_ne X.1 X.2.1 hd ht (fun h => kt h p e s m args below meth c X H locs ls hP hS hl hz) (fun h => kf h p e s m args below meth c X H locs ls hP hS hl hz)
theorem vq_if_lt {x : Int32} {off : Int} {tgt : Nat} (hd : decode (mC M) pc = .ok (.ifCond .lt off, 3)) (ht : (pc : Int) + off = (tgt : Int)) (kt : x < 0 → Vq l b id D M z NE KE post NX KX px N K ce sl tgt lv st g) (kf : ¬ x < 0 → Vq l b id D M z NE KE post NX KX px N K ce sl (pc + 3) lv st g) : Vq l b id D M z NE KE post NX KX px N K ce sl pc lv (.int x :: st) g :=
  fun p e s m args below meth c X H locs ls hP hS hl hz => lv_if_lt X.1 X.2.1 hd ht (fun h => kt h p e s m args below meth c X H locs ls hP hS hl hz) (fun h => kf h p e s m args below meth c X H locs ls hP hS hl hz)
theorem vq_icmp_lt {x y : Int32} {off : Int} {tgt : Nat} (hd : decode (mC M) pc = .ok (.if_icmp .lt off, 3)) (ht : (pc : Int) + off = (tgt : Int)) (kt : x < y → Vq l b id D M z NE KE post NX KX px N K ce sl tgt lv st g) (kf : ¬ x < y → Vq l b id D M z NE KE post NX KX px N K ce sl (pc + 3) lv st g) : Vq l b id D M z NE KE post NX KX px N K ce sl pc lv (.int y :: .int x :: st) g :=
  fun p e s m args below meth c X H locs ls hP hS hl hz => lv_icmp_lt X.1 X.2.1 hd ht (fun h => kt h p e s m args below meth c X H locs ls hP hS hl hz) (fun h => kf h p e s m args below meth c X H locs ls hP hS hl hz)
theorem vq_if_ge {x : Int32} {off : Int} {tgt : Nat} (hd : decode (mC M) pc = .ok (.ifCond .ge off, 3)) (ht : (pc : Int) + off = (tgt : Int)) (kt : 0 ≤ x → Vq l b id D M z NE KE post NX KX px N K ce sl tgt lv st g) (kf : ¬ 0 ≤ x → Vq l b id D M z NE KE post NX KX px N K ce sl (pc + 3) lv st g) : Vq l b id D M z NE KE post NX KX px N K ce sl pc lv (.int x :: st) g :=
  fun p e s m args below meth c X H locs ls hP hS hl hz => lv_if_ge X.1 X.2.1 hd ht (fun h => kt h p e s m args below meth c X H locs ls hP hS hl hz) (fun h => kf h p e s m args below meth c X H locs ls hP hS hl hz)
theorem vq_icmp_ge {x y : Int32} {off : Int} {tgt : Nat} (hd : decode (mC M) pc = .ok (.if_icmp .ge off, 3)) (ht : (pc : Int) + off = (tgt : Int)) (kt : y ≤ x → Vq l b id D M z NE KE post NX KX px N K ce sl tgt lv st g) (kf : ¬ y ≤ x → Vq l b id D M z NE KE post NX KX px N K ce sl (pc + 3) lv st g) : Vq l b id D M z NE KE post NX KX px N K ce sl pc lv (.int y :: .int x :: st) g :=
  fun p e s m args below meth c X H locs ls hP hS hl hz => lv_icmp_ge X.1 X.2.1 hd ht (fun h => kt h p e s m args below meth c X H locs ls hP hS hl hz) (fun h => kf h p e s m args below meth c X H locs ls hP hS hl hz)
theorem vq_if_gt {x : Int32} {off : Int} {tgt : Nat} (hd : decode (mC M) pc = .ok (.ifCond .gt off, 3)) (ht : (pc : Int) + off = (tgt : Int)) (kt : 0 < x → Vq l b id D M z NE KE post NX KX px N K ce sl tgt lv st g) (kf : ¬ 0 < x → Vq l b id D M z NE KE post NX KX px N K ce sl (pc + 3) lv st g) : Vq l b id D M z NE KE post NX KX px N K ce sl pc lv (.int x :: st) g :=
  fun p e s m args below meth c X H locs ls hP hS hl hz => lv_if_gt X.1 X.2.1 hd ht (fun h => kt h p e s m args below meth c X H locs ls hP hS hl hz) (fun h => kf h p e s m args below meth c X H locs ls hP hS hl hz)
theorem vq_icmp_gt {x y : Int32} {off : Int} {tgt : Nat} (hd : decode (mC M) pc = .ok (.if_icmp .gt off, 3)) (ht : (pc : Int) + off = (tgt : Int)) (kt : y < x → Vq l b id D M z NE KE post NX KX px N K ce sl tgt lv st g) (kf : ¬ y < x → Vq l b id D M z NE KE post NX KX px N K ce sl (pc + 3) lv st g) : Vq l b id D M z NE KE post NX KX px N K ce sl pc lv (.int y :: .int x :: st) g :=
  fun p e s m args below meth c X H locs ls hP hS hl hz => lv_icmp_gt X.1 X.2.1 hd ht (fun h => kt h p e s m args below meth c X H locs ls hP hS hl hz) (fun h => kf h p e s m args below meth c X H locs ls hP hS hl hz)
theorem vq_if_le {x : Int32} {off : Int} {tgt : Nat} (hd : decode (mC M) pc = .ok (.ifCond .le off, 3)) (ht : (pc : Int) + off = (tgt : Int)) (kt : x ≤ 0 → Vq l b id D M z NE KE post NX KX px N K ce sl tgt lv st g) (kf : ¬ x ≤ 0 → Vq l b id D M z NE KE post NX KX px N K ce sl (pc + 3) lv st g) : Vq l b id D M z NE KE post NX KX px N K ce sl pc lv (.int x :: st) g :=
  fun p e s m args below meth c X H locs ls hP hS hl hz => lv_if_le X.1 X.2.1 hd ht (fun h => kt h p e s m args below meth c X H locs ls hP hS hl hz) (fun h => kf h p e s m args below meth c X H locs ls hP hS hl hz)
theorem vq_icmp_le {x y : Int32} {off : Int} {tgt : Nat} (hd : decode (mC M) pc = .ok (.if_icmp .le off, 3)) (ht : (pc : Int) + off = (tgt : Int)) (kt : x ≤ y → Vq l b id D M z NE KE post NX KX px N K ce sl tgt lv st g) (kf : ¬ x ≤ y → Vq l b id D M z NE KE post NX KX px N K ce sl (pc + 3) lv st g) : Vq l b id D M z NE KE post NX KX px N K ce sl pc lv (.int y :: .int x :: st) g :=
  fun p e s m args below meth c X H locs ls hP hS hl hz => lv_icmp_le X.1 X.2.1 hd ht (fun h => kt h p e s m args below meth c X H locs ls hP hS hl hz) (fun h => kf h p e s m args below meth c X H locs ls hP hS hl hz)
theorem vq_goto {off : Int} {tgt : Nat} (hd : decode (mC M) pc = .ok (.goto off, 3)) (ht : (pc : Int) + off = (tgt : Int)) (kk : Vq l b id D M z NE KE post NX KX px N K ce sl tgt lv st g) : Vq l b id D M z NE KE post NX KX px N K ce sl pc lv st g :=
  fun p e s m args below meth c X H locs ls hP hS hl hz => lv_goto X.1 X.2.1 hd ht (kk p e s m args below meth c X H locs ls hP hS hl hz)
theorem vq_iald {q k : Nat} {i : Int32} (hd : decode (mC M) pc = .ok (.iaload, 1)) (hq : q < N) (hk : qK q = 1) (hi : i = nI k) (hlt : k < qL q) (kk : Vq l b id D M z NE KE post NX KX px N K ce sl (pc + 1) lv (.int (g.1 q k) :: st) g) : Vq l b id D M z NE KE post NX KX px N K ce sl pc lv (.int i :: .ref (b + q) :: st) g := by
  intro p e s m args below meth c X H locs ls hP hS hl hz
  subst hi
  have h31 := qL_lt q
  refine va_iald X.1 X.2.1 X.2.2.2.2.2.2.2.2.2.1 hP q 0 (by rw [qW_get hq, qE_1 hk]) rfl (vp_in_nI hlt h31) hd ?_
  rw [nI_clamp (Nat.lt_trans hlt h31)]
  exact (kk p e s m args below meth c X H locs ls hP hS hl hz)
theorem vq_zald {q k : Nat} {i : Int32} (hd : decode (mC M) pc = .ok (.baload, 1)) (hq : q < N) (hk : qK q = 2) (hi : i = nI k) (hlt : k < qL q) (kk : Vq l b id D M z NE KE post NX KX px N K ce sl (pc + 1) lv (.int (g.1 q k) :: st) g) : Vq l b id D M z NE KE post NX KX px N K ce sl pc lv (.int i :: .ref (b + q) :: st) g := by
  intro p e s m args below meth c X H locs ls hP hS hl hz
  subst hi
  have h31 := qL_lt q
  refine va_zald X.1 X.2.1 X.2.2.2.2.2.2.2.2.2.1 hP q 1 (by rw [qW_get hq, qE_2 hk]) rfl (vp_in_nI hlt h31) hd ?_
  rw [nI_clamp (Nat.lt_trans hlt h31)]
  exact (kk p e s m args below meth c X H locs ls hP hS hl hz)
theorem vq_lald {q k : Nat} {i : Int32} (hd : decode (mC M) pc = .ok (.laload, 1)) (hq : q < N) (hk : qK q = 3) (hi : i = nI k) (hlt : k < qL q) (kk : Vq l b id D M z NE KE post NX KX px N K ce sl (pc + 1) lv (.long (g.2 q k) :: st) g) : Vq l b id D M z NE KE post NX KX px N K ce sl pc lv (.int i :: .ref (b + q) :: st) g := by
  intro p e s m args below meth c X H locs ls hP hS hl hz
  subst hi
  have h31 := qL_lt q
  refine va_lald X.1 X.2.1 X.2.2.2.2.2.2.2.2.2.1 hP q 2 (by rw [qW_get hq, qE_3 hk]) rfl (vp_in_nI hlt h31) hd ?_
  rw [nI_clamp (Nat.lt_trans hlt h31)]
  exact (kk p e s m args below meth c X H locs ls hP hS hl hz)
theorem vq_iast {q k : Nat} {i : Int32} {x : Int32} (hd : decode (mC M) pc = .ok (.iastore, 1)) (hz0 : z = false) (hq : q < N) (hk : qK q = 1) (hi : i = nI k) (hlt : k < qL q) (kk : Vq l b id D M z NE KE post NX KX px N K ce sl (pc + 1) lv st (sI g q (upd (g.1 q) k x))) : Vq l b id D M z NE KE post NX KX px N K ce sl pc lv (.int x :: .int i :: .ref (b + q) :: st) g := by
  intro p e s m args below meth c X H locs ls hP hS hl hz
  subst hi
  have h31 := qL_lt q
  refine va_iast X.1 X.2.1 X.2.2.2.2.2.2.2.2.2.1 hP (qW_D hz.2) hS q 0 (by rw [qW_get hq, qE_1 hk]) rfl (vp_in_nI hlt h31) hd (fun H1 locs1 hP1 hD1 hS1 => ?_)
  rw [nI_clamp (Nat.lt_trans hlt h31), qW_s1 hq hk] at hP1
  exact kk p e s m args below meth c X H1 locs1 ls hP1 hS1 hl ⟨fun h => (by rw [hz0] at h; cases h), hz.2⟩
theorem vq_last {q k : Nat} {i : Int32} {x : Int64} (hd : decode (mC M) pc = .ok (.lastore, 1)) (hz0 : z = false) (hq : q < N) (hk : qK q = 3) (hi : i = nI k) (hlt : k < qL q) (kk : Vq l b id D M z NE KE post NX KX px N K ce sl (pc + 1) lv st (sJ g q (vp_updL (g.2 q) k x))) : Vq l b id D M z NE KE post NX KX px N K ce sl pc lv (.long x :: .int i :: .ref (b + q) :: st) g := by
  intro p e s m args below meth c X H locs ls hP hS hl hz
  subst hi
  have h31 := qL_lt q
  refine va_last X.1 X.2.1 X.2.2.2.2.2.2.2.2.2.1 hP (qW_D hz.2) hS q 2 (by rw [qW_get hq, qE_3 hk]) rfl (vp_in_nI hlt h31) hd (fun H1 locs1 hP1 hD1 hS1 => ?_)
  rw [nI_clamp (Nat.lt_trans hlt h31), qW_s3 hq hk] at hP1
  exact kk p e s m args below meth c X H1 locs1 ls hP1 hS1 hl ⟨fun h => (by rw [hz0] at h; cases h), hz.2⟩
theorem vq_zast {q k : Nat} {i x : Int32} (hd : decode (mC M) pc = .ok (.bastore, 1)) (hz0 : z = false) (hq : q < N) (hk : qK q = 2) (hi : i = nI k) (hlt : k < qL q) (hx : x = 0 ∨ x = 1) (kk : Vq l b id D M z NE KE post NX KX px N K ce sl (pc + 1) lv st (sI g q (upd (g.1 q) k x))) : Vq l b id D M z NE KE post NX KX px N K ce sl pc lv (.int x :: .int i :: .ref (b + q) :: st) g := by
  intro p e s m args below meth c X H locs ls hP hS hl hz
  subst hi
  have h31 := qL_lt q
  refine va_zast X.1 X.2.1 X.2.2.2.2.2.2.2.2.2.1 hP (qW_D hz.2) hS q 1 (by rw [qW_get hq, qE_2 hk]) rfl (vp_in_nI hlt h31) hd (fun H1 locs1 hP1 hD1 hS1 => ?_)
  have hn : vp_nar .boolean x = x := by rcases hx with rfl | rfl <;> decide
  rw [nI_clamp (Nat.lt_trans hlt h31), hn, qW_s2 hq hk] at hP1
  exact kk p e s m args below meth c X H1 locs1 ls hP1 hS1 hl ⟨fun h => (by rw [hz0] at h; cases h), hz.2⟩
theorem vq_alen {q : Nat} (hd : decode (mC M) pc = .ok (.arraylength, 1)) (hq : q < N) (hk : qK q = 1 ∨ qK q = 2 ∨ qK q = 3) (kk : Vq l b id D M z NE KE post NX KX px N K ce sl (pc + 1) lv (.int (nI (qL q)) :: st) g) : Vq l b id D M z NE KE post NX KX px N K ce sl pc lv (.ref (b + q) :: st) g := by
  intro p e s m args below meth c X H locs ls hP hS hl hz
  rcases hk with hk | hk | hk
  · exact va_alen X.1 X.2.1 X.2.2.2.2.2.2.2.2.2.1 hP q 0 (x := (qL q, .inl (g.1 q))) (by rw [qW_get hq, qE_1 hk]) rfl rfl hd (kk p e s m args below meth c X H locs ls hP hS hl hz)
  · exact va_alen X.1 X.2.1 X.2.2.2.2.2.2.2.2.2.1 hP q 1 (x := (qL q, .inl (g.1 q))) (by rw [qW_get hq, qE_2 hk]) rfl rfl hd (kk p e s m args below meth c X H locs ls hP hS hl hz)
  · exact va_alen X.1 X.2.1 X.2.2.2.2.2.2.2.2.2.1 hP q 2 (x := (qL q, .inr (.inl (g.2 q)))) (by rw [qW_get hq, qE_3 hk]) rfl rfl hd (kk p e s m args below meth c X H locs ls hP hS hl hz)
theorem vq_aald4 {q k : Nat} {i : Int32} (hd : decode (mC M) pc = .ok (.aaload, 1)) (hq : q < N) (hk : qK q = 4) (hi : i = nI k) (hlt : k < qL q) (kk : Vq l b id D M z NE KE post NX KX px N K ce sl (pc + 1) lv (.ref (b + (qC q + k)) :: st) g) : Vq l b id D M z NE KE post NX KX px N K ce sl pc lv (.int i :: .ref (b + q) :: st) g := by
  intro p e s m args below meth c X H locs ls hP hS hl hz
  subst hi
  have h31 := qL_lt q
  have ha := hP q _ (qW_get hq)
  rw [qE_4 hk] at ha
  have hc : (nI k).toNatClampNeg = k := nI_clamp (Nat.lt_trans hlt h31)
  have hv : va_rf (qQ b q k) = .ref (b + (qC q + k)) := by
    unfold qQ
    rw [if_pos hlt, Nat.add_assoc]
    rfl
  refine W.aald (v := .ref (b + (qC q + k))) (ty := .array .int) X.1 X.2.1 ha ((X.2.2.2.2.2.2.2.2.2.1.2 3 _ rfl).1 (qL q) (fun j => va_rf (qQ b q j))) rfl (fun h => by cases h) (by show ¬ (nI k < 0 ∨ (arrV _ _ _).slots.size ≤ _); rw [arrV_size]; exact vp_in_nI hlt h31) (by show (arrV _ _ _).slots[_]? = _; rw [hc, arrV_read _ _ hlt, hv]) rfl rfl hd (kk p e s m args below meth c X H locs ls hP hS hl hz)
theorem vq_aald5 {q k : Nat} {i : Int32} (hd : decode (mC M) pc = .ok (.aaload, 1)) (hq : q < N) (hk : qK q = 5) (hi : i = nI k) (hlt : k < qL q) (kk : Vq l b id D M z NE KE post NX KX px N K ce sl (pc + 1) lv (.ref (b + (qC q + k)) :: st) g) : Vq l b id D M z NE KE post NX KX px N K ce sl pc lv (.int i :: .ref (b + q) :: st) g := by
  intro p e s m args below meth c X H locs ls hP hS hl hz
  subst hi
  have h31 := qL_lt q
  have ha := hP q _ (qW_get hq)
  rw [qE_5 hk] at ha
  have hc : (nI k).toNatClampNeg = k := nI_clamp (Nat.lt_trans hlt h31)
  have hv : va_rf (qQ b q k) = .ref (b + (qC q + k)) := by
    unfold qQ
    rw [if_pos hlt, Nat.add_assoc]
    rfl
  refine W.aald (v := .ref (b + (qC q + k))) (ty := .array .long) X.1 X.2.1 ha ((X.2.2.2.2.2.2.2.2.2.1.2 4 _ rfl).1 (qL q) (fun j => va_rf (qQ b q j))) rfl (fun h => by cases h) (by show ¬ (nI k < 0 ∨ (arrV _ _ _).slots.size ≤ _); rw [arrV_size]; exact vp_in_nI hlt h31) (by show (arrV _ _ _).slots[_]? = _; rw [hc, arrV_read _ _ hlt, hv]) rfl rfl hd (kk p e s m args below meth c X H locs ls hP hS hl hz)
theorem vq_getI {q k index : Nat} {C : String} {T : u_T} (hd : decode (mC M) pc = .ok (.getfield index, 3)) (hc : vwCl[qC q]? = some (C, T, qL q)) (hin : ∀ w ∈ u_ws C T (qL q), w ∈ TT) (hlink : Cond.fieldLink (mO M) index (T k).1 (T k).2.1 (T k).2.2.1 ∈ TT) (hq : q < N) (h0 : qK q = 0) (hk : k < qL q) (hf : qF q k = 0) (kk : Vq l b id D M z NE KE post NX KX px N K ce sl (pc + 3) lv ((.int (g.1 q k)) :: st) g) : Vq l b id D M z NE KE post NX KX px N K ce sl pc lv (.ref (b + q) :: st) g := by
  intro p e s m args below meth c X H locs ls hP hS hl hz
  refine va_get X.1 X.2.1 X.2.2.2.2.1 hin X.2.2.2.1 X.2.2.2.2.2.2.2.2.2.1 hP q (by rw [qW_get hq, qE_0 h0]) hc k hk (X.2.2.2.2.1 _ hlink) (fun x h => h) (v := (.int (g.1 q k))) ?_ hd (kk p e s m args below meth c X H locs ls hP hS hl hz)
  rw [List.getElem?_map, List.getElem?_range hk]
  show some (qV b K g q k) = _
  rw [show qV b K g q k = (.int (g.1 q k)) from by simp only [qV, hf]]
theorem vq_getJ {q k index : Nat} {C : String} {T : u_T} (hd : decode (mC M) pc = .ok (.getfield index, 3)) (hc : vwCl[qC q]? = some (C, T, qL q)) (hin : ∀ w ∈ u_ws C T (qL q), w ∈ TT) (hlink : Cond.fieldLink (mO M) index (T k).1 (T k).2.1 (T k).2.2.1 ∈ TT) (hq : q < N) (h0 : qK q = 0) (hk : k < qL q) (hf : qF q k = 1) (kk : Vq l b id D M z NE KE post NX KX px N K ce sl (pc + 3) lv ((.long (g.2 q k)) :: st) g) : Vq l b id D M z NE KE post NX KX px N K ce sl pc lv (.ref (b + q) :: st) g := by
  intro p e s m args below meth c X H locs ls hP hS hl hz
  refine va_get X.1 X.2.1 X.2.2.2.2.1 hin X.2.2.2.1 X.2.2.2.2.2.2.2.2.2.1 hP q (by rw [qW_get hq, qE_0 h0]) hc k hk (X.2.2.2.2.1 _ hlink) (fun x h => h) (v := (.long (g.2 q k))) ?_ hd (kk p e s m args below meth c X H locs ls hP hS hl hz)
  rw [List.getElem?_map, List.getElem?_range hk]
  show some (qV b K g q k) = _
  rw [show qV b K g q k = (.long (g.2 q k)) from by simp only [qV, hf]]
theorem vq_getR {q k index : Nat} {C : String} {T : u_T} (hd : decode (mC M) pc = .ok (.getfield index, 3)) (hc : vwCl[qC q]? = some (C, T, qL q)) (hin : ∀ w ∈ u_ws C T (qL q), w ∈ TT) (hlink : Cond.fieldLink (mO M) index (T k).1 (T k).2.1 (T k).2.2.1 ∈ TT) (hq : q < N) (h0 : qK q = 0) (hk : k < qL q) {t : Nat} (hf : qF q k = t + 2) (hK : K q k = true) (kk : Vq l b id D M z NE KE post NX KX px N K ce sl (pc + 3) lv ((.ref (b + t)) :: st) g) : Vq l b id D M z NE KE post NX KX px N K ce sl pc lv (.ref (b + q) :: st) g := by
  intro p e s m args below meth c X H locs ls hP hS hl hz
  refine va_get X.1 X.2.1 X.2.2.2.2.1 hin X.2.2.2.1 X.2.2.2.2.2.2.2.2.2.1 hP q (by rw [qW_get hq, qE_0 h0]) hc k hk (X.2.2.2.2.1 _ hlink) (fun x h => h) (v := (.ref (b + t))) ?_ hd (kk p e s m args below meth c X H locs ls hP hS hl hz)
  rw [List.getElem?_map, List.getElem?_range hk]
  show some (qV b K g q k) = _
  rw [show qV b K g q k = (.ref (b + t)) from by simp only [qV, hf, hK, if_true]]
theorem vq_int {x y : Int32} (h : x = y) (kk : Vq l b id D M z NE KE post NX KX px N K ce sl pc lv (.int y :: st) g) : Vq l b id D M z NE KE post NX KX px N K ce sl pc lv (.int x :: st) g := by
  rw [h]; exact kk
theorem vq_long {x y : Int64} (h : x = y) (kk : Vq l b id D M z NE KE post NX KX px N K ce sl pc lv (.long y :: st) g) : Vq l b id D M z NE KE post NX KX px N K ce sl pc lv (.long x :: st) g := by
  rw [h]; exact kk
theorem vq_g {g' : Sg} (h : g = g') (kk : Vq l b id D M z NE KE post NX KX px N K ce sl pc lv st g') : Vq l b id D M z NE KE post NX KX px N K ce sl pc lv st g := by
  rw [h]; exact kk
/-- fewer locals are named -/
theorem vq_lv {lv' : List (Nat × Value)} (h : ∀ q ∈ lv', q ∈ lv) (kk : Vq l b id D M z NE KE post NX KX px N K ce sl pc lv' st g) : Vq l b id D M z NE KE post NX KX px N K ce sl pc lv st g :=
  fun p e s m args below meth c X H locs ls hP hS hl hz => kk p e s m args below meth c X H locs ls hP hS ⟨hl.1, hl.2.1, fun q hq => hl.2.2 q (h q hq)⟩ hz
theorem vq_widen {ce' sl' : Nat} (h1 : ce ≤ ce') (h2 : sl ≤ sl') (kk : Vq l b id D M z NE KE post NX KX px N K ce' sl' pc lv st g) : Vq l b id D M z NE KE post NX KX px N K ce sl pc lv st g :=
  fun p e s m args below meth c X H locs ls hP hS hl hz => W.widen h1 h2 (kk p e s m args below meth c X H locs ls hP hS hl hz)
theorem qrange_set {f f' : Nat → Value} {n k : Nat} {v : Value} (hk : k < n) (hv : f' k = v) (ho : ∀ j, j ≠ k → f' j = f j) : ((List.range n).map f).set k v = (List.range n).map f' := by
  apply List.ext_getElem?
  intro j
  by_cases hj : j < n
  · by_cases hjk : j = k
    · subst hjk
      rw [List.getElem?_set_self (by simpa using hj), List.getElem?_map, List.getElem?_range hj]
      simp [hv]
    · rw [List.getElem?_set_ne (Ne.symm hjk), List.getElem?_map, List.getElem?_map, List.getElem?_range hj]
      simp [ho j hjk]
  · rw [List.getElem?_eq_none (by simp; omega), List.getElem?_eq_none (by simp; omega)]
theorem vq_put {q k index : Nat} {C : String} {T : u_T} {v : Value} {K' : Nat → Nat → Bool} {g' : Sg} {ty : FieldType} (ty0 : Nat → FieldType) (hd : decode (mC M) pc = .ok (.putfield index, 3)) (hc : vwCl[qC q]? = some (C, T, qL q)) (hin : ∀ w ∈ u_ws C T (qL q), w ∈ TT) (hlink : Cond.fieldLink (mO M) index (T k).1 (T k).2.1 (T k).2.2.1 ∈ TT) (hty : ∀ k, k < qL q → parseFieldDescriptor (T k).2.2.1 = some (ty0 k)) (hnm : ∀ a, a < qL q → ∀ b, b < qL q → a ≠ b → (T a).2.1 ≠ (T b).2.1) (hq : q < N) (h0 : qK q = 0) (hk : k < qL q)
    (hfin : (T k).2.2.2 = false ∨ ((T k).2.2.2 = true ∧ (mM M).name = "<init>" ∧ (T k).1 = mO M)) (hty1 : parseFieldDescriptor (T k).2.2.1 = some ty) (hn : narrow ty v = v) (hfit : fits ty v = true) (hv : qV b K' g' q k = v) (ho : ∀ j, j ≠ k → qV b K' g' q j = qV b K g q j) (hr : ∀ p, p ≠ q → qE b id K' g' p = qE b id K g p)
    (kk : Vq l b id D M z NE KE post NX KX px N K' ce sl (pc + 3) lv st g') : Vq l b id D M z NE KE post NX KX px N K ce sl pc lv (v :: .ref (b + q) :: st) g := by
  intro p e s m args below meth c X H locs ls hP hS0 hl hz
  have hts := X.2.2.2.2.1
  have hK := X.2.2.2.2.2.2.2.2.2.1
  have hown := X.2.2.2.1
  have he : (qW b id N K g)[q]? = some (b + q, .inr (qC q, (List.range (qL q)).map (qV b K g q))) := by rw [qW_get hq, qE_0 h0]
  have hap := va_apart (own := mO M) hts hin ty0 hty hnm hK hc
  obtain ⟨r, h1, cell, q1, q2, q3, q4⟩ := hP q _ he
  have hr1 : r = (C, T, qL q) := Option.some.inj (h1.symm.trans hc)
  subst hr1
  obtain ⟨hS, hfc, kC, hkC, hkind⟩ := hK.1 (qC q) _ hc
  obtain ⟨cf, kf, fi, f, hi, hsl⟩ := hS k hk
  have hlay := hts _ (hin _ (u_in_lay hk))
  unfold u_lay at hlay
  have hst := (u_facts hfc hkC (u_lays hts hin hk) hi).1
  have hset : (qW b id N K g).set q (b + q, .inr (qC q, ((List.range (qL q)).map (qV b K g q)).set k v)) = qW b id N K' g' :=
    qW_set hq (by rw [qE_0 h0, qrange_set hk hv ho]) hr
  have hlen : k < ((List.range (qL q)).map (qV b K g q)).length := by simpa using hk
  rcases hfin with hfin | ⟨hfin, hini, hdecl⟩
  · rw [if_neg (by rw [hfin]; decide)] at hlay
    have h6 := u_store hfc hkC hkind hlay hi hty1 hn hfit
    refine W.putK X.1 X.2.1 (f := f) ⟨hown, hts _ hlink, ⟨_, _, _, hi⟩, hst⟩ (by rw [q2]; exact h6) q1 q3 (by rw [hsl]; exact k2_hasslot (q4 k hk)) rfl rfl hd fun H' e1 e2 e3 => ?_
    rw [hsl] at e1 ⊢
    have hP' := hP.set (e := .inr (qC q, ((List.range (qL q)).map (qV b K g q)).set k v)) (H1 := H') (qW_D hz.2) he ⟨_, hc, t_OB.to (V := updV (vp_V ((List.range (qL q)).map (qV b K g q))) k v) ⟨_, e1, q2, q3, t_set q4 hap hk v⟩ (fun j _ => vp_updV_set hlen v j)⟩ e3
    rw [hset] at hP'
    exact kk p e s m args below meth c X H' _ ls hP' (hS0.put e2 e3 ⟨Nat.le_add_right b q, by have := hz.2; show b + q < b + 85; omega⟩) hl ⟨fun h => by rw [e2]; exact hz.1 h, hz.2⟩
  · rw [if_pos hfin] at hlay
    have hcf : m.cls = cf := by
      obtain ⟨_, _, c', _, _, _, -, -, hf', -, -, -, hown2, -⟩ := Cond.laysFinal_spec hlay
      have e1 : c' = cf := by have := hi.symm.trans hf'; simp at this; exact this.1.symm
      rw [hdecl] at hown2
      rw [← e1]; exact Option.some.inj (hown.symm.trans hown2)
    have h6 := u_fits hfc hkC hkind (Or.inr hlay) hi hty1 hn hfit
    refine W.putFinK X.1 X.2.1 hown (hts _ hlink) hi hst hcf (X.2.2.2.2.2.2.2.1.trans hini) (by rw [q2]; exact h6) q1 q3 (by rw [hsl]; exact k2_hasslot (q4 k hk)) rfl rfl hd fun H' e1 e2 e3 => ?_
    rw [hsl] at e1 ⊢
    have hP' := hP.set (e := .inr (qC q, ((List.range (qL q)).map (qV b K g q)).set k v)) (H1 := H') (qW_D hz.2) he ⟨_, hc, t_OB.to (V := updV (vp_V ((List.range (qL q)).map (qV b K g q))) k v) ⟨_, e1, q2, q3, t_set q4 hap hk v⟩ (fun j _ => vp_updV_set hlen v j)⟩ e3
    rw [hset] at hP'
    exact kk p e s m args below meth c X H' _ ls hP' (hS0.put e2 e3 ⟨Nat.le_add_right b q, by have := hz.2; show b + q < b + 85; omega⟩) hl ⟨fun h => by rw [e2]; exact hz.1 h, hz.2⟩
theorem qV_sI {q k j : Nat} {x : Int32} (h : j ≠ k) : qV b K (sI g q (upd (g.1 q) k x)) q j = qV b K g q j := by
  simp only [qV, sI_s, sI_2, upd, if_neg h]
theorem qV_sJ {q k j : Nat} {x : Int64} (h : j ≠ k) : qV b K (sJ g q (vp_updL (g.2 q) k x)) q j = qV b K g q j := by
  simp only [qV, sJ_s, sJ_1, vp_updL, if_neg h]
def kS (K : Nat → Nat → Bool) (q k : Nat) : Nat → Nat → Bool := fun p j => if p = q ∧ j = k then true else K p j
theorem vq_putI {q k index : Nat} {C : String} {T : u_T} {x : Int32} {ty : FieldType} (ty0 : Nat → FieldType) (hd : decode (mC M) pc = .ok (.putfield index, 3)) (hc : vwCl[qC q]? = some (C, T, qL q)) (hin : ∀ w ∈ u_ws C T (qL q), w ∈ TT) (hlink : Cond.fieldLink (mO M) index (T k).1 (T k).2.1 (T k).2.2.1 ∈ TT) (hty : ∀ k, k < qL q → parseFieldDescriptor (T k).2.2.1 = some (ty0 k)) (hnm : ∀ a, a < qL q → ∀ b, b < qL q → a ≠ b → (T a).2.1 ≠ (T b).2.1) (hq : q < N) (h0 : qK q = 0) (hk : k < qL q)
    (hfin : (T k).2.2.2 = false) (hty1 : parseFieldDescriptor (T k).2.2.1 = some ty) (hf : qF q k = 0) (hn : narrow ty (.int x) = .int x) (hfit : fits ty (.int x) = true)
    (kk : Vq l b id D M z NE KE post NX KX px N K ce sl (pc + 3) lv st (sI g q (upd (g.1 q) k x))) : Vq l b id D M z NE KE post NX KX px N K ce sl pc lv (.int x :: .ref (b + q) :: st) g :=
  vq_put ty0 hd hc hin hlink hty hnm hq h0 hk (Or.inl hfin) hty1 hn hfit (by simp only [qV, hf, sI_s, upd, if_true]) (fun j hj => qV_sI hj) (fun p hp => qE_sI hp) kk
theorem vq_putJ {q k index : Nat} {C : String} {T : u_T} {x : Int64} (ty0 : Nat → FieldType) (hd : decode (mC M) pc = .ok (.putfield index, 3)) (hc : vwCl[qC q]? = some (C, T, qL q)) (hin : ∀ w ∈ u_ws C T (qL q), w ∈ TT) (hlink : Cond.fieldLink (mO M) index (T k).1 (T k).2.1 (T k).2.2.1 ∈ TT) (hty : ∀ k, k < qL q → parseFieldDescriptor (T k).2.2.1 = some (ty0 k)) (hnm : ∀ a, a < qL q → ∀ b, b < qL q → a ≠ b → (T a).2.1 ≠ (T b).2.1) (hq : q < N) (h0 : qK q = 0) (hk : k < qL q)
    (hfin : (T k).2.2.2 = false) (hty1 : parseFieldDescriptor (T k).2.2.1 = some .long) (hf : qF q k = 1)
    (kk : Vq l b id D M z NE KE post NX KX px N K ce sl (pc + 3) lv st (sJ g q (vp_updL (g.2 q) k x))) : Vq l b id D M z NE KE post NX KX px N K ce sl pc lv (.long x :: .ref (b + q) :: st) g :=
  vq_put ty0 hd hc hin hlink hty hnm hq h0 hk (Or.inl hfin) hty1 rfl rfl (by simp only [qV, hf, sJ_s, vp_updL, if_true]) (fun j hj => qV_sJ hj) (fun p hp => qE_sJ hp) kk
theorem vq_putR {q k index t : Nat} {C : String} {T : u_T} {ty : FieldType} (ty0 : Nat → FieldType) (hd : decode (mC M) pc = .ok (.putfield index, 3)) (hc : vwCl[qC q]? = some (C, T, qL q)) (hin : ∀ w ∈ u_ws C T (qL q), w ∈ TT) (hlink : Cond.fieldLink (mO M) index (T k).1 (T k).2.1 (T k).2.2.1 ∈ TT) (hty : ∀ k, k < qL q → parseFieldDescriptor (T k).2.2.1 = some (ty0 k)) (hnm : ∀ a, a < qL q → ∀ b, b < qL q → a ≠ b → (T a).2.1 ≠ (T b).2.1) (hq : q < N) (h0 : qK q = 0) (hk : k < qL q)
    (hfin : (T k).2.2.2 = true) (hini : (mM M).name = "<init>") (hdecl : (T k).1 = mO M) (hty1 : parseFieldDescriptor (T k).2.2.1 = some ty) (hf : qF q k = t + 2) (hn : narrow ty (.ref (b + t)) = .ref (b + t)) (hfit : fits ty (.ref (b + t)) = true)
    (kk : Vq l b id D M z NE KE post NX KX px N (kS K q k) ce sl (pc + 3) lv st g) : Vq l b id D M z NE KE post NX KX px N K ce sl pc lv (.ref (b + t) :: .ref (b + q) :: st) g :=
  vq_put (K' := kS K q k) (g' := g) ty0 hd hc hin hlink hty hnm hq h0 hk (Or.inr ⟨hfin, hini, hdecl⟩) hty1 hn hfit (by simp [qV, hf, kS]) (fun j hj => by simp only [qV, kS]; simp [hj]) (fun p hp => qE_congr rfl rfl (by funext j; simp [kS, hp])) kk
/-- returns -/
theorem qend {v : Option Value} {s t : State} {H : Heap} {locs : List Loc} (hP : va_P D vwCl (qW b id N K g) H) (hS : va_S (qA b) s.heap H locs) (hz : qz z b N H) (hp : post v g) (ht : t.heap = H) : qQx b id D z N K post NX KX px s (.returned v) t :=
  ⟨hS.F ht, Or.inl ⟨v, g, rfl, hp, by rw [ht]; exact hP, by rw [ht]; exact hz⟩⟩
theorem vq_iret {v : Int32} (hd : decode (mC M) pc = .ok (.ireturn, 1)) (hr : mY M = some .int) (hce : ce ≤ (mR M).cells) (hsl : sl ≤ (mR M).slots) (hN : N = NE) (hK : K = KE) (hp : post (some (.int v)) g) : Vq l b id D M z NE KE post NX KX px N K ce sl pc lv [.int v] g := by
  intro p e s m args below meth c X H locs ls hP hS hl hz
  subst hN; subst hK
  exact qret (Qc := fun _ st o t => qQx b id D z N K post NX KX px st o t) (fun o t h => h) (W.widen hce hsl (W.iret X.1 X.2.1 (X.2.2.2.2.2.2.1.trans hr) (fun t ht hW => qend hP hS hz hp ht) hS.2.2 hd X.2.2.2.2.2.1))
theorem vq_zret {v : Int32} (hd : decode (mC M) pc = .ok (.ireturn, 1)) (hr : mY M = some .boolean) (hx : v = 0 ∨ v = 1) (hce : ce ≤ (mR M).cells) (hsl : sl ≤ (mR M).slots) (hN : N = NE) (hK : K = KE) (hp : post (some (.int v)) g) : Vq l b id D M z NE KE post NX KX px N K ce sl pc lv [.int v] g := by
  intro p e s m args below meth c X H locs ls hP hS hl hz
  subst hN; subst hK
  exact qret (Qc := fun _ st o t => qQx b id D z N K post NX KX px st o t) (fun o t h => h) (W.widen hce hsl (W.zret X.1 X.2.1 (X.2.2.2.2.2.2.1.trans hr) (by rcases hx with rfl | rfl <;> rfl) (fun t ht hW => qend hP hS hz hp ht) hS.2.2 hd X.2.2.2.2.2.1))
theorem vq_lret {v : Int64} (hd : decode (mC M) pc = .ok (.lreturn, 1)) (hr : mY M = some .long) (hce : ce ≤ (mR M).cells) (hsl : sl ≤ (mR M).slots) (hN : N = NE) (hK : K = KE) (hp : post (some (.long v)) g) : Vq l b id D M z NE KE post NX KX px N K ce sl pc lv [.long v] g := by
  intro p e s m args below meth c X H locs ls hP hS hl hz
  subst hN; subst hK
  exact qret (Qc := fun _ st o t => qQx b id D z N K post NX KX px st o t) (fun o t h => h) (W.widen hce hsl (W.lret X.1 X.2.1 (X.2.2.2.2.2.2.1.trans hr) (fun t ht hW => qend hP hS hz hp ht) hS.2.2 hd X.2.2.2.2.2.1))
theorem vq_vret (hd : decode (mC M) pc = .ok (.return_, 1)) (hr : mY M = none) (hce : ce ≤ (mR M).cells) (hsl : sl ≤ (mR M).slots) (hN : N = NE) (hK : K = KE) (hp : post none g) : Vq l b id D M z NE KE post NX KX px N K ce sl pc lv [] g := by
  intro p e s m args below meth c X H locs ls hP hS hl hz
  subst hN; subst hK
  exact qret (Qc := fun _ st o t => qQx b id D z N K post NX KX px st o t) (fun o t h => h) (W.widen hce hsl (W.vret X.1 X.2.1 (X.2.2.2.2.2.2.1.trans hr) (fun t ht hW => qend hP hS hz hp ht) hS.2.2 hd X.2.2.2.2.2.1))
/-- from a body to its contract -/
theorem qCT_of {av : List Value} (hh : mH M = none) (hy : plainName (mO M) = true) (hlen : (lg_sl av).length ≤ mN M)
    (k : Vq l b id D M z NE KE post N K px N K 0 0 0 (lv_args 0 av) [] g) : qCT l b id D M z av N K g NE KE post px := by
  have hw : mW M = Cond.code (mM M) (mC M) (mN M) (mY M) := by simp only [mW, hh]
  have hx : mX M = [] := by simp only [mX, hh]
  unfold qCT
  rw [hw]
  refine qmet (cc := mC M) (maxL := mN M) (ret := mY M) hy rfl ?_
  intro p e s m args below meth c s₁ B hml ht hv
  obtain ⟨rfl, hP, hK, hX, hz⟩ := hv
  rw [lg_entry_eq]
  have hts := atoms_spec (ws := Cond.code (mM M) (mC M) (mN M) (mY M) :: TT) B.pre
  exact k p e s m _ below meth c ⟨B.exec, B.bytes, hml, findClass_of_methodNamed B.named, fun w h => hts w (List.mem_cons_of_mem _ h), B.notSynchronized, B.returns, (name_of_methodNamed B.named B.method).1, ht.trans hx.symm, hK, hX⟩ s.heap [] _ hP va_S.rf (lv_entry av (n := mN M) hlen) hz
theorem qpre {p : Program} {s : State} {m : MethodId} {args : Array Value} {meth : Method} {c : Code} {H : Heap} {locs : List Loc} (X : Cq b id D M p s m args meth c) (hP : va_P D vwCl (qW b id N K g) H) (hS : va_S (qA b) s.heap H locs) (hz : qz z b N H) {av : List Value} {U : State} (hU : U.heap = H) (hW : s.WarmedH U.vm) (gf : JFrame) (mk : MethodId) : va_Pc av (qPW b id D z N K g) av.toArray (U.calling gf mk av.toArray) := by
  refine ⟨rfl, ?_, va_K.moved (U := U.calling gf mk av.toArray) hW.alike X.2.2.2.2.2.2.2.2.2.1, ?_, ?_⟩
  · show va_P D vwCl (qW b id N K g) U.heap
    rw [hU]; exact hP
  · show qX b (U.calling gf mk av.toArray) U.heap
    rw [hU]
    exact qX.go (U := U.calling gf mk av.toArray) X.2.2.2.2.2.2.2.2.2.2 hS hW
  · show qz z b N U.heap
    rw [hU]; exact hz
/-- the callee has been entered at U: both outcomes, and the way on -/
theorem qcall {M' : Mt} {av rest : List Value} {NE' : Nat} {KE' : Nat → Nat → Bool} {post' : Option Value → Sg → Prop} {px' : String → Sg → Prop} {p : Program} {e : Env} {s : State} {m : MethodId} {args : Array Value} {below : List Frame} {meth : Method} {c : Code} {H : Heap} {locs : List Loc} {ls : Array Slot} {U : State} {mk : MethodId} {ig : Instr} {Q : State → Prop}
    (X : Cq b id D M p s m args meth c) (hP : va_P D vwCl (qW b id N K g) H) (hS : va_S (qA b) s.heap H locs) (hl : lv_has ls (mN M) lv) (hz : qz z b N H)
    (XU : Stand p l e (mR M) s m args below meth c U locs ce sl) (hU : U.heap = H) (hM : qCT l b id D M' z av N K g NE' KE' post' px') (hhM : mH M' = none) (hcd : mW M' ∈ TT) (hini : Cond.initialized (mO M') ∈ TT) (hR : (mR M').frames + 1 ≤ (mR M).frames ∧ 8 + (mN M' + 11) + (mR M').locals ≤ (mR M).locals) (hf : ce + (mR M').cells ≤ (mR M).cells ∧ sl + (mR M').slots ≤ (mR M).slots)
    (hrest : (rest.map fun v => v.category).sum ≤ 8) (hn : U.methodNamed? (mM M') = some mk) (hd : decode (mC M) pc = .ok (ig, 3))
    (kx : ∀ (T' : State) (x : Addr) (E : String) (cx : Cell) (g' : Sg) (locs1 : List Loc), Stand p l e (mR M) s m args below meth c T' locs1 (ce + (mR M').cells) (sl + (mR M').slots) → px' E g' → va_P D vwCl (qW b id N K g') T'.heap → va_S (qA b) s.heap T'.heap locs1 → T'.heap[x]? = some cx → cx.vm = .none → s.vm.findClass E = some cx.cls → ∃ t, Steps p.tables e below ((T'.setTop (F0 m pc ls rest)).pushFrame (.throwing x)) t ∧ Q t)
    (kk : ∀ (v : Option Value) (g' : Sg) (T' : State) (locs1 : List Loc), Stand p l e (mR M) s m args below meth c T' locs1 (ce + (mR M').cells) (sl + (mR M').slots) → post' v g' → va_P D vwCl (qW b id NE' KE' g') T'.heap → va_S (qA b) s.heap T'.heap locs1 → qz z b NE' T'.heap → ∃ t, Steps p.tables e below (T'.setTop (F0 m (pc + 3) ls (v.toList ++ rest))) t ∧ Q t) :
    ∃ t, Steps p.tables e below (doInvoke e (U.setTop (F0 m pc ls rest)) [] mk av.toArray).1 t ∧ Q t := by
  have hwd : ∀ {w : Cond} (a' : Array Value), w ∈ TT → w.before a' U = true := fun a' h => tU X.2.2.2.2.1 XU.warmed h
  have hcode : (Cond.code (mM M') (mC M') (mN M') (mY M')).before av.toArray U = true := by
    have h := hwd av.toArray hcd
    simp only [mW, hhM] at h
    exact h
  obtain ⟨methY, cY, h1, h2, -, h4, -, -, -, -⟩ := Cond.code_spec hn hcode
  have hF : ∀ {st t T' : State} {L : List Loc}, st.heap = H → T'.heap = t.heap → va_F (qA b) st t → (∀ q ∈ L, qA b q.base) → va_S (qA b) s.heap T'.heap (locs ++ L) := by
    intro st t T' L e0 e1 hF hL
    obtain ⟨f1, f2⟩ := hF
    rw [e0] at f1 f2
    rw [e1]
    refine ⟨Nat.le_trans hS.1 f1, fun q h1 h2 => (f2 q (Nat.lt_of_lt_of_le h1 hS.1) h2).trans (hS.2.1 q h1 h2), fun q hq => ?_⟩
    rcases List.mem_append.mp hq with h | h
    · exact hS.2.2 q h
    · exact hL q h
  obtain ⟨s₂, U', L, e1, e2, X', hL, hout⟩ := qenter (a := av.toArray) (g := F0 m pc ls rest) (mk := mk) (maxL := mN M') hM XU rfl (hl.1.trans X.2.2.1.symm) (by rw [X.2.1]; exact hd) (lv_room hrest) hR.1 hR.2 hf.1 hf.2 hn
    (fun w hw => by
      rcases List.mem_cons.mp hw with rfl | hw
      · exact hwd _ hcd
      · exact hwd _ hw) ⟨methY, cY, h1, h2, h4⟩ (hwd _ hini) (qpre X hP hS hz hU XU.warmed _ _)
  rcases hout with ⟨v, ⟨hfr, hq⟩, hst⟩ | ⟨x, ⟨hfr, hq⟩, hst⟩
  · rcases hq with ⟨v', g', hv, hp, hP', hz'⟩ | ⟨_, _, _, _, h, _⟩
    · cases hv
      obtain ⟨t, a1, b1⟩ := kk v g' U' (locs ++ L) X' hp (by rw [e1]; exact hP') (hF (st := U.calling (F0 m pc ls rest) mk av.toArray) hU e1 hfr hL) (by rw [e1]; exact hz')
      exact ⟨t, hst.trans a1, b1⟩
    · cases h
  · rcases hq with ⟨_, _, h, _⟩ | ⟨x', E, cx, g', hx, hp, hP', hc1, hc2, hc3⟩
    · cases h
    · cases hx
      have hc4 : s.vm.findClass E = some cx.cls := by
        have h9 : U.vm.findClass E = some cx.cls := hc3
        rw [XU.warmed.alike.findClass] at h9
        exact h9
      obtain ⟨t, a1, b1⟩ := kx U' x E cx g' (locs ++ L) X' hp (by rw [e1]; exact hP') (hF (st := U.calling (F0 m pc ls rest) mk av.toArray) hU e1 hfr hL) (by rw [e1]; exact hc1) hc2 hc4
      exact ⟨t, hst.trans a1, b1⟩
/-- what is thrown goes on to the caller -/
theorem qpass {rest : List Value} {p : Program} {e : Env} {s : State} {m : MethodId} {args : Array Value} {below : List Frame} {meth : Method} {c : Code} {ls : Array Slot} (X : Cq b id D M p s m args meth c) (hx0 : mH M = none) (hce : ce ≤ (mR M).cells) (hsl : sl ≤ (mR M).slots)
    {T' : State} {x : Addr} {E : String} {cx : Cell} {g' : Sg} {locs1 : List Loc} (XT : Stand p l e (mR M) s m args below meth c T' locs1 ce sl) (hp : px E g') (hP : va_P D vwCl (qW b id NX KX g') T'.heap) (hS : va_S (qA b) s.heap T'.heap locs1) (h1 : T'.heap[x]? = some cx) (h2 : cx.vm = .none) (h3 : s.vm.findClass E = some cx.cls) :
    ∃ t, Steps p.tables e below ((T'.setTop (F0 m pc ls rest)).pushFrame (.throwing x)) t ∧ qMQ below (qQx b id D z NE KE post NX KX px) s (mR M).cells (mR M).slots (qA b) t := by
  have hm : mX M = [] := by simp only [mX, hx0]
  exact qthrough XT (by rw [X.2.2.2.2.2.2.2.2.1, hm]; intro y hy; cases hy) X.2.2.2.2.2.1 (fun t ht _ => ⟨hS.F ht, Or.inr ⟨x, E, cx, g', rfl, hp, by rw [ht]; exact hP, by rw [ht]; exact h1, h2, h3⟩⟩) hS.2.2 hce hsl
/-- a call by the receiver; what it throws goes on to the caller -/
theorem vq_callV {M' : Mt} {q index n nf : Nat} {C : String} {T : u_T} (As rest : List Value) {st0 : List Value} {NE' : Nat} {KE' : Nat → Nat → Bool} {post' : Option Value → Sg → Prop} {px' : String → Sg → Prop} (hd : decode (mC M) pc = .ok (.invokevirtual index, 3))
    (hM : qCT l b id D M' z (.ref (b + q) :: As) N K g NE' KE' post' px') (hlk : Cond.methodLink (mO M) index (mM M') ∈ TT) (hinst : Cond.instanceMethod (mM M') ∈ TT) (hsel : Cond.selects C (mM M') (mM M') ∈ TT) (hcd : mW M' ∈ TT) (hini : Cond.initialized (mO M') ∈ TT) (hhM : mH M' = none)
    (hdd : (mO M') ≠ "java/lang/invoke/MethodHandle" ∧ (mO M') ≠ "java/lang/invoke/VarHandle" ∧ (parseMethodDescriptor (mM M').desc).map (fun d => d.parameters.length) = some n) (hR : (mR M').frames + 1 ≤ (mR M).frames ∧ 8 + (mN M' + 11) + (mR M').locals ≤ (mR M).locals)
    (hq : q < N) (h0 : qK q = 0) (hc : vwCl[qC q]? = some (C, T, nf)) (hn : As.length = n) (hst : st0 = As.reverse ++ .ref (b + q) :: rest) (hrest : (rest.map fun v => v.category).sum ≤ 8) (hx0 : mH M = none) (hNX : N = NX) (hKX : K = KX) (hf : ce + (mR M').cells ≤ (mR M).cells ∧ sl + (mR M').slots ≤ (mR M).slots)
    (kx : ∀ E g', px' E g' → px E g') (kk : ∀ v g', post' v g' → Vq l b id D M z NE KE post NX KX px NE' KE' (ce + (mR M').cells) (sl + (mR M').slots) (pc + 3) lv (v.toList ++ rest) g') : Vq l b id D M z NE KE post NX KX px N K ce sl pc lv st0 g := by
  intro p e s m args below meth c X H locs ls hP hS hl hz
  subst hst
  subst hNX; subst hKX
  intro T0 hT XS
  have hts := X.2.2.2.2.1
  obtain ⟨mk, methM, hnamed, hmethM, hstM, habM⟩ := Cond.instanceMethod_spec (hts _ hinst)
  have hcode : (Cond.code (mM M') (mC M') (mN M') (mY M')).before args s = true := by
    have h := hts _ hcd
    simp only [mW, hhM] at h
    exact h
  obtain ⟨methM', cM, hmethM', -, -, -, -, -, -, hsigM⟩ := Cond.code_spec hnamed hcode
  cases hmethM.symm.trans hmethM'
  obtain ⟨c2, r2, m2, q1, q2, q3, q4, kP, hkP, hkPi⟩ := Cond.selects_spec (hts _ hsel)
  obtain ⟨cellB, hcB, hoB, hclB⟩ := va_recv X.2.2.2.2.2.2.2.2.2.1 hP hc (show (qW b id N K g)[q]? = some (b + q, .inr (qC q, (List.range (qL q)).map (qV b K g q))) by rw [qW_get hq, qE_0 h0])
  cases hclB.symm.trans q1
  have hy : (mM M').cls ≠ "java/lang/invoke/MethodHandle" ∧ (mM M').cls ≠ "java/lang/invoke/VarHandle" := ⟨hdd.1, hdd.2.1⟩
  cases (State.methodFound?_of_named hnamed hy).symm.trans q2
  cases hnamed.symm.trans q3
  have hselP : selectMethod e.platform s.vm cellB.cls mk = .method mk := by rw [Launch.admits_selectMethod XS.admits]; exact q4
  have hlen : As.length = methM.sig.parameters.length := by
    have h2 := hdd.2.2
    rw [hsigM] at h2
    rw [hn]
    exact (Option.some.inj h2).symm
  obtain ⟨vm₁, X₁, hstep₁⟩ := XS.invokevirtual X.1 X.2.2.2.1 (hts _ hlk) hnamed hmethM hstM hkP hkPi hy (a := b + q) (cell := cellB) (by rw [hT]; exact hcB)
    (fun z h => by rw [h] at hoB; cases hoB) hselP hmethM habM hkP hkPi (g := F0 m pc ls (As.reverse ++ .ref (b + q) :: rest)) rfl (argsL := As) (rest := rest) hlen rfl (by rw [X.2.1]; exact hd)
  obtain ⟨t, a1, b1⟩ := qcall (av := .ref (b + q) :: As) (rest := rest) X hP hS hl hz X₁ hT hM hhM hcd hini hR hf hrest (X₁.named hnamed) hd
    (fun T' x E cx g' locs1 XT hp hP1 hS1 h1 h2 h3 => qpass X hx0 hf.1 hf.2 XT (kx E g' hp) hP1 hS1 h1 h2 h3)
    (fun v g' T' locs1 XT hp hP1 hS1 hz1 => kk v g' hp p e s m args below meth c X T'.heap locs1 ls hP1 hS1 hl hz1 T' rfl XT)
  exact ⟨t, hstep₁ t (fun acts => by rw [doInvoke_state]; exact a1), b1⟩
/-- a static call -/
theorem vq_callS {M' : Mt} {index n : Nat} (As rest : List Value) {st0 : List Value} {NE' : Nat} {KE' : Nat → Nat → Bool} {post' : Option Value → Sg → Prop} {px' : String → Sg → Prop} (hd : decode (mC M) pc = .ok (.invokestatic index, 3))
    (hM : qCT l b id D M' z As N K g NE' KE' post' px') (hlk : Cond.methodLink (mO M) index (mM M') ∈ TT) (hsta : Cond.static (mM M') ∈ TT) (hcd : mW M' ∈ TT) (hini : Cond.initialized (mO M') ∈ TT) (hhM : mH M' = none)
    (hdd : (mO M') ≠ "java/lang/invoke/MethodHandle" ∧ (mO M') ≠ "java/lang/invoke/VarHandle" ∧ (parseMethodDescriptor (mM M').desc).map (fun d => d.parameters.length) = some n) (hR : (mR M').frames + 1 ≤ (mR M).frames ∧ 8 + (mN M' + 11) + (mR M').locals ≤ (mR M).locals)
    (hn : As.length = n) (hst : st0 = As.reverse ++ rest) (hrest : (rest.map fun v => v.category).sum ≤ 8) (hx0 : mH M = none) (hNX : N = NX) (hKX : K = KX) (hf : ce + (mR M').cells ≤ (mR M).cells ∧ sl + (mR M').slots ≤ (mR M).slots)
    (kx : ∀ E g', px' E g' → px E g') (kk : ∀ v g', post' v g' → Vq l b id D M z NE KE post NX KX px NE' KE' (ce + (mR M').cells) (sl + (mR M').slots) (pc + 3) lv (v.toList ++ rest) g') : Vq l b id D M z NE KE post NX KX px N K ce sl pc lv st0 g := by
  intro p e s m args below meth c X H locs ls hP hS hl hz
  subst hst
  subst hNX; subst hKX
  intro T0 hT XS
  have hts := X.2.2.2.2.1
  have hcode : (Cond.code (mM M') (mC M') (mN M') (mY M')).before args s = true := by
    have h := hts _ hcd
    simp only [mW, hhM] at h
    exact h
  obtain ⟨mk, hnamed⟩ := Cond.code_named hcode
  obtain ⟨methM, cM, hmethM, -, -, -, -, -, -, hsigM⟩ := Cond.code_spec hnamed hcode
  have hstatic : methM.isStatic = true := Cond.static_spec hnamed hmethM (hts _ hsta)
  obtain ⟨kP, hkP, -⟩ := className_of_methodNamed hnamed
  have hinitP : kP.init = .initialized := Cond.initialized_spec (findClass_of_methodNamed hnamed) hkP (hts _ hini)
  have hy : (mM M').cls ≠ "java/lang/invoke/MethodHandle" ∧ (mM M').cls ≠ "java/lang/invoke/VarHandle" := ⟨hdd.1, hdd.2.1⟩
  have hlen : As.length = methM.sig.parameters.length := by
    have h2 := hdd.2.2
    rw [hsigM] at h2
    rw [hn]
    exact (Option.some.inj h2).symm
  obtain ⟨vm₁, X₁, hstep₁⟩ := XS.invokestatic X.1 X.2.2.2.1 (hts _ hlk) hnamed hmethM hstatic hkP hinitP hy (g := F0 m pc ls (As.reverse ++ rest)) rfl (argsL := As) (rest := rest) hlen rfl (by rw [X.2.1]; exact hd)
  obtain ⟨t, a1, b1⟩ := qcall (av := As) (rest := rest) X hP hS hl hz X₁ hT hM hhM hcd hini hR hf hrest (X₁.named hnamed) hd
    (fun T' x E cx g' locs1 XT hp hP1 hS1 h1 h2 h3 => qpass X hx0 hf.1 hf.2 XT (kx E g' hp) hP1 hS1 h1 h2 h3)
    (fun v g' T' locs1 XT hp hP1 hS1 hz1 => kk v g' hp p e s m args below meth c X T'.heap locs1 ls hP1 hS1 hl hz1 T' rfl XT)
  exact ⟨t, hstep₁ t (fun acts => by rw [doInvoke_state]; exact a1), b1⟩
end Vb
