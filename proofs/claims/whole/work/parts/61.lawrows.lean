/-! The law's own walk: any end Qf, a start of which Ps is known. Its rows are those of parts 09, 15, 52 and 53 again. Laid by wip/whole/specs/p61.py -/
def Vz (l : Launch) (b : Nat) (id : Nat → ClassId) (D : va_G) (M : Mt) (z : Bool) (Qf : List Frame → State → State → Prop) (Ps : State → Prop) (N : Nat) (K : Nat → Nat → Bool) (ce sl pc : Nat) (lv : List (Nat × Value)) (st : List Value) (g : Sg) : Prop :=
  ∀ (p : Program) (e : Env) (s : State) (m : MethodId) (args : Array Value) (below : List Frame) (meth : Method) (c : Code), Cq b id D M p s m args meth c → Ps s → ∀ (H : Heap) (locs : List Loc) (ls : Array Slot), va_P D vwCl (qW b id N K g) H → va_S (qA b) s.heap H locs → lv_has ls (mN M) lv → qz z b N H →
    W p l e (mR M) s m args below meth c H locs ce sl (Qf below s) (F0 m pc ls st)
/-- the script, below the world -/
def Pz (a L : Nat) (xs : Nat → Int32) (b : Nat) : State → Prop := fun s => va_X a L xs s s.heap ∧ a < s.heap.size ∧ a < b
/-- the law's end: 1, nothing written but the world -/
def Qz (b : Nat) (R : Room) : List Frame → State → State → Prop := fun below s => qMQ below (fun _ o _ => o = .returned (some (.int 1))) s R.cells R.slots (qA b)
section Vy
variable {l : Launch} {b : Nat} {id : Nat → ClassId} {D : va_G} {M : Mt} {z : Bool} {Qf : List Frame → State → State → Prop} {Ps : State → Prop} {N : Nat} {K : Nat → Nat → Bool} {ce sl pc : Nat} {lv : List (Nat × Value)} {st : List Value} {g : Sg}
theorem vz_iconst {n : Int} {v : Int32} (hd : decode (mC M) pc = .ok (.iconst n, 1)) (hv : Int32.ofInt n = v) (kk : Vz l b id D M z Qf Ps N K ce sl (pc + 1) lv (.int v :: st) g) : Vz l b id D M z Qf Ps N K ce sl pc lv st g :=
  fun p e s m args below meth c X Y H locs ls hP hS hl hz => lv_iconst X.1 X.2.1 hd hv (kk p e s m args below meth c X Y H locs ls hP hS hl hz)
theorem vz_bipush {n : Int} {v : Int32} (hd : decode (mC M) pc = .ok (.bipush n, 2)) (hv : (Int8.ofInt n).toInt32 = v) (kk : Vz l b id D M z Qf Ps N K ce sl (pc + 2) lv (.int v :: st) g) : Vz l b id D M z Qf Ps N K ce sl pc lv st g :=
  fun p e s m args below meth c X Y H locs ls hP hS hl hz => lv_bipush X.1 X.2.1 hd hv (kk p e s m args below meth c X Y H locs ls hP hS hl hz)
theorem vz_lconst {n : Fin 2} {v : Int64} (hd : decode (mC M) pc = .ok (.lconst n, 1)) (hv : Int64.ofNat (n : Nat) = v) (kk : Vz l b id D M z Qf Ps N K ce sl (pc + 1) lv (.long v :: st) g) : Vz l b id D M z Qf Ps N K ce sl pc lv st g :=
  fun p e s m args below meth c X Y H locs ls hP hS hl hz => lv_lconst X.1 X.2.1 hd hv (kk p e s m args below meth c X Y H locs ls hP hS hl hz)
theorem vz_iload {i : Nat} {x : Int32} (hd : decode (mC M) pc = .ok (.iload i, 2)) (h : lv.lookup i = some (.int x)) (kk : Vz l b id D M z Qf Ps N K ce sl (pc + 2) lv (.int x :: st) g) : Vz l b id D M z Qf Ps N K ce sl pc lv st g :=
  fun p e s m args below meth c X Y H locs ls hP hS hl hz => lv_iload X.1 X.2.1 hd (lk_at hl h) (kk p e s m args below meth c X Y H locs ls hP hS hl hz)
theorem vz_iload_n {k : Fin 4} {x : Int32} (hd : decode (mC M) pc = .ok (.iload_n k, 1)) (h : lv.lookup (k : Nat) = some (.int x)) (kk : Vz l b id D M z Qf Ps N K ce sl (pc + 1) lv (.int x :: st) g) : Vz l b id D M z Qf Ps N K ce sl pc lv st g :=
  fun p e s m args below meth c X Y H locs ls hP hS hl hz => lv_iload_n X.1 X.2.1 hd rfl (lk_at hl h) (kk p e s m args below meth c X Y H locs ls hP hS hl hz)
theorem vz_aload {i : Nat} {x : Nat} (hd : decode (mC M) pc = .ok (.aload i, 2)) (h : lv.lookup i = some (.ref x)) (kk : Vz l b id D M z Qf Ps N K ce sl (pc + 2) lv (.ref x :: st) g) : Vz l b id D M z Qf Ps N K ce sl pc lv st g :=
  fun p e s m args below meth c X Y H locs ls hP hS hl hz => lv_aload X.1 X.2.1 hd (lk_at hl h) (kk p e s m args below meth c X Y H locs ls hP hS hl hz)
theorem vz_aload_n {k : Fin 4} {x : Nat} (hd : decode (mC M) pc = .ok (.aload_n k, 1)) (h : lv.lookup (k : Nat) = some (.ref x)) (kk : Vz l b id D M z Qf Ps N K ce sl (pc + 1) lv (.ref x :: st) g) : Vz l b id D M z Qf Ps N K ce sl pc lv st g :=
  fun p e s m args below meth c X Y H locs ls hP hS hl hz => lv_aload_n X.1 X.2.1 hd rfl (lk_at hl h) (kk p e s m args below meth c X Y H locs ls hP hS hl hz)
theorem vz_istore {i : Nat} {x : Int32} {lv' : List (Nat × Value)} (hd : decode (mC M) pc = .ok (.istore i, 2)) (hn : i < mN M) (h : s1L i (.int x) lv = lv') (kk : Vz l b id D M z Qf Ps N K ce sl (pc + 2) lv' st g) : Vz l b id D M z Qf Ps N K ce sl pc lv (.int x :: st) g :=
  fun p e s m args below meth c X Y H locs ls hP hS hl hz => lv_istore X.1 X.2.1 hd hl hn h (fun ls' hl' => kk p e s m args below meth c X Y H locs ls' hP hS hl' hz)
theorem vz_istore_n {k : Fin 4} {x : Int32} {lv' : List (Nat × Value)} (hd : decode (mC M) pc = .ok (.istore_n k, 1)) (hn : (k : Nat) < mN M) (h : s1L (k : Nat) (.int x) lv = lv') (kk : Vz l b id D M z Qf Ps N K ce sl (pc + 1) lv' st g) : Vz l b id D M z Qf Ps N K ce sl pc lv (.int x :: st) g :=
  fun p e s m args below meth c X Y H locs ls hP hS hl hz => lv_istore_n X.1 X.2.1 hd rfl hl hn h (fun ls' hl' => kk p e s m args below meth c X Y H locs ls' hP hS hl' hz)
theorem vz_astore {i : Nat} {x : Nat} {lv' : List (Nat × Value)} (hd : decode (mC M) pc = .ok (.astore i, 2)) (hn : i < mN M) (h : s1L i (.ref x) lv = lv') (kk : Vz l b id D M z Qf Ps N K ce sl (pc + 2) lv' st g) : Vz l b id D M z Qf Ps N K ce sl pc lv (.ref x :: st) g :=
  fun p e s m args below meth c X Y H locs ls hP hS hl hz => lv_astore X.1 X.2.1 hd hl hn h (fun ls' hl' => kk p e s m args below meth c X Y H locs ls' hP hS hl' hz)
theorem vz_astore_n {k : Fin 4} {x : Nat} {lv' : List (Nat × Value)} (hd : decode (mC M) pc = .ok (.astore_n k, 1)) (hn : (k : Nat) < mN M) (h : s1L (k : Nat) (.ref x) lv = lv') (kk : Vz l b id D M z Qf Ps N K ce sl (pc + 1) lv' st g) : Vz l b id D M z Qf Ps N K ce sl pc lv (.ref x :: st) g :=
  fun p e s m args below meth c X Y H locs ls hP hS hl hz => lv_astore_n X.1 X.2.1 hd rfl hl hn h (fun ls' hl' => kk p e s m args below meth c X Y H locs ls' hP hS hl' hz)
theorem vz_lload {i : Nat} {x : Int64} (hd : decode (mC M) pc = .ok (.lload i, 2)) (h : lv.lookup i = some (.long x)) (kk : Vz l b id D M z Qf Ps N K ce sl (pc + 2) lv (.long x :: st) g) : Vz l b id D M z Qf Ps N K ce sl pc lv st g :=
  fun p e s m args below meth c X Y H locs ls hP hS hl hz => lv_lload X.1 X.2.1 hd (lk_at hl h) (kk p e s m args below meth c X Y H locs ls hP hS hl hz)
theorem vz_lload_n {k : Fin 4} {x : Int64} (hd : decode (mC M) pc = .ok (.lload_n k, 1)) (h : lv.lookup (k : Nat) = some (.long x)) (kk : Vz l b id D M z Qf Ps N K ce sl (pc + 1) lv (.long x :: st) g) : Vz l b id D M z Qf Ps N K ce sl pc lv st g :=
  fun p e s m args below meth c X Y H locs ls hP hS hl hz => lv_lload_n X.1 X.2.1 hd rfl (lk_at hl h) (kk p e s m args below meth c X Y H locs ls hP hS hl hz)
theorem vz_lstore {i : Nat} {x : Int64} {lv' : List (Nat × Value)} (hd : decode (mC M) pc = .ok (.lstore i, 2)) (hn : i + 1 < mN M) (h : s2L i (.long x) lv = lv') (kk : Vz l b id D M z Qf Ps N K ce sl (pc + 2) lv' st g) : Vz l b id D M z Qf Ps N K ce sl pc lv (.long x :: st) g :=
  fun p e s m args below meth c X Y H locs ls hP hS hl hz => lv_lstore X.1 X.2.1 hd hl hn h (fun ls' hl' => kk p e s m args below meth c X Y H locs ls' hP hS hl' hz)
theorem vz_lstore_n {k : Fin 4} {x : Int64} {lv' : List (Nat × Value)} (hd : decode (mC M) pc = .ok (.lstore_n k, 1)) (hn : (k : Nat) + 1 < mN M) (h : s2L (k : Nat) (.long x) lv = lv') (kk : Vz l b id D M z Qf Ps N K ce sl (pc + 1) lv' st g) : Vz l b id D M z Qf Ps N K ce sl pc lv (.long x :: st) g :=
  fun p e s m args below meth c X Y H locs ls hP hS hl hz => lv_lstore_n X.1 X.2.1 hd rfl hl hn h (fun ls' hl' => kk p e s m args below meth c X Y H locs ls' hP hS hl' hz)
theorem vz_iadd {x y : Int32} (hd : decode (mC M) pc = .ok (.iadd, 1)) (kk : Vz l b id D M z Qf Ps N K ce sl (pc + 1) lv (.int (x + y) :: st) g) : Vz l b id D M z Qf Ps N K ce sl pc lv (.int y :: .int x :: st) g :=
  fun p e s m args below meth c X Y H locs ls hP hS hl hz => lv_iadd X.1 X.2.1 hd (kk p e s m args below meth c X Y H locs ls hP hS hl hz)
theorem vz_isub {x y : Int32} (hd : decode (mC M) pc = .ok (.isub, 1)) (kk : Vz l b id D M z Qf Ps N K ce sl (pc + 1) lv (.int (x - y) :: st) g) : Vz l b id D M z Qf Ps N K ce sl pc lv (.int y :: .int x :: st) g :=
  fun p e s m args below meth c X Y H locs ls hP hS hl hz => lv_isub X.1 X.2.1 hd (kk p e s m args below meth c X Y H locs ls hP hS hl hz)
theorem vz_iand {x y : Int32} (hd : decode (mC M) pc = .ok (.iand, 1)) (kk : Vz l b id D M z Qf Ps N K ce sl (pc + 1) lv (.int (x &&& y) :: st) g) : Vz l b id D M z Qf Ps N K ce sl pc lv (.int y :: .int x :: st) g :=
  fun p e s m args below meth c X Y H locs ls hP hS hl hz => lv_iand X.1 X.2.1 hd (kk p e s m args below meth c X Y H locs ls hP hS hl hz)
theorem vz_i2l {x : Int32} {v : Int64} (hd : decode (mC M) pc = .ok (.i2l, 1)) (hv : x.toInt64 = v) (kk : Vz l b id D M z Qf Ps N K ce sl (pc + 1) lv (.long v :: st) g) : Vz l b id D M z Qf Ps N K ce sl pc lv (.int x :: st) g :=
  fun p e s m args below meth c X Y H locs ls hP hS hl hz => lv_i2l X.1 X.2.1 hd hv (kk p e s m args below meth c X Y H locs ls hP hS hl hz)
theorem vz_lcmp {x y : Int64} (hd : decode (mC M) pc = .ok (.lcmp, 1)) (kk : Vz l b id D M z Qf Ps N K ce sl (pc + 1) lv (.int (lg_cmp x y) :: st) g) : Vz l b id D M z Qf Ps N K ce sl pc lv (.long y :: .long x :: st) g :=
  fun p e s m args below meth c X Y H locs ls hP hS hl hz => W.lcmp X.1 X.2.1 hd (kk p e s m args below meth c X Y H locs ls hP hS hl hz)
theorem vz_dup {va : Value} (hd : decode (mC M) pc = .ok (.dup, 1)) (hva : va.category = 1) (kk : Vz l b id D M z Qf Ps N K ce sl (pc + 1) lv (va :: va :: st) g) : Vz l b id D M z Qf Ps N K ce sl pc lv (va :: st) g :=
  fun p e s m args below meth c X Y H locs ls hP hS hl hz => lv_dup X.1 X.2.1 hd hva (kk p e s m args below meth c X Y H locs ls hP hS hl hz)
theorem vz_pop {va : Value} (hd : decode (mC M) pc = .ok (.pop, 1)) (hva : va.category = 1) (kk : Vz l b id D M z Qf Ps N K ce sl (pc + 1) lv st g) : Vz l b id D M z Qf Ps N K ce sl pc lv (va :: st) g :=
  fun p e s m args below meth c X Y H locs ls hP hS hl hz => lv_pop X.1 X.2.1 hd hva (kk p e s m args below meth c X Y H locs ls hP hS hl hz)
theorem vz_if_eq {x : Int32} {off : Int} {tgt : Nat} (hd : decode (mC M) pc = .ok (.ifCond .eq off, 3)) (ht : (pc : Int) + off = (tgt : Int)) (kt : x = 0 → Vz l b id D M z Qf Ps N K ce sl tgt lv st g) (kf : ¬ x = 0 → Vz l b id D M z Qf Ps N K ce sl (pc + 3) lv st g) : Vz l b id D M z Qf Ps N K ce sl pc lv (.int x :: st) g :=
  fun p e s m args below meth c X Y H locs ls hP hS hl hz => lv_if_eq X.1 X.2.1 hd ht (fun h => kt h p e s m args below meth c X Y H locs ls hP hS hl hz) (fun h => kf h p e s m args below meth c X Y H locs ls hP hS hl hz)
theorem vz_if_ne {x : Int32} {off : Int} {tgt : Nat} (hd : decode (mC M) pc = .ok (.ifCond .ne off, 3)) (ht : (pc : Int) + off = (tgt : Int)) (kt : ¬ x = 0 → Vz l b id D M z Qf Ps N K ce sl tgt lv st g) (kf : x = 0 → Vz l b id D M z Qf Ps N K ce sl (pc + 3) lv st g) : Vz l b id D M z Qf Ps N K ce sl pc lv (.int x :: st) g :=
  fun p e s m args below meth c X Y H locs ls hP hS hl hz => lv_if_ne X.1 X.2.1 hd ht (fun h => kt h p e s m args below meth c X Y H locs ls hP hS hl hz) (fun h => kf h p e s m args below meth c X Y H locs ls hP hS hl hz)
theorem vz_icmp_eq {x y : Int32} {off : Int} {tgt : Nat} (hd : decode (mC M) pc = .ok (.if_icmp .eq off, 3)) (ht : (pc : Int) + off = (tgt : Int)) (kt : x = y → Vz l b id D M z Qf Ps N K ce sl tgt lv st g) (kf : ¬ x = y → Vz l b id D M z Qf Ps N K ce sl (pc + 3) lv st g) : Vz l b id D M z Qf Ps N K ce sl pc lv (.int y :: .int x :: st) g :=
  fun p e s m args below meth c X Y H locs ls hP hS hl hz => lv_icmp_eq X.1 X.2.1 hd ht (fun h => kt h p e s m args below meth c X Y H locs ls hP hS hl hz) (fun h => kf h p e s m args below meth c X Y H locs ls hP hS hl hz)
theorem vz_icmp_gt {x y : Int32} {off : Int} {tgt : Nat} (hd : decode (mC M) pc = .ok (.if_icmp .gt off, 3)) (ht : (pc : Int) + off = (tgt : Int)) (kt : y < x → Vz l b id D M z Qf Ps N K ce sl tgt lv st g) (kf : ¬ y < x → Vz l b id D M z Qf Ps N K ce sl (pc + 3) lv st g) : Vz l b id D M z Qf Ps N K ce sl pc lv (.int y :: .int x :: st) g :=
  fun p e s m args below meth c X Y H locs ls hP hS hl hz => lv_icmp_gt X.1 X.2.1 hd ht (fun h => kt h p e s m args below meth c X Y H locs ls hP hS hl hz) (fun h => kf h p e s m args below meth c X Y H locs ls hP hS hl hz)
theorem vz_goto {off : Int} {tgt : Nat} (hd : decode (mC M) pc = .ok (.goto off, 3)) (ht : (pc : Int) + off = (tgt : Int)) (kk : Vz l b id D M z Qf Ps N K ce sl tgt lv st g) : Vz l b id D M z Qf Ps N K ce sl pc lv st g :=
  fun p e s m args below meth c X Y H locs ls hP hS hl hz => lv_goto X.1 X.2.1 hd ht (kk p e s m args below meth c X Y H locs ls hP hS hl hz)
theorem vz_iinc {i k : Nat} {n : Int} {x v : Int32} {lv' : List (Nat × Value)} (hd : decode (mC M) pc = .ok (.iinc i n, 3)) (hk : lv[k]? = some (i, .int x)) (hv : x + Int32.ofInt n = v) (hn : i < mN M) (h : s1L i (.int v) lv = lv') (kk : Vz l b id D M z Qf Ps N K ce sl (pc + 3) lv' st g) : Vz l b id D M z Qf Ps N K ce sl pc lv st g :=
  fun p e s m args below meth c X Y H locs ls hP hS hl hz => lv_iinc X.1 X.2.1 hd hl hk hv hn h (fun ls' hl' => kk p e s m args below meth c X Y H locs ls' hP hS hl' hz)
theorem vz_lald {q k : Nat} {i : Int32} (hd : decode (mC M) pc = .ok (.laload, 1)) (hq : q < N) (hk : qK q = 3) (hi : i = nI k) (hlt : k < qL q) (kk : Vz l b id D M z Qf Ps N K ce sl (pc + 1) lv (.long (g.2 q k) :: st) g) : Vz l b id D M z Qf Ps N K ce sl pc lv (.int i :: .ref (b + q) :: st) g := by
  intro p e s m args below meth c X Y H locs ls hP hS hl hz
  subst hi
  have h31 := qL_lt q
  refine va_lald X.1 X.2.1 X.2.2.2.2.2.2.2.2.2.1 hP q 2 (by rw [qW_get hq, qE_3 hk]) rfl (vp_in_nI hlt h31) hd ?_
  rw [nI_clamp (Nat.lt_trans hlt h31)]
  exact (kk p e s m args below meth c X Y H locs ls hP hS hl hz)
theorem vz_int {x y : Int32} (h : x = y) (kk : Vz l b id D M z Qf Ps N K ce sl pc lv (.int y :: st) g) : Vz l b id D M z Qf Ps N K ce sl pc lv (.int x :: st) g := by
  rw [h]; exact kk
theorem vz_long {x y : Int64} (h : x = y) (kk : Vz l b id D M z Qf Ps N K ce sl pc lv (.long y :: st) g) : Vz l b id D M z Qf Ps N K ce sl pc lv (.long x :: st) g := by
  rw [h]; exact kk
theorem vz_g {g' : Sg} (h : g = g') (kk : Vz l b id D M z Qf Ps N K ce sl pc lv st g') : Vz l b id D M z Qf Ps N K ce sl pc lv st g := by
  rw [h]; exact kk
theorem vz_widen {ce' sl' : Nat} (h1 : ce ≤ ce') (h2 : sl ≤ sl') (kk : Vz l b id D M z Qf Ps N K ce' sl' pc lv st g) : Vz l b id D M z Qf Ps N K ce sl pc lv st g :=
  fun p e s m args below meth c X Y H locs ls hP hS hl hz => W.widen h1 h2 (kk p e s m args below meth c X Y H locs ls hP hS hl hz)
theorem vz_pk {lv' : List (Nat × Value)} (ks : List Nat) (h : lv_pick lv ks = lv') (kk : Vz l b id D M z Qf Ps N K ce sl pc lv' st g) : Vz l b id D M z Qf Ps N K ce sl pc lv st g :=
  fun p e s m args below meth c X Y H locs ls hP hS hl hz => kk p e s m args below meth c X Y H locs ls hP hS (lv_sub hl ks h) hz
theorem vz_newa (at0 : ArrayType) (ki : Nat) (ty : FieldType) (hty : newarray.typeOf at0 = ty) (hd : decode (mC M) pc = .ok (.newarray at0, 2)) (harr : Cond.arrayClass ty ∈ TT) (hki : (tyQ id)[ki]? = some (id ki, ty)) (hz : z = true) (hN : N < 85) {n : Int32} (hn : ¬ n < 0) (hL : n.toNatClampNeg = qL N) (hby : qL N * componentBytes ty ≤ 536870912) (hat : vp_cell (id ki) (match qE b id K g N with | .inl x => x.2 | .inr _ => (0, .inl (fun _ => 0))) = arrV (id ki) (qL N) (fun _ => defaultValue ty)) (hE : ∃ a, qE b id K g N = .inl (id ki, a))
    (hce : ce + 1 ≤ (mR M).cells) (hsl : sl + qL N ≤ (mR M).slots) (kk : Vz l b id D M z Qf Ps (N + 1) K (ce + 1) (sl + qL N) (pc + 2) lv (.ref (b + N) :: st) g) : Vz l b id D M z Qf Ps N K ce sl pc lv (.int n :: st) g := by
  intro p e s m args below meth c X Y H locs ls hP hS hl hq
  subst hty
  have hsz : H.size = b + N := hq.1 hz
  refine va_newaK X.1 X.2.1 (X.2.2.2.2.1 _ harr) rfl hd rfl hn hL hby hce hsl hsz fun H1 cA e1 z1 o1 hAr hNm => ?_
  have hid := (X.2.2.2.2.2.2.2.2.2.1.2 ki _ hki).2
  have hcA : cA = id ki := by
    have h9 : s.vm.findClass ("[" ++ (newarray.typeOf at0).toString) = some (id ki) := by cases at0 <;> exact hid
    exact Option.some.inj (hNm.symm.trans h9)
  subst hcA
  obtain ⟨a, ha⟩ := hE
  rw [ha] at hat
  refine kk p e s m args below meth c X Y H1 locs ls (qgrow hP (fun q h => o1 q (by omega)) ?_) ⟨by rw [z1]; have := hS.1; omega, fun x h1 h2 => (o1 x (by have := hS.1; omega)).trans (hS.2.1 x h1 h2), hS.2.2⟩ hl ⟨fun _ => by rw [z1]; omega, by omega⟩
  rw [ha]
  show H1[b + N]? = some (vp_cell _ _)
  rw [e1]
  exact congrArg some hat.symm
theorem vz_new {index : Nat} {C : String} {T : u_T} (ty : Nat → FieldType) (hd : decode (mC M) pc = .ok (.new index, 3)) (hcl : Cond.classLink (mO M) index C ∈ TT) (hins : Cond.instantiable C (qL N) ∈ TT) (hini : Cond.initialized C ∈ TT) (hc : vwCl[qC N]? = some (C, T, qL N)) (hin : ∀ w ∈ u_ws C T (qL N), w ∈ TT) (hty : ∀ k, k < qL N → parseFieldDescriptor (T k).2.2.1 = some (ty k)) (hz : z = true) (hN : N < 85) (h0 : qK N = 0)
    (hdef : ∀ j, j < qL N → defaultValue (ty j) = qV b K g N j) (hce : ce + 1 ≤ (mR M).cells) (hsl : sl + qL N ≤ (mR M).slots) (kk : Vz l b id D M z Qf Ps (N + 1) K (ce + 1) (sl + qL N) (pc + 3) lv (.ref (b + N) :: st) g) : Vz l b id D M z Qf Ps N K ce sl pc lv st g := by
  intro p e s m args below meth c X Y H locs ls hP hS hl hq
  have hsz : H.size = b + N := hq.1 hz
  have hKn := X.2.2.2.2.2.2.2.2.2.1.1 (qC N) _ hc
  refine W.newcK X.1 X.2.1 X.2.2.2.1 (X.2.2.2.2.1 _ hcl) (X.2.2.2.2.1 _ hins) (X.2.2.2.2.1 _ hini) rfl hd hce hsl hKn.2.1 hsz fun H1 kC hkC e1 z1 o1 => ?_
  refine kk p e s m args below meth c X Y H1 locs ls (qgrow hP (fun q h => o1 q (by omega)) ?_) ⟨by rw [z1]; have := hS.1; omega, fun x h1 h2 => (o1 x (by have := hS.1; omega)).trans (hS.2.1 x h1 h2), hS.2.2⟩ hl ⟨fun _ => by rw [z1]; omega, by omega⟩
  rw [qE_0 h0]
  refine ⟨_, hc, (u_born ty X.2.2.2.2.1 hin hKn hkC e1 hty).to (fun j hj => ?_)⟩
  rw [hdef j hj]
  simp [vp_V, hj]
theorem vz_callI {M' : Mt} {q index n : Nat} (As rest : List Value) {st0 : List Value} {NE' : Nat} {KE' : Nat → Nat → Bool} {post' : Option Value → Sg → Prop} (hd : decode (mC M) pc = .ok (.invokespecial index, 3))
    (hM : qCT l b id D M' z (.ref (b + q) :: As) N K g NE' KE' post' (fun _ _ => False)) (hy1 : (mM M').name = "<init>") (hlk : Cond.methodLink (mO M) index (mM M') ∈ TT) (hinst : Cond.instanceMethod (mM M') ∈ TT) (hcd : Cond.code (mM M') (mC M') (mN M') none ∈ TT) (hini : Cond.initialized (mO M') ∈ TT) (hhM : mH M' = none) (hret : mY M' = none)
    (hdd : (mO M') ≠ "java/lang/invoke/MethodHandle" ∧ (mO M') ≠ "java/lang/invoke/VarHandle" ∧ (parseMethodDescriptor (mM M').desc).map (fun d => d.parameters.length) = some n) (hR : (mR M').frames + 1 ≤ (mR M).frames ∧ 8 + (mN M' + 11) + (mR M').locals ≤ (mR M).locals)
    (hn : As.length = n) (hst : st0 = As.reverse ++ .ref (b + q) :: rest) (hrest : (rest.map fun v => v.category).sum ≤ 8) (hf : ce + (mR M').cells ≤ (mR M).cells ∧ sl + (mR M').slots ≤ (mR M).slots)
    (kk : ∀ v g', post' v g' → Vz l b id D M z Qf Ps NE' KE' (ce + (mR M').cells) (sl + (mR M').slots) (pc + 3) lv (v.toList ++ rest) g') : Vz l b id D M z Qf Ps N K ce sl pc lv st0 g := by
  intro p e s m args below meth c X Y H locs ls hP hS hl hz
  subst hst
  intro T0 hT XS
  have hts := X.2.2.2.2.1
  have hpl : e.platform.magicAccessors = ({} : Platform).magicAccessors := by rw [XS.admits.platform]
  have hw : mW M' ∈ TT := by simp only [mW, hhM, hret]; exact hcd
  obtain ⟨mk, methM, cM, kP, vm₁, hnamed, hmethM, hcodeM, -, hlocalsM, -, hkP, -, hW₁, hstep₁⟩ := Steps.initColdArgs (e := e) XS.here X.1 XS.warmed hpl X.2.2.2.1 hy1 ⟨hdd.1, hdd.2.1⟩ (hts _ hlk) (hts _ hinst) (hts _ hcd) (f := F0 m pc ls (As.reverse ++ .ref (b + q) :: rest)) rfl
    (fun sig h => by have h2 := hdd.2.2; rw [h] at h2; rw [hn]; exact (Option.some.inj h2).symm) rfl (by rw [X.2.1]; exact hd)
  have X₁ := XS.noted hW₁
  obtain ⟨t, a1, b1⟩ := qcall (av := .ref (b + q) :: As) (rest := rest) X hP hS hl hz X₁ hT hM hhM hw hini hR hf hrest (X₁.named hnamed) hd
    (fun T' x E cx g' locs1 XT hp hP1 hS1 h1 h2 h3 => hp.elim)
    (fun v g' T' locs1 XT hp hP1 hS1 hz1 => kk v g' hp p e s m args below meth c X Y T'.heap locs1 ls hP1 hS1 hl hz1 T' rfl XT)
  exact ⟨t, hstep₁ t (fun acts => by rw [doInvoke_state]; exact a1), b1⟩
theorem qcallG {M' : Mt} {av rest : List Value} {NE' : Nat} {KE' : Nat → Nat → Bool} {post' : Option Value → Sg → Prop} {px' : String → Sg → Prop} {p : Program} {e : Env} {s : State} {m : MethodId} {args : Array Value} {below : List Frame} {meth : Method} {c : Code} {H : Heap} {locs : List Loc} {ls : Array Slot} {U : State} {mk : MethodId} {ig : Instr} {Q : State → Prop}
    (X : Cq b id D M p s m args meth c) (hP : va_P D vwCl (qW b id N K g) H) (hS : va_S (qA b) s.heap H locs) (hl : lv_has ls (mN M) lv) (hz : qz z b N H)
    (XU : Stand p l e (mR M) s m args below meth c U locs ce sl) (hU : U.heap = H) (hM : qCT l b id D M' z av N K g NE' KE' post' px') (hcd : mW M' ∈ TT) (hini : Cond.initialized (mO M') ∈ TT) (hR : (mR M').frames + 1 ≤ (mR M).frames ∧ 8 + (mN M' + 11) + (mR M').locals ≤ (mR M).locals) (hf : ce + (mR M').cells ≤ (mR M).cells ∧ sl + (mR M').slots ≤ (mR M).slots)
    (hrest : (rest.map fun v => v.category).sum ≤ 8) (hn : U.methodNamed? (mM M') = some mk) (hd : decode (mC M) pc = .ok (ig, 3))
    (kx : ∀ (T' : State) (x : Addr) (E : String) (cx : Cell) (g' : Sg) (locs1 : List Loc), Stand p l e (mR M) s m args below meth c T' locs1 (ce + (mR M').cells) (sl + (mR M').slots) → px' E g' → va_P D vwCl (qW b id N K g') T'.heap → va_S (qA b) s.heap T'.heap locs1 → T'.heap[x]? = some cx → cx.vm = .none → s.vm.findClass E = some cx.cls → ∃ t, Steps p.tables e below ((T'.setTop (F0 m pc ls rest)).pushFrame (.throwing x)) t ∧ Q t)
    (kk : ∀ (v : Option Value) (g' : Sg) (T' : State) (locs1 : List Loc), Stand p l e (mR M) s m args below meth c T' locs1 (ce + (mR M').cells) (sl + (mR M').slots) → post' v g' → va_P D vwCl (qW b id NE' KE' g') T'.heap → va_S (qA b) s.heap T'.heap locs1 → qz z b NE' T'.heap → ∃ t, Steps p.tables e below (T'.setTop (F0 m (pc + 3) ls (v.toList ++ rest))) t ∧ Q t) :
    ∃ t, Steps p.tables e below (doInvoke e (U.setTop (F0 m pc ls rest)) [] mk av.toArray).1 t ∧ Q t := by
  have hwd : ∀ {w : Cond} (a' : Array Value), w ∈ TT → w.before a' U = true := fun a' h => tU X.2.2.2.2.1 XU.warmed h
  obtain ⟨mk9, methY, cY, hn9, h1, h2, -, h4, -, -, -, -⟩ := mW_spec (hwd av.toArray hcd)
  cases Option.some.inj (hn9.symm.trans hn)
  have hF : ∀ {st t T' : State} {L : List Loc}, st.heap = H → T'.heap = t.heap → va_F (qA b) st t → (∀ q ∈ L, qA b q.base) → va_S (qA b) s.heap T'.heap (locs ++ L) := by
    intro st t T' L e0 e1 hF hL
    obtain ⟨f1, f2⟩ := hF
    rw [e0] at f1 f2
    rw [e1]
    refine ⟨Nat.le_trans hS.1 f1, fun q h1 h2 => (f2 q (Nat.lt_of_lt_of_le h1 hS.1) h2).trans (hS.2.1 q h1 h2), fun q hq => ?_⟩
    rcases List.mem_append.mp hq with h | h
    · exact hS.2.2 q h
    · exact hL q h
  obtain ⟨s₂, U', L, e1, e2, X', hL, hout⟩ := qenter (a := av.toArray) (g := F0 m pc ls rest) (mk := mk) (maxL := mN M') hM XU rfl (hl.1.trans X.2.2.1.symm) (by rw [X.2.1]; exact hd) (lv_room hrest) hR.1 hR.2 hf.1 hf.2 hn
    (fun w hw => by
      rcases List.mem_cons.mp hw with rfl | hw
      · exact hwd _ hcd
      · exact hwd _ hw) ⟨methY, cY, h1, h2, h4⟩ (hwd _ hini) (qpre X hP hS hz hU XU.warmed _ _)
  rcases hout with ⟨v, ⟨hfr, hq⟩, hst⟩ | ⟨x, ⟨hfr, hq⟩, hst⟩
  · rcases hq with ⟨v', g', hv, hp, hP', hz'⟩ | ⟨_, _, _, _, h, _⟩
    · cases hv
      obtain ⟨t, a1, b1⟩ := kk v g' U' (locs ++ L) X' hp (by rw [e1]; exact hP') (hF (st := U.calling (F0 m pc ls rest) mk av.toArray) hU e1 hfr hL) (by rw [e1]; exact hz')
      exact ⟨t, hst.trans a1, b1⟩
    · cases h
  · rcases hq with ⟨_, _, h, _⟩ | ⟨x', E, cx, g', hx, hp, hP', hc1, hc2, hc3⟩
    · cases h
    · cases hx
      have hc4 : s.vm.findClass E = some cx.cls := by
        have h9 : U.vm.findClass E = some cx.cls := hc3
        rw [XU.warmed.alike.findClass] at h9
        exact h9
      obtain ⟨t, a1, b1⟩ := kx U' x E cx g' (locs ++ L) X' hp (by rw [e1]; exact hP') (hF (st := U.calling (F0 m pc ls rest) mk av.toArray) hU e1 hfr hL) (by rw [e1]; exact hc1) hc2 hc4
      exact ⟨t, hst.trans a1, b1⟩
theorem vz_callV {M' : Mt} {q index n nf : Nat} {C : String} {T : u_T} (As rest : List Value) {st0 : List Value} {NE' : Nat} {KE' : Nat → Nat → Bool} {post' : Option Value → Sg → Prop} (hd : decode (mC M) pc = .ok (.invokevirtual index, 3))
    (hM : qCT l b id D M' z (.ref (b + q) :: As) N K g NE' KE' post' (fun _ _ => False)) (hlk : Cond.methodLink (mO M) index (mM M') ∈ TT) (hinst : Cond.instanceMethod (mM M') ∈ TT) (hsel : Cond.selects C (mM M') (mM M') ∈ TT) (hcd : mW M' ∈ TT) (hini : Cond.initialized (mO M') ∈ TT) (hhM : mH M' = none)
    (hdd : (mO M') ≠ "java/lang/invoke/MethodHandle" ∧ (mO M') ≠ "java/lang/invoke/VarHandle" ∧ (parseMethodDescriptor (mM M').desc).map (fun d => d.parameters.length) = some n) (hR : (mR M').frames + 1 ≤ (mR M).frames ∧ 8 + (mN M' + 11) + (mR M').locals ≤ (mR M).locals)
    (hq : q < N) (h0 : qK q = 0) (hc : vwCl[qC q]? = some (C, T, nf)) (hn : As.length = n) (hst : st0 = As.reverse ++ .ref (b + q) :: rest) (hrest : (rest.map fun v => v.category).sum ≤ 8) (hf : ce + (mR M').cells ≤ (mR M).cells ∧ sl + (mR M').slots ≤ (mR M).slots)
    (kk : ∀ v g', post' v g' → Vz l b id D M z Qf Ps NE' KE' (ce + (mR M').cells) (sl + (mR M').slots) (pc + 3) lv (v.toList ++ rest) g') : Vz l b id D M z Qf Ps N K ce sl pc lv st0 g := by
  intro p e s m args below meth c X Y H locs ls hP hS hl hz
  subst hst
  intro T0 hT XS
  have hts := X.2.2.2.2.1
  obtain ⟨mk, methM, hnamed, hmethM, hstM, habM⟩ := Cond.instanceMethod_spec (hts _ hinst)
  have hcode : (Cond.code (mM M') (mC M') (mN M') (mY M')).before args s = true := by
    have h := hts _ hcd
    simp only [mW, hhM] at h
    exact h
  obtain ⟨methM', cM, hmethM', -, -, -, -, -, -, hsigM⟩ := Cond.code_spec hnamed hcode
  cases hmethM.symm.trans hmethM'
  obtain ⟨c2, r2, m2, q1, q2, q3, q4, kP, hkP, hkPi⟩ := Cond.selects_spec (hts _ hsel)
  obtain ⟨cellB, hcB, hoB, hclB⟩ := va_recv X.2.2.2.2.2.2.2.2.2.1 hP hc (show (qW b id N K g)[q]? = some (b + q, .inr (qC q, (List.range (qL q)).map (qV b K g q))) by rw [qW_get hq, qE_0 h0])
  cases hclB.symm.trans q1
  have hy : (mM M').cls ≠ "java/lang/invoke/MethodHandle" ∧ (mM M').cls ≠ "java/lang/invoke/VarHandle" := ⟨hdd.1, hdd.2.1⟩
  cases (State.methodFound?_of_named hnamed hy).symm.trans q2
  cases hnamed.symm.trans q3
  have hselP : selectMethod e.platform s.vm cellB.cls mk = .method mk := by rw [Launch.admits_selectMethod XS.admits]; exact q4
  have hlen : As.length = methM.sig.parameters.length := by
    have h2 := hdd.2.2
    rw [hsigM] at h2
    rw [hn]
    exact (Option.some.inj h2).symm
  obtain ⟨vm₁, X₁, hstep₁⟩ := XS.invokevirtual X.1 X.2.2.2.1 (hts _ hlk) hnamed hmethM hstM hkP hkPi hy (a := b + q) (cell := cellB) (by rw [hT]; exact hcB)
    (fun z h => by rw [h] at hoB; cases hoB) hselP hmethM habM hkP hkPi (g := F0 m pc ls (As.reverse ++ .ref (b + q) :: rest)) rfl (argsL := As) (rest := rest) hlen rfl (by rw [X.2.1]; exact hd)
  obtain ⟨t, a1, b1⟩ := qcall (av := .ref (b + q) :: As) (rest := rest) X hP hS hl hz X₁ hT hM hhM hcd hini hR hf hrest (X₁.named hnamed) hd
    (fun T' x E cx g' locs1 XT hp hP1 hS1 h1 h2 h3 => hp.elim)
    (fun v g' T' locs1 XT hp hP1 hS1 hz1 => kk v g' hp p e s m args below meth c X Y T'.heap locs1 ls hP1 hS1 hl hz1 T' rfl XT)
  exact ⟨t, hstep₁ t (fun acts => by rw [doInvoke_state]; exact a1), b1⟩
theorem vz_callS {M' : Mt} {index n : Nat} (As rest : List Value) {st0 : List Value} {NE' : Nat} {KE' : Nat → Nat → Bool} {post' : Option Value → Sg → Prop} (hd : decode (mC M) pc = .ok (.invokestatic index, 3))
    (hM : qCT l b id D M' z As N K g NE' KE' post' (fun _ _ => False)) (hlk : Cond.methodLink (mO M) index (mM M') ∈ TT) (hsta : Cond.static (mM M') ∈ TT) (hcd : mW M' ∈ TT) (hini : Cond.initialized (mO M') ∈ TT)
    (hdd : (mO M') ≠ "java/lang/invoke/MethodHandle" ∧ (mO M') ≠ "java/lang/invoke/VarHandle" ∧ (parseMethodDescriptor (mM M').desc).map (fun d => d.parameters.length) = some n) (hR : (mR M').frames + 1 ≤ (mR M).frames ∧ 8 + (mN M' + 11) + (mR M').locals ≤ (mR M).locals)
    (hn : As.length = n) (hst : st0 = As.reverse ++ rest) (hrest : (rest.map fun v => v.category).sum ≤ 8) (hf : ce + (mR M').cells ≤ (mR M).cells ∧ sl + (mR M').slots ≤ (mR M).slots)
    (kk : ∀ v g', post' v g' → Vz l b id D M z Qf Ps NE' KE' (ce + (mR M').cells) (sl + (mR M').slots) (pc + 3) lv (v.toList ++ rest) g') : Vz l b id D M z Qf Ps N K ce sl pc lv st0 g := by
  intro p e s m args below meth c X Y H locs ls hP hS hl hz
  subst hst
  intro T0 hT XS
  have hts := X.2.2.2.2.1
  obtain ⟨mk, methM, cM, hnamed, hmethM, -, -, -, -, -, -, hsigM⟩ := mW_spec (hts _ hcd)
  have hstatic : methM.isStatic = true := Cond.static_spec hnamed hmethM (hts _ hsta)
  obtain ⟨kP, hkP, -⟩ := className_of_methodNamed hnamed
  have hinitP : kP.init = .initialized := Cond.initialized_spec (findClass_of_methodNamed hnamed) hkP (hts _ hini)
  have hy : (mM M').cls ≠ "java/lang/invoke/MethodHandle" ∧ (mM M').cls ≠ "java/lang/invoke/VarHandle" := ⟨hdd.1, hdd.2.1⟩
  have hlen : As.length = methM.sig.parameters.length := by
    have h2 := hdd.2.2
    rw [hsigM] at h2
    rw [hn]
    exact (Option.some.inj h2).symm
  obtain ⟨vm₁, X₁, hstep₁⟩ := XS.invokestatic X.1 X.2.2.2.1 (hts _ hlk) hnamed hmethM hstatic hkP hinitP hy (g := F0 m pc ls (As.reverse ++ rest)) rfl (argsL := As) (rest := rest) hlen rfl (by rw [X.2.1]; exact hd)
  obtain ⟨t, a1, b1⟩ := qcallG (av := As) (rest := rest) X hP hS hl hz X₁ hT hM hcd hini hR hf hrest (X₁.named hnamed) hd
    (fun T' x E cx g' locs1 XT hp hP1 hS1 h1 h2 h3 => hp.elim)
    (fun v g' T' locs1 XT hp hP1 hS1 hz1 => kk v g' hp p e s m args below meth c X Y T'.heap locs1 ls hP1 hS1 hl hz1 T' rfl XT)
  exact ⟨t, hstep₁ t (fun acts => by rw [doInvoke_state]; exact a1), b1⟩
theorem vz_z (kk : Vz l b id D M false Qf Ps N K ce sl pc lv st g) : Vz l b id D M true Qf Ps N K ce sl pc lv st g :=
  fun p e s m args below meth c X Y H locs ls hP hS hl hz => kk p e s m args below meth c X Y H locs ls hP hS hl ⟨fun h => (by cases h), hz.2⟩
theorem vz_K {K' : Nat → Nat → Bool} (h : ∀ p, p < N → qE b id K' g p = qE b id K g p) (kk : Vz l b id D M z Qf Ps N K' ce sl pc lv st g) : Vz l b id D M z Qf Ps N K ce sl pc lv st g := by
  intro p e s m args below meth c X Y H locs ls hP hS hl hz
  refine kk p e s m args below meth c X Y H locs ls ?_ hS hl hz
  have hw : qW b id N K' g = qW b id N K g := by
    unfold qW
    exact List.map_congr_left (fun p hp => by rw [h p (List.mem_range.mp hp)])
  rw [hw]
  exact hP
theorem vz_end (hd : decode (mC M) pc = .ok (.ireturn, 1)) (hr : mY M = some .boolean) (hce : ce ≤ (mR M).cells) (hsl : sl ≤ (mR M).slots) : Vz l b id D M z (Qz b (mR M)) Ps N K ce sl pc lv [.int 1] g := by
  intro p e s m args below meth c X Y H locs ls hP hS hl hz
  exact qret (Qc := fun _ _ o _ => o = .returned (some (.int 1))) (fun o t h => h) (W.widen hce hsl (W.zret X.1 X.2.1 (X.2.2.2.2.2.2.1.trans hr) rfl (fun t ht hW => rfl) hS.2.2 hd X.2.2.2.2.2.1))
theorem vz_tabIn {dflt lo hi : Int} {offs : Array Int} {len : Nat} {x : Int32} {off : Int} {tgt : Nat} (hd : decode (mC M) pc = .ok (.tableswitch dflt lo hi offs, len)) (h1 : ¬ x.toInt < lo) (h2 : ¬ hi < x.toInt) (ho : offs[(x.toInt - lo).toNat]? = some off) (ht : (pc : Int) + off = (tgt : Int)) (kk : Vz l b id D M z Qf Ps N K ce sl tgt lv st g) : Vz l b id D M z Qf Ps N K ce sl pc lv (.int x :: st) g :=
  fun p e s m args below meth c X Y H locs ls hP hS hl hz => lv_tableIn X.1 X.2.1 hd h1 h2 ho ht (kk p e s m args below meth c X Y H locs ls hP hS hl hz)
theorem vz_tabOut {dflt lo hi : Int} {offs : Array Int} {len : Nat} {x : Int32} {tgt : Nat} (hd : decode (mC M) pc = .ok (.tableswitch dflt lo hi offs, len)) (h : x.toInt < lo ∨ hi < x.toInt) (ht : (pc : Int) + dflt = (tgt : Int)) (kk : Vz l b id D M z Qf Ps N K ce sl tgt lv st g) : Vz l b id D M z Qf Ps N K ce sl pc lv (.int x :: st) g :=
  fun p e s m args below meth c X Y H locs ls hP hS hl hz => lv_tableOut X.1 X.2.1 hd h ht (kk p e s m args below meth c X Y H locs ls hP hS hl hz)
theorem vz_sld {a L k : Nat} {xs : Nat → Int32} (hd : decode (mC M) pc = .ok (.iaload, 1)) (hlt : k < L) (hL : L ≤ 2048) (kk : Vz l b id D M z Qf (Pz a L xs b) N K ce sl (pc + 1) lv (.int (xs k) :: st) g) : Vz l b id D M z Qf (Pz a L xs b) N K ce sl pc lv (.int (nI k) :: .ref a :: st) g := by
  intro p e s m args below meth c X Y H locs ls hP hS hl hz
  obtain ⟨y1, y2, y3⟩ := (show Pz a L xs b s from Y)
  refine va_sld X.1 X.2.1 y1 y2 (fun h => by have := h.1; omega) hS (vp_in_nI hlt (by omega)) hd ?_
  rw [nI_clamp (by omega)]
  exact kk p e s m args below meth c X Y H locs ls hP hS hl hz
theorem vz_slen {a L : Nat} {xs : Nat → Int32} (hd : decode (mC M) pc = .ok (.arraylength, 1)) (kk : Vz l b id D M z Qf (Pz a L xs b) N K ce sl (pc + 1) lv (.int (nI L) :: st) g) : Vz l b id D M z Qf (Pz a L xs b) N K ce sl pc lv (.ref a :: st) g := by
  intro p e s m args below meth c X Y H locs ls hP hS hl hz
  obtain ⟨y1, y2, y3⟩ := (show Pz a L xs b s from Y)
  exact va_slen X.1 X.2.1 y1 y2 (fun h => by have := h.1; omega) hS hd (kk p e s m args below meth c X Y H locs ls hP hS hl hz)
end Vy
