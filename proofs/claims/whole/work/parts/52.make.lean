/-! Objects and arrays that are made: the world grows by one place -/
section Mk
variable {l : Launch} {b : Nat} {id : Nat → ClassId} {D : va_G} {M : Mt} {z : Bool} {NE : Nat} {KE : Nat → Nat → Bool} {post : Option Value → Sg → Prop} {NX : Nat} {KX : Nat → Nat → Bool} {px : String → Sg → Prop} {N : Nat} {K : Nat → Nat → Bool} {ce sl pc : Nat} {lv : List (Nat × Value)} {st : List Value} {g : Sg}
theorem qW_more : qW b id (N + 1) K g = qW b id N K g ++ [(b + N, qE b id K g N)] := by
  unfold qW
  rw [List.range_succ, List.map_append]
  rfl
theorem qgrow {H H1 : Heap} (hP : va_P D vwCl (qW b id N K g) H) (o1 : ∀ q, q < H.size → H1[q]? = H[q]?) (hat : va_at D vwCl (b + N, qE b id K g N) H1) : va_P D vwCl (qW b id (N + 1) K g) H1 := by
  rw [qW_more]
  refine (hP.kept (fun k x hx => o1 x.1 ((hP k x hx).lt))).app (fun k x hx => ?_)
  have hz : k < 1 := (List.getElem?_eq_some_iff.mp hx).1
  rw [show k = 0 by omega] at hx
  cases hx
  exact hat
theorem vq_newa (at0 : ArrayType) (ki : Nat) (ty : FieldType) (hty : newarray.typeOf at0 = ty) (hd : decode (mC M) pc = .ok (.newarray at0, 2)) (harr : Cond.arrayClass ty ∈ TT) (hki : (tyQ id)[ki]? = some (id ki, ty)) (hz : z = true) (hN : N < 85) {n : Int32} (hn : ¬ n < 0) (hL : n.toNatClampNeg = qL N) (hby : qL N * componentBytes ty ≤ 536870912) (hat : vp_cell (id ki) (match qE b id K g N with | .inl x => x.2 | .inr _ => (0, .inl (fun _ => 0))) = arrV (id ki) (qL N) (fun _ => defaultValue ty)) (hE : ∃ a, qE b id K g N = .inl (id ki, a))
    (hce : ce + 1 ≤ (mR M).cells) (hsl : sl + qL N ≤ (mR M).slots) (kk : Vq l b id D M z NE KE post NX KX px (N + 1) K (ce + 1) (sl + qL N) (pc + 2) lv (.ref (b + N) :: st) g) : Vq l b id D M z NE KE post NX KX px N K ce sl pc lv (.int n :: st) g := by
  intro p e s m args below meth c X H locs ls hP hS hl hq
  subst hty
  have hsz : H.size = b + N := hq.1 hz
  refine va_newaK X.1 X.2.1 (X.2.2.2.2.1 _ harr) rfl hd rfl hn hL hby hce hsl hsz fun H1 cA e1 z1 o1 hAr hNm => ?_
  have hid := (X.2.2.2.2.2.2.2.2.2.1.2 ki _ hki).2
  have hcA : cA = id ki := by
    have h9 : s.vm.findClass ("[" ++ (newarray.typeOf at0).toString) = some (id ki) := by cases at0 <;> exact hid
    exact Option.some.inj (hNm.symm.trans h9)
  subst hcA
  obtain ⟨a, ha⟩ := hE
  rw [ha] at hat
  refine kk p e s m args below meth c X H1 locs ls (qgrow hP (fun q h => o1 q (by omega)) ?_) ⟨by rw [z1]; have := hS.1; omega, fun x h1 h2 => (o1 x (by have := hS.1; omega)).trans (hS.2.1 x h1 h2), hS.2.2⟩ hl ⟨fun _ => by rw [z1]; omega, by omega⟩
  rw [ha]
  show H1[b + N]? = some (vp_cell _ _)
  rw [e1]
  exact congrArg some hat.symm
theorem vq_new {index : Nat} {C : String} {T : u_T} (ty : Nat → FieldType) (hd : decode (mC M) pc = .ok (.new index, 3)) (hcl : Cond.classLink (mO M) index C ∈ TT) (hins : Cond.instantiable C (qL N) ∈ TT) (hini : Cond.initialized C ∈ TT) (hc : vwCl[qC N]? = some (C, T, qL N)) (hin : ∀ w ∈ u_ws C T (qL N), w ∈ TT) (hty : ∀ k, k < qL N → parseFieldDescriptor (T k).2.2.1 = some (ty k)) (hz : z = true) (hN : N < 85) (h0 : qK N = 0)
    (hdef : ∀ j, j < qL N → defaultValue (ty j) = qV b K g N j) (hce : ce + 1 ≤ (mR M).cells) (hsl : sl + qL N ≤ (mR M).slots) (kk : Vq l b id D M z NE KE post NX KX px (N + 1) K (ce + 1) (sl + qL N) (pc + 3) lv (.ref (b + N) :: st) g) : Vq l b id D M z NE KE post NX KX px N K ce sl pc lv st g := by
  intro p e s m args below meth c X H locs ls hP hS hl hq
  have hsz : H.size = b + N := hq.1 hz
  have hKn := X.2.2.2.2.2.2.2.2.2.1.1 (qC N) _ hc
  refine W.newcK X.1 X.2.1 X.2.2.2.1 (X.2.2.2.2.1 _ hcl) (X.2.2.2.2.1 _ hins) (X.2.2.2.2.1 _ hini) rfl hd hce hsl hKn.2.1 hsz fun H1 kC hkC e1 z1 o1 => ?_
  refine kk p e s m args below meth c X H1 locs ls (qgrow hP (fun q h => o1 q (by omega)) ?_) ⟨by rw [z1]; have := hS.1; omega, fun x h1 h2 => (o1 x (by have := hS.1; omega)).trans (hS.2.1 x h1 h2), hS.2.2⟩ hl ⟨fun _ => by rw [z1]; omega, by omega⟩
  rw [qE_0 h0]
  refine ⟨_, hc, (u_born ty X.2.2.2.2.1 hin hKn hkC e1 hty).to (fun j hj => ?_)⟩
  rw [hdef j hj]
  simp [vp_V, hj]
end Mk
