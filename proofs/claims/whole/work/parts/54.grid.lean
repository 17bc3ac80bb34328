/-! A table of rows made: the world grows by its rows too -/
theorem outer_arr (c : ClassId) (N h0 : Nat) : Jvm.Free.Multi.outerC c N h0 N = arrV c N (fun j => .ref (h0 + 1 + j)) := by
  obtain ⟨a1, a2, a3⟩ := Jvm.Free.Multi.outerC_facts c N h0 N
  obtain ⟨a4, a5⟩ := Jvm.Free.Multi.outerC_plain c N h0 N
  have a6 := Jvm.Free.Multi.outerC_slot c N h0 N
  have hs : (Jvm.Free.Multi.outerC c N h0 N).slots = (arrV c N (fun j => .ref (h0 + 1 + j))).slots := by
    apply Array.ext_getElem?
    intro i
    by_cases hi : i < N
    · rw [a6 i hi, if_pos hi, arrV_read c _ hi]
    · rw [Array.getElem?_eq_none (by rw [a3]; omega), Array.getElem?_eq_none (by rw [arrV_size]; omega)]
  have hc : ∀ x y : Cell, x.cls = y.cls → x.slots = y.slots → x.vm = y.vm → x.monitor = y.monitor → x.hash = y.hash → x = y := by
    intro x y h1 h2 h3 h4 h5
    cases x; cases y
    simp_all
  exact hc _ _ a1 hs a2 a4 a5
theorem inner_arr (c : ClassId) (m : Nat) (dv : Value) : Jvm.Free.Multi.innerC c m dv = arrV c m (fun _ => dv) := by
  unfold Jvm.Free.Multi.innerC arrV
  congr 1
  apply Array.ext_getElem?
  intro i
  by_cases hi : i < m
  · simp [hi]
  · simp [hi]
section Gr
variable {l : Launch} {b : Nat} {id : Nat → ClassId} {D : va_G} {M : Mt} {z : Bool} {NE : Nat} {KE : Nat → Nat → Bool} {post : Option Value → Sg → Prop} {NX : Nat} {KX : Nat → Nat → Bool} {px : String → Sg → Prop} {N : Nat} {K : Nat → Nat → Bool} {ce sl pc : Nat} {lv : List (Nat × Value)} {st : List Value} {g : Sg}
theorem qgrowN {H H1 : Heap} (hP : va_P D vwCl (qW b id N K g) H) (o1 : ∀ q, q < H.size → H1[q]? = H[q]?) : ∀ m, (∀ j, j < m → va_at D vwCl (b + (N + j), qE b id K g (N + j)) H1) → va_P D vwCl (qW b id (N + m) K g) H1
  | 0, _ => hP.kept (fun k x hx => o1 x.1 ((hP k x hx).lt))
  | m + 1, h => by
    have ih := qgrowN hP o1 m (fun j hj => h j (by omega))
    exact qgrow (N := N + m) ih (fun _ _ => rfl) (h m (by omega))
theorem vq_mna {index kO kI m : Nat} {k : Int32} (ty : FieldType) (hd : decode (mC M) pc = .ok (.multianewarray index 2, 4)) (hcl : Cond.classLink (mO M) index ("[" ++ (FieldType.array ty).toString) ∈ TT) (hov : ty ∈ qOver) (harr : Cond.arrayClass ty ∈ TT)
    (hkO : (tyQ id)[kO]? = some (id kO, .array ty)) (hkI : (tyQ id)[kI]? = some (id kI, ty)) (hrO : ∀ U, va_RA U (id kO) (.array ty) → U.vm.findClass ("[" ++ (FieldType.array ty).toString) = some (id kO)) (hrI : ∀ U, va_RA U (id kI) ty → U.vm.findClass (FieldType.array ty).toString = some (id kI))
    (hz : z = true) (h20 : N + 21 ≤ 85) (hk0 : ¬ k < 0) (hm : k.toNatClampNeg = m) (hb2 : m * componentBytes ty ≤ 536870912) (hb3 : m ≤ 536870912) (hdf : fits ty (defaultValue ty) = true) (hdd : (defaultValue ty).isDefault = true)
    (hO : qE b id K g N = .inl (id kO, 20, .inr (.inr (.inr (.inr (fun i => if i < 20 then some (b + N + 1 + i) else none)))))) (hI : ∀ j, j < 20 → ∃ a, qE b id K g (N + (j + 1)) = .inl (id kI, a) ∧ vp_cell (id kI) a = arrV (id kI) m (fun _ => defaultValue ty))
    (hce : ce + (1 + 20) ≤ (mR M).cells) (hsl : sl + (20 + 20 * m) ≤ (mR M).slots) (kk : Vq l b id D M z NE KE post NX KX px (N + 21) K (ce + 1 + 20) (sl + 20 + 20 * m) (pc + 4) lv (.ref (b + N) :: st) g) : Vq l b id D M z NE KE post NX KX px N K ce sl pc lv (.int k :: .int 20 :: st) g := by
  intro p e s mm args below meth c X H locs ls hP hS hl hq
  intro T0 hT XS
  have hts := X.2.2.2.2.1
  have hsz : T0.heap.size = b + N := by rw [hT]; exact hq.1 hz
  have h20c : (20 : Int32).toNatClampNeg = 20 := by decide
  obtain ⟨vm₁, cA, comp, hW, hfA, hfC, -, -, X1, step⟩ := XS.multianewarray2F X.1 X.2.2.2.1 (hts _ hcl) (show (Cond.arrayOver (.array ty)).before args s = true from X.2.2.2.2.2.2.2.2.2.2.2.2.2.2.2.2.2 ty hov) (hts _ harr) (g := F0 mm pc ls (.int k :: .int 20 :: st)) rfl (by rw [X.2.1]; exact hd) rfl (by decide) hk0 (by decide) (by rw [hm]; exact hb2) (by rw [hm]; exact hb3) hdf hdd (by rw [h20c]; exact hce) (by rw [h20c, hm]; exact hsl)
  rw [h20c, hm] at X1 step
  have hcA : cA = id kO := Option.some.inj (hfA.symm.trans (hrO s (X.2.2.2.2.2.2.2.2.2.1.2 kO _ hkO).2))
  have hcC : comp = id kI := Option.some.inj (hfC.symm.trans (hrI s (X.2.2.2.2.2.2.2.2.2.1.2 kI _ hkI).2))
  subst hcA; subst hcC
  obtain ⟨f1, f2, f3, f4⟩ := Jvm.Free.Multi.fill_facts (T0.setVm vm₁) (id kO) (id kI) 20 m (defaultValue ty) 20
  have f5 : ∀ q, q < T0.heap.size → (Jvm.Free.Multi.fill (T0.setVm vm₁) (id kO) (id kI) 20 m (defaultValue ty) 20).heap[q]? = T0.heap[q]? := fun q hq9 => Jvm.Free.Multi.fill_old (T0.setVm vm₁) (id kO) (id kI) 20 m (defaultValue ty) hq9 20
  have f6 := Jvm.Free.Multi.fill_inner (T0.setVm vm₁) (id kO) (id kI) 20 m (defaultValue ty) 20
  have f1' : (Jvm.Free.Multi.fill (T0.setVm vm₁) (id kO) (id kI) 20 m (defaultValue ty) 20).heap.size = b + (N + 21) := by rw [f1]; show T0.heap.size + 1 + 20 = _; omega
  have hP1 : va_P D vwCl (qW b id (N + 21) K g) (Jvm.Free.Multi.fill (T0.setVm vm₁) (id kO) (id kI) 20 m (defaultValue ty) 20).heap := by
    refine qgrowN hP (fun q hq9 => by rw [f5 q (by rw [hT]; exact hq9), hT]) 21 (fun j hj => ?_)
    cases j with
    | zero =>
      show va_at D vwCl (b + N, qE b id K g N) _
      rw [hO]
      show (Jvm.Free.Multi.fill (T0.setVm vm₁) (id kO) (id kI) 20 m (defaultValue ty) 20).heap[b + N]? = some (vp_cell (id kO) _)
      have f7 : (Jvm.Free.Multi.fill (T0.setVm vm₁) (id kO) (id kI) 20 m (defaultValue ty) 20).heap[T0.heap.size]? = some (Jvm.Free.Multi.outerC (id kO) 20 T0.heap.size 20) := f2
      rw [hsz] at f7
      rw [f7, outer_arr]
      show some (arrV (id kO) 20 (fun j => .ref (b + N + 1 + j))) = some (arrV (id kO) 20 (fun j => va_rf (if j < 20 then some (b + N + 1 + j) else none)))
      congr 1
    | succ j =>
      obtain ⟨a, ha, hac⟩ := hI j (by omega)
      rw [ha]
      show (Jvm.Free.Multi.fill (T0.setVm vm₁) (id kO) (id kI) 20 m (defaultValue ty) 20).heap[b + (N + (j + 1))]? = some (vp_cell (id kI) a)
      have f7 : (Jvm.Free.Multi.fill (T0.setVm vm₁) (id kO) (id kI) 20 m (defaultValue ty) 20).heap[T0.heap.size + 1 + j]? = some (Jvm.Free.Multi.innerC (id kI) m (defaultValue ty)) := f6 j (by omega)
      rw [hsz, show b + N + 1 + j = b + (N + (j + 1)) by omega] at f7
      rw [f7, hac, inner_arr]
  have hS1 : va_S (qA b) s.heap (Jvm.Free.Multi.fill (T0.setVm vm₁) (id kO) (id kI) 20 m (defaultValue ty) 20).heap locs := by
    refine ⟨by rw [f1']; have h9 := hS.1; rw [← hT] at h9; omega, fun q h1 h2 => ?_, hS.2.2⟩
    have h9 := hS.1
    rw [f5 q (by rw [hT]; omega), hT]
    exact hS.2.1 q h1 h2
  obtain ⟨t, a1, b1⟩ := kk p e s mm args below meth c X _ locs ls hP1 hS1 hl ⟨fun _ => f1', by omega⟩ _ rfl X1
  refine ⟨t, step t ?_, b1⟩
  show Steps p.tables e below ((Jvm.Free.Multi.fill (T0.setVm vm₁) (id kO) (id kI) 20 m (defaultValue ty) 20).setTop (F0 mm (pc + 4) ls (.ref T0.heap.size :: st))) t
  rw [hsz]
  exact a1
end Gr
