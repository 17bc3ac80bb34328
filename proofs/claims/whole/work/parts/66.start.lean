/-! The law's start: what the Statement gives there. Laid by wip/whole/specs/p66.py -/
section Sa
variable {A : Array Value} {s : State}
theorem qZ_of {C n d : String} (h1 : (Cond.laysStatic C n d).before A s = true) (h2 : (Cond.isRef (.static C n d)).before A s = true) : qZ C n d s.heap.size s s.heap := by
  obtain ⟨c, k, i, f, a, cell, e1, e2, e3, e4, e5, e6, e7, e8, e9⟩ := Cond.laysStatic_spec h1
  obtain ⟨v, hv⟩ : ∃ v, cell.slots[f.slot]? = some v := ⟨_, Array.getElem?_eq_getElem e8⟩
  have he : (Term.static C n d).eval A s none [] s = some v := by
    simp [Term.eval, State.fieldNamed?, e2, e3, e4, e5, e6, hv]
  refine ⟨c, k, i, f, a, cell, v, e1, e2, e3, e4, e5, e6, e7, e8, e9, hv, ?_, (Array.getElem?_eq_some_iff.mp e5).1⟩
  simp only [Cond.before, Cond.holds, Cond.value, he] at h2
  cases v <;> simp_all [Value.isRef]
theorem vk_R_of {own tx : String} {k cur : Nat} (hcur : s.vm.findClass own = some cur) (h : (Cond.stringRef own k tx).before A s = true) : ∃ sa : Nat, vk_R own k tx sa s := by
  obtain ⟨k9, cf, i, a, -, -, -, -, -, he⟩ := Cond.stringRef_spec hcur h
  exact ⟨a, vk_R.of h he⟩
/-- what is known beside the tables, at the start -/
theorem qX_0 (ht : ∀ w ∈ lw_tbl, w.before A s = true) (hg : (Jvm.Cond.and given_1 narrow_1).before A s = true) : qX s.heap.size s s.heap := by
  have hs := flat_of_before _ hg
  obtain ⟨cS, kS9, hcS, -⟩ := Cond.instantiable_spec (ht _ (List.mem_filter.mp w_16).1)
  refine ⟨?_, qZ_of (ht _ (List.mem_append_right _ (List.mem_of_getElem? (i := 405) (by decide +kernel)))) (hs _ (by decide +kernel)), qZ_of (ht _ (List.mem_append_right _ (List.mem_of_getElem? (i := 407) (by decide +kernel)))) (hs _ (by decide +kernel)), ?_, ?_, ?_, ?_, ?_⟩
  · exact List.forall_mem_cons.mpr ⟨vk_R_of hcS (ht _ (List.mem_append_right _ (List.mem_of_getElem? (i := 418) (by decide +kernel)))), List.forall_mem_cons.mpr ⟨vk_R_of hcS (ht _ (List.mem_append_right _ (List.mem_of_getElem? (i := 445) (by decide +kernel)))), List.forall_mem_cons.mpr ⟨vk_R_of hcS (ht _ (List.mem_append_right _ (List.mem_of_getElem? (i := 455) (by decide +kernel)))), List.forall_mem_cons.mpr ⟨vk_R_of hcS (ht _ (List.mem_append_right _ (List.mem_of_getElem? (i := 477) (by decide +kernel)))), List.forall_mem_cons.mpr ⟨vk_R_of hcS (ht _ (List.mem_append_right _ (List.mem_of_getElem? (i := 485) (by decide +kernel)))), List.forall_mem_cons.mpr ⟨vk_R_of hcS (ht _ (List.mem_append_right _ (List.mem_of_getElem? (i := 490) (by decide +kernel)))), List.forall_mem_cons.mpr ⟨vk_R_of hcS (ht _ (List.mem_append_right _ (List.mem_of_getElem? (i := 513) (by decide +kernel)))), List.forall_mem_cons.mpr ⟨vk_R_of hcS (ht _ (List.mem_append_right _ (List.mem_of_getElem? (i := 514) (by decide +kernel)))), List.forall_mem_cons.mpr ⟨vk_R_of hcS (ht _ (List.mem_append_right _ (List.mem_of_getElem? (i := 535) (by decide +kernel)))), List.forall_mem_cons.mpr ⟨vk_R_of hcS (ht _ (List.mem_append_right _ (List.mem_of_getElem? (i := 537) (by decide +kernel)))), List.forall_mem_cons.mpr ⟨vk_R_of hcS (ht _ (List.mem_append_right _ (List.mem_of_getElem? (i := 538) (by decide +kernel)))), List.forall_mem_cons.mpr ⟨vk_R_of hcS (ht _ (List.mem_append_right _ (List.mem_of_getElem? (i := 546) (by decide +kernel)))), List.forall_mem_cons.mpr ⟨vk_R_of hcS (ht _ (List.mem_append_right _ (List.mem_of_getElem? (i := 558) (by decide +kernel)))), fun _ h => nomatch h⟩⟩⟩⟩⟩⟩⟩⟩⟩⟩⟩⟩⟩
  · exact List.forall_mem_cons.mpr ⟨va_Nw.of rfl (ht _ (List.mem_append_right _ (List.mem_of_getElem? (i := 25) (by decide +kernel)))), fun _ h => nomatch h⟩
  · exact List.forall_mem_cons.mpr ⟨va_Nw.of rfl (ht _ (List.mem_append_right _ (List.mem_of_getElem? (i := 380) (by decide +kernel)))), List.forall_mem_cons.mpr ⟨va_Nw.of rfl (ht _ (List.mem_append_right _ (List.mem_of_getElem? (i := 448) (by decide +kernel)))), fun _ h => nomatch h⟩⟩
  · exact List.forall_mem_cons.mpr ⟨va_Nw.of rfl (ht _ (List.mem_append_right _ (List.mem_of_getElem? (i := 381) (by decide +kernel)))), List.forall_mem_cons.mpr ⟨va_Nw.of rfl (ht _ (List.mem_append_right _ (List.mem_of_getElem? (i := 382) (by decide +kernel)))), List.forall_mem_cons.mpr ⟨va_Nw.of rfl (ht _ (List.mem_append_right _ (List.mem_of_getElem? (i := 383) (by decide +kernel)))), List.forall_mem_cons.mpr ⟨va_Nw.of rfl (ht _ (List.mem_append_right _ (List.mem_of_getElem? (i := 384) (by decide +kernel)))), List.forall_mem_cons.mpr ⟨va_Nw.of rfl (ht _ (List.mem_append_right _ (List.mem_of_getElem? (i := 385) (by decide +kernel)))), List.forall_mem_cons.mpr ⟨va_Nw.of rfl (ht _ (List.mem_append_right _ (List.mem_of_getElem? (i := 386) (by decide +kernel)))), fun _ h => nomatch h⟩⟩⟩⟩⟩⟩
  · exact List.forall_mem_cons.mpr ⟨va_Nc.of (hs _ (by decide +kernel)), fun _ h => nomatch h⟩
  · exact List.forall_mem_cons.mpr ⟨over_moved (Vm.Alike.refl _) (ht _ (List.mem_append_right _ (List.mem_of_getElem? (i := 30) (by decide +kernel)))), List.forall_mem_cons.mpr ⟨over_moved (Vm.Alike.refl _) (ht _ (List.mem_append_right _ (List.mem_of_getElem? (i := 181) (by decide +kernel)))), fun _ h => nomatch h⟩⟩
/-- the classes of the arrays -/
theorem id_0 (ht : ∀ w ∈ lw_tbl, w.before A s = true) : ∃ id : Nat → ClassId, ∀ (k : Nat) (q : ClassId × FieldType), (tyQ id)[k]? = some q → ArrOfT s q.1 q.2 ∧ va_RA s q.1 q.2 := by
  obtain ⟨c0, k0', p0, a0, b0, d0⟩ := Cond.arrayClass_spec (ht _ (List.mem_filter.mp w_75).1)
  obtain ⟨c1, k1', p1, a1, b1, d1⟩ := Cond.arrayClass_spec (ht _ (List.mem_filter.mp w_115).1)
  obtain ⟨c2, k2', p2, a2, b2, d2⟩ := Cond.arrayClass_spec (ht _ (List.mem_filter.mp w_149).1)
  obtain ⟨p3, c3, k3', -, -, b3, d3, a3⟩ := arrayOverA_spec (t := .int) (ht _ (List.mem_append_right _ (List.mem_of_getElem? (i := 30) (by decide +kernel))))
  obtain ⟨p4, c4, k4', -, -, b4, d4, a4⟩ := arrayOverA_spec (t := .long) (ht _ (List.mem_append_right _ (List.mem_of_getElem? (i := 181) (by decide +kernel))))
  refine ⟨fun i => [c0, c1, c2, c3, c4].getD i 0, fun k q hk => ?_⟩
  rcases (show k = 0 ∨ k = 1 ∨ k = 2 ∨ k = 3 ∨ k = 4 ∨ 5 ≤ k by omega) with rfl | rfl | rfl | rfl | rfl | h5
  · cases hk; exact ⟨fun n z => ⟨(fun k h => by cases h), k0', b0, p0, d0⟩, a0⟩
  · cases hk; exact ⟨fun n z => ⟨(fun k h => by cases h), k1', b1, p1, d1⟩, a1⟩
  · cases hk; exact ⟨fun n z => ⟨(fun k h => by cases h), k2', b2, p2, d2⟩, a2⟩
  · cases hk; exact ⟨fun n z => ⟨(fun k h => by cases h), k3', b3, p3, d3⟩, a3⟩
  · cases hk; exact ⟨fun n z => ⟨(fun k h => by cases h), k4', b4, p4, d4⟩, a4⟩
  · rw [List.getElem?_eq_none (show (tyQ _).length ≤ k from h5)] at hk
    cases hk
/-- the classes of the objects -/
theorem D_0 (hts : ∀ w ∈ TT, w.before A s = true) : ∃ D : va_G, ∀ (c : Nat) (q : vw_C), vwCl[c]? = some q → u_Kn s q.1 q.2.1 q.2.2 (D.1 c) (D.2 c) := by
  have h : ∀ c : Nat, ∃ y : ClassId × (Nat → Nat), ∀ q, vwCl[c]? = some q → u_Kn s q.1 q.2.1 q.2.2 y.1 y.2 := by
    intro c
    rcases (show c = 0 ∨ c = 1 ∨ c = 2 ∨ c = 3 ∨ c = 4 ∨ c = 5 ∨ c = 6 ∨ 7 ≤ c by omega) with rfl | rfl | rfl | rfl | rfl | rfl | rfl | h7
    · obtain ⟨cC, iS, h⟩ := u_known hts in_S (hts _ w_16)
      exact ⟨(cC, iS), fun q hq => by cases hq; exact h⟩
    · obtain ⟨cC, iS, h⟩ := u_known hts in_F (hts _ w_24)
      exact ⟨(cC, iS), fun q hq => by cases hq; exact h⟩
    · obtain ⟨cC, iS, h⟩ := u_known hts in_V (hts _ w_77)
      exact ⟨(cC, iS), fun q hq => by cases hq; exact h⟩
    · obtain ⟨cC, iS, h⟩ := u_known hts in_D (hts _ w_117)
      exact ⟨(cC, iS), fun q hq => by cases hq; exact h⟩
    · obtain ⟨cC, iS, h⟩ := u_known hts in_H (hts _ w_123)
      exact ⟨(cC, iS), fun q hq => by cases hq; exact h⟩
    · obtain ⟨cC, iS, h⟩ := u_known hts in_L (hts _ w_175)
      exact ⟨(cC, iS), fun q hq => by cases hq; exact h⟩
    · obtain ⟨cC, iS, h⟩ := u_known hts in_M (hts _ w_650)
      exact ⟨(cC, iS), fun q hq => by cases hq; exact h⟩
    · refine ⟨(0, fun _ => 0), fun q hq => ?_⟩
      rw [List.getElem?_eq_none (show vwCl.length ≤ c from h7)] at hq
      cases hq
  exact ⟨(fun c => (Classical.choose (h c)).1, fun c => (Classical.choose (h c)).2), fun c q hq => Classical.choose_spec (h c) q hq⟩
end Sa
