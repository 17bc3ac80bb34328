/-! More rows of the judgement -/
/-- the locals in another order, or fewer, by their places -/
theorem vq_pk {l : Launch} {b : Nat} {id : Nat → ClassId} {D : va_G} {M : Mt} {z : Bool} {NE : Nat} {KE : Nat → Nat → Bool} {post : Option Value → Sg → Prop} {NX : Nat} {KX : Nat → Nat → Bool} {px : String → Sg → Prop} {N : Nat} {K : Nat → Nat → Bool} {ce sl pc : Nat} {lv lv' : List (Nat × Value)} {st : List Value} {g : Sg} (ks : List Nat) (h : lv_pick lv ks = lv') (kk : Vq l b id D M z NE KE post NX KX px N K ce sl pc lv' st g) : Vq l b id D M z NE KE post NX KX px N K ce sl pc lv st g :=
  fun p e s m args below meth c X H locs ls hP hS hl hz => kk p e s m args below meth c X H locs ls hP hS (lv_sub hl ks h) hz
