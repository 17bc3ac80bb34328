/-! The law's loop. Laid by wip/whole/specs/p64.py -/
theorem and31 (x : Int32) : ∃ t : Nat, t < 32 ∧ x &&& 31 = nI t := by
  refine ⟨(x &&& 31).toBitVec.toNat, ?_, ?_⟩
  · rw [Int32.toBitVec_and, BitVec.toNat_and]
    exact Nat.lt_of_le_of_lt Nat.and_le_right (by decide)
  · apply Int32.toBitVec_inj.mp
    show (x &&& 31).toBitVec = BitVec.ofNat 32 (x &&& 31).toBitVec.toNat
    simp
theorem sub4 {L j : Nat} (hL : L ≤ 2048) (hj : j ≤ L) (h : ¬ nI L - 4 < nI j) : j + 4 ≤ L := by
  have h1 : (nI L - 4).toInt = (L : Int) - 4 := by
    rw [Int32.toInt_sub, nI_toInt (by omega)]
    exact Int.bmod_eq_of_le (by show _ ≤ (L : Int) - 4; omega) (by show (L : Int) - 4 < _; omega)
  have h2 : ¬ (nI L - 4).toInt < (nI j).toInt := fun h3 => h (Int32.lt_iff_toInt_lt.mpr h3)
  rw [h1, nI_toInt (by omega)] at h2
  omega
set_option maxRecDepth 100000 in
set_option maxHeartbeats 4000000 in
theorem law_loop (l : Launch) (b : Nat) (id : Nat → ClassId) (D : va_G) (htr : l.stackTraces = false) {a L : Nat} {xs : Nat → Int32} (hL : L ≤ 2048) : ∀ (n j : Nat) (g : Sg) (F : Fam) (k : Lg) (ce sl : Nat), L - j = n → j ≤ L → zV F → Hc g F → Hl g k → Hm g F → Hn g k → ce + 3 * (L - j) ≤ 600000 → sl + 18 * (L - j) ≤ 7000000 → Vz l b id D m_law false (Qz b room_1) (Pz a L xs b) 85 kT ce sl 23 [(4, .int (nI j)), (3, .ref (b + 84)), (2, .ref (b + 67)), (1, .ref (b + 0)), (0, .ref a)] [] g := by
  intro n
  induction n using Nat.strongRecOn with
  | ind n ih =>
  intro j g F k ce sl hn0 hjL hV hc hl hm hn h1 h2
  refine vz_iload d_W_law_23 rfl ?_
  refine vz_aload_n d_W_law_25 rfl ?_
  refine vz_slen d_W_law_26 ?_
  refine vz_iconst (v := 4) d_W_law_27 (by decide) ?_
  refine vz_isub d_W_law_28 ?_
  refine vz_icmp_gt (tgt := 1209) d_W_law_29 (by decide) (fun h29 => ?_) (fun h29 => ?_)
  · refine vz_iconst (v := 1) d_W_law_1209 (by decide) ?_
    exact vz_end d_W_law_1210 rfl (show ce ≤ 601024 by omega) (show sl ≤ 7293034 by omega)
  have hj : j + 4 ≤ L := sub4 hL hjL h29
  have hce : ce + 3 ≤ 601024 := by omega
  have hsl : sl + 18 ≤ 7293034 := by omega
  have kk : ∀ (g' : Sg) (F' : Fam) (k' : Lg), zV F' → Hc g' F' → Hl g' k' → Hm g' F' → Hn g' k' → Vz l b id D m_law false (Qz b room_1) (Pz a L xs b) 85 kT (ce + 3) (sl + 18) 1203 [(4, .int (nI j)), (3, .ref (b + 84)), (2, .ref (b + 67)), (1, .ref (b + 0)), (0, .ref a)] [] g' := by
    intro g' F' k' v1 v2 v3 v4 v5
    refine vz_iinc (k := 0) (lv' := [(4, _), (3, _), (2, _), (1, _), (0, _)]) d_W_law_1203 rfl (nI_add j 4) (by decide) rfl ?_
    refine vz_goto (tgt := 23) d_W_law_1206 (by decide) ?_
    exact ih (L - (j + 4)) (by omega) (j + 4) g' F' k' (ce + 3) (sl + 18) rfl hj v1 v2 v3 v4 v5 (by omega) (by omega)
  refine vz_aload_n d_W_law_32 rfl ?_
  refine vz_iload d_W_law_33 rfl ?_
  refine vz_sld d_W_law_35 (by omega) hL ?_
  refine vz_bipush (v := 31) d_W_law_36 (by decide) ?_
  refine vz_iand d_W_law_38 ?_
  obtain ⟨t, ht, et⟩ := and31 (xs j)
  refine vz_int et ?_
  rcases (show t = 0 ∨ t = 1 ∨ t = 2 ∨ t = 3 ∨ t = 4 ∨ t = 5 ∨ t = 6 ∨ t = 7 ∨ t = 8 ∨ t = 9 ∨ t = 10 ∨ t = 11 ∨ t = 12 ∨ t = 13 ∨ t = 14 ∨ t = 15 ∨ t = 16 ∨ t = 17 ∨ 17 < t by omega) with rfl | rfl | rfl | rfl | rfl | rfl | rfl | rfl | rfl | rfl | rfl | rfl | rfl | rfl | rfl | rfl | rfl | rfl | h18
  · exact vz_tabIn (off := 85) (tgt := 124) d_W_law_39 (by decide) (by decide) (by decide) (by decide) (lc_person l b id D htr hL hj hV hc hl hm hn hce hsl kk)
  · exact vz_tabIn (off := 153) (tgt := 192) d_W_law_39 (by decide) (by decide) (by decide) (by decide) (lc_amend l b id D htr hL hj hV hc hl hm hn hce hsl kk)
  · exact vz_tabIn (off := 213) (tgt := 252) d_W_law_39 (by decide) (by decide) (by decide) (by decide) (lc_marry l b id D htr hL hj hV hc hl hm hn hce hsl kk)
  · exact vz_tabIn (off := 261) (tgt := 300) d_W_law_39 (by decide) (by decide) (by decide) (by decide) (lc_divorce l b id D htr hL hj hV hc hl hm hn hce hsl kk)
  · exact vz_tabIn (off := 324) (tgt := 363) d_W_law_39 (by decide) (by decide) (by decide) (by decide) (lc_spouse l b id D htr hL hj hV hc hl hm hn hce hsl kk)
  · exact vz_tabIn (off := 380) (tgt := 419) d_W_law_39 (by decide) (by decide) (by decide) (by decide) (lc_dies l b id D htr hL hj hV hc hl hm hn hce hsl kk)
  · exact vz_tabIn (off := 428) (tgt := 467) d_W_law_39 (by decide) (by decide) (by decide) (by decide) (lc_exclude l b id D htr hL hj hV hc hl hm hn hce hsl kk)
  · exact vz_tabIn (off := 531) (tgt := 570) d_W_law_39 (by decide) (by decide) (by decide) (by decide) (lc_gift l b id D htr hL hj hV hc hl hm hn hce hsl kk)
  · exact vz_tabIn (off := 611) (tgt := 650) d_W_law_39 (by decide) (by decide) (by decide) (by decide) (lc_estate l b id D htr hL hj hV hc hl hm hn hce hsl kk)
  · exact vz_tabIn (off := 659) (tgt := 698) d_W_law_39 (by decide) (by decide) (by decide) (by decide) (lc_heirs l b id D htr hL hj hV hc hl hm hn hce hsl kk)
  · exact vz_tabIn (off := 715) (tgt := 754) d_W_law_39 (by decide) (by decide) (by decide) (by decide) (lc_heir l b id D htr hL hj hV hc hl hm hn hce hsl kk)
  · exact vz_tabIn (off := 783) (tgt := 822) d_W_law_39 (by decide) (by decide) (by decide) (by decide) (lc_share l b id D htr hL hj hV hc hl hm hn hce hsl kk)
  · exact vz_tabIn (off := 850) (tgt := 889) d_W_law_39 (by decide) (by decide) (by decide) (by decide) (lc_order l b id D htr hL hj hV hc hl hm hn hce hsl kk)
  · exact vz_tabIn (off := 906) (tgt := 945) d_W_law_39 (by decide) (by decide) (by decide) (by decide) (lc_stem l b id D htr hL hj hV hc hl hm hn hce hsl kk)
  · exact vz_tabIn (off := 974) (tgt := 1013) d_W_law_39 (by decide) (by decide) (by decide) (by decide) (lc_settle l b id D htr hL hj hV hc hl hm hn hce hsl kk)
  · exact vz_tabIn (off := 987) (tgt := 1026) d_W_law_39 (by decide) (by decide) (by decide) (by decide) (lc_paid l b id D htr hL hj hV hc hl hm hn hce hsl kk)
  · exact vz_tabIn (off := 1054) (tgt := 1093) d_W_law_39 (by decide) (by decide) (by decide) (by decide) (lc_total l b id D htr hL hj hV hc hl hm hn hce hsl kk)
  · exact vz_tabIn (off := 1109) (tgt := 1148) d_W_law_39 (by decide) (by decide) (by decide) (by decide) (lc_got l b id D htr hL hj hV hc hl hm hn hce hsl kk)
  · refine vz_tabOut (tgt := 1203) d_W_law_39 (Or.inr (by rw [nI_toInt (by omega)]; omega)) (by decide) ?_
    exact vz_widen (by omega) (by omega) (kk g F k hV hc hl hm hn)
