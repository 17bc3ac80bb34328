/-! The law's cases: the class and the reference, call by call. Laid by wip/whole/specs/p62.py -/
def m_law : Mt := (x, code, 8, room_1, some .boolean, none)
theorem lg_self (x : Int64) : lg_cmp x x = 0 := by
  unfold lg_cmp
  rw [if_neg (by intro h; exact absurd (Int64.lt_iff_toInt_lt.mp h) (by omega)), if_pos rfl]
theorem k0 {C : Nat} (h : C ≤ 2) (h0 : nI C = 0) : C = 0 := Nat.eq_zero_of_not_pos fun hp => nI_ne0 hp (by omega) h0
theorem mP_i {C : Nat} {A Z : Int32} : (if C = 0 then some (Value.int A) else some (.int Z)) = some (.int (if C = 0 then A else Z)) := by split <;> rfl
theorem mP_l {C : Nat} {A Z : Int64} : (if C = 0 then some (Value.long A) else some (.long Z)) = some (.long (if C = 0 then A else Z)) := by split <;> rfl
section Lu
variable {g g1 : Sg} {F : Fam} {k : Lg}
theorem Hm_up (h : ∀ q, 66 < q → q < 84 → g1.1 q = g.1 q ∧ g1.2 q = g.2 q) (hm : Hm g F) : Hm g1 F := by
  unfold Hm at *
  rw [(h 67 (by omega) (by omega)).1, (h 68 (by omega) (by omega)).1, (h 69 (by omega) (by omega)).1, (h 70 (by omega) (by omega)).1, (h 71 (by omega) (by omega)).1, (h 72 (by omega) (by omega)).1, (h 73 (by omega) (by omega)).1, (h 74 (by omega) (by omega)).1]
  exact hm
theorem Hn_up (h : ∀ q, 66 < q → q < 84 → g1.1 q = g.1 q ∧ g1.2 q = g.2 q) (hn : Hn g k) : Hn g1 k := by
  unfold Hn at *
  rw [(h 81 (by omega) (by omega)).2, (h 82 (by omega) (by omega)).2, (h 83 (by omega) (by omega)).2]
  exact hn
theorem Hc_dn (h : Dn g g1) (hc : Hc g F) : Hc g1 F := by
  refine ⟨?_, fun p hp => ?_, fun p hp => ?_, fun p hp => ?_, fun p hp => ?_, fun p hp => ?_, fun c p h1 h2 => ?_, fun w f h1 h2 => ?_⟩
  · rw [(h 1 (by omega)).1]; exact hc.1
  · rw [(h 2 (by omega)).1]; exact hc.2.1 p hp
  · rw [(h 3 (by omega)).1]; exact hc.2.2.1 p hp
  · rw [(h 4 (by omega)).1]; exact hc.2.2.2.1 p hp
  · rw [(h 5 (by omega)).1]; exact hc.2.2.2.2.1 p hp
  · rw [(h 6 (by omega)).1]; exact hc.2.2.2.2.2.1 p hp
  · rw [(h (8 + c) (by omega)).1]; exact hc.2.2.2.2.2.2.1 c p h1 h2
  · rw [(h 28 (by omega)).1]; exact hc.2.2.2.2.2.2.2 w f h1 h2
theorem Hl_dn (h : Dn g g1) (hl : Hl g k) : Hl g1 k := by
  refine ⟨fun e j h1 h2 => ?_, fun j h1 => ?_, fun p h1 => ?_⟩
  · rw [(h (43 + e) (by omega)).2]; exact hl.1 e j h1 h2
  · rw [(h 64 (by omega)).2]; exact hl.2.1 j h1
  · rw [(h 63 (by omega)).2]; exact hl.2.2 p h1
end Lu
set_option maxRecDepth 100000 in
set_option maxHeartbeats 4000000 in
theorem lc_person (l : Launch) (b : Nat) (id : Nat → ClassId) (D : va_G) (htr : l.stackTraces = false) {a L j : Nat} {xs : Nat → Int32} (hL : L ≤ 2048) (hj : j + 4 ≤ L) {g : Sg} {F : Fam} {k : Lg} (hV : zV F) (hc : Hc g F) (hl : Hl g k) (hm : Hm g F) (hn : Hn g k) {ce sl : Nat} (hce : ce + 3 ≤ 601024) (hsl : sl + 18 ≤ 7293034) (kk : ∀ (g' : Sg) (F' : Fam) (k' : Lg), zV F' → Hc g' F' → Hl g' k' → Hm g' F' → Hn g' k' → Vz l b id D m_law false (Qz b room_1) (Pz a L xs b) 85 kT (ce + 3) (sl + 18) 1203 [(4, .int (nI j)), (3, .ref (b + 84)), (2, .ref (b + 67)), (1, .ref (b + 0)), (0, .ref a)] [] g') : Vz l b id D m_law false (Qz b room_1) (Pz a L xs b) 85 kT ce sl 124 [(4, .int (nI j)), (3, .ref (b + 84)), (2, .ref (b + 67)), (1, .ref (b + 0)), (0, .ref a)] [] g := by
  refine vz_aload_n d_W_law_124 rfl ?_
  refine vz_aload_n d_W_law_125 rfl ?_
  refine vz_iload d_W_law_126 rfl ?_
  refine vz_iconst (v := 1) d_W_law_128 (by decide) ?_
  refine vz_iadd d_W_law_129 ?_
  refine vz_int (y := nI (j + 1)) (nI_add j 1) ?_
  refine vz_sld d_W_law_130 (by omega) hL ?_
  refine vz_aload_n d_W_law_131 rfl ?_
  refine vz_iload d_W_law_132 rfl ?_
  refine vz_iconst (v := 2) d_W_law_134 (by decide) ?_
  refine vz_iadd d_W_law_135 ?_
  refine vz_int (y := nI (j + 2)) (nI_add j 2) ?_
  refine vz_sld d_W_law_136 (by omega) hL ?_
  refine vz_aload_n d_W_law_137 rfl ?_
  refine vz_callS (n := 4) _ _ d_W_law_138 (ct_W_person l b id D htr hV hc hl (xs (j + 1)) (xs (j + 2))) w_366 w_367 w_368 w_0 ⟨by decide, by decide, by decide +kernel⟩ ⟨by decide, by decide⟩ rfl rfl (Nat.le_of_ble_eq_true rfl) ⟨show ce + 2 ≤ 601024 by omega, show sl + 12 ≤ 7293034 by omega⟩ (fun v138 g138 h138 => ?_)
  obtain ⟨hv1, hc1, hl1, hu1, ha1⟩ := h138
  rw [hv1]
  refine vz_istore (lv' := [(5, _), (4, _), (3, _), (2, _), (1, _), (0, _)]) d_W_law_141 (by decide) rfl ?_
  refine vz_aload_n d_W_law_143 rfl ?_
  refine vz_aload_n d_W_law_144 rfl ?_
  refine vz_iload d_W_law_145 rfl ?_
  refine vz_iconst (v := 1) d_W_law_147 (by decide) ?_
  refine vz_iadd d_W_law_148 ?_
  refine vz_int (y := nI (j + 1)) (nI_add j 1) ?_
  refine vz_sld d_W_law_149 (by omega) hL ?_
  refine vz_aload_n d_W_law_150 rfl ?_
  refine vz_iload d_W_law_151 rfl ?_
  refine vz_iconst (v := 2) d_W_law_153 (by decide) ?_
  refine vz_iadd d_W_law_154 ?_
  refine vz_int (y := nI (j + 2)) (nI_add j 2) ?_
  refine vz_sld d_W_law_155 (by omega) hL ?_
  refine vz_callV (n := 2) (C := R_M) (T := T_M) _ _ d_W_law_156 (ct_M_person l b id D hV (Hm_up hu1 hm) (Hn_up hu1 hn) (xs (j + 1)) (xs (j + 2))) w_729 w_730 w_731 w_732 w_7 rfl ⟨by decide, by decide, by decide +kernel⟩ ⟨by decide, by decide⟩ (by decide) rfl rfl rfl rfl (Nat.le_of_ble_eq_true rfl) ⟨show ce + 2 + 0 ≤ 601024 by omega, show sl + 12 + 0 ≤ 7293034 by omega⟩ (fun v156 g156 h156 => ?_)
  obtain ⟨hv2, ht2, hm2, hn2, hd2⟩ := h156
  rw [hv2, mP_i]
  refine vz_istore (lv' := [(6, _), (5, _), (4, _), (3, _), (2, _), (1, _), (0, _)]) d_W_law_159 (by decide) rfl ?_
  refine vz_aload_n d_W_law_161 rfl ?_
  refine vz_callV (n := 0) (C := R_M) (T := T_M) _ _ d_W_law_162 (ct_M_thrown l b id D) w_725 w_726 w_727 w_728 w_7 rfl ⟨by decide, by decide, by decide +kernel⟩ ⟨by decide, by decide⟩ (by decide) rfl rfl rfl rfl (Nat.le_of_ble_eq_true rfl) ⟨show ce + 2 + 0 + 0 ≤ 601024 by omega, show sl + 12 + 0 + 0 ≤ 7293034 by omega⟩ (fun v162 g162 h162 => ?_)
  obtain ⟨hv3, e3⟩ := h162
  rw [hv3, e3, ht2]
  refine vz_iload d_W_law_165 rfl ?_
  refine vz_icmp_eq (tgt := 172) d_W_law_167 (by decide) (fun h167 => ?_) (fun h167 => absurd h167 (fun h => h rfl))
  refine vz_iload d_W_law_172 rfl ?_
  refine vz_if_ne (tgt := 189) d_W_law_174 (by decide) (fun h174 => ?_) (fun h174 => ?_)
  · refine vz_goto (tgt := 1203) d_W_law_189 (by decide) ?_
    refine vz_pk [2, 3, 4, 5, 6] (lv' := [(4, _), (3, _), (2, _), (1, _), (0, _)]) rfl ?_
    refine vz_widen (ce' := ce + 3) (sl' := sl + 18) (show ce + 2 + 0 + 0 ≤ ce + 3 by omega) (show sl + 12 + 0 + 0 ≤ sl + 18 by omega) ?_
    exact kk _ _ _ (zV_person hV _ _) (Hc_dn hd2 hc1) (Hl_dn hd2 hl1) hm2 hn2
  · have hC0 : k_person F (xs (j + 1)) (xs (j + 2)) = 0 := k0 (by unfold k_person; (repeat' split) <;> omega) h174
    refine vz_aload_n d_W_law_177 rfl ?_
    refine vz_iconst (v := 0) d_W_law_178 (by decide) ?_
    refine vz_lald d_W_law_179 (by decide) rfl (show (0 : Int32) = nI 0 by decide) (by decide) ?_
    refine vz_long (y := (nI (zn F)).toInt64) (by rw [(hd2 84 (Or.inr (by decide))).2]; exact ha1 hC0 _ rfl) ?_
    refine vz_iload d_W_law_180 rfl ?_
    refine vz_i2l d_W_law_182 (show _ = (nI (zn F)).toInt64 by rw [if_pos hC0]) ?_
    refine vz_lcmp d_W_law_183 ?_
    refine vz_if_eq (tgt := 189) d_W_law_184 (by decide) (fun h184 => ?_) (fun h184 => absurd h184 (fun h => h (lg_self _)))
    refine vz_goto (tgt := 1203) d_W_law_189 (by decide) ?_
    refine vz_pk [2, 3, 4, 5, 6] (lv' := [(4, _), (3, _), (2, _), (1, _), (0, _)]) rfl ?_
    refine vz_widen (ce' := ce + 3) (sl' := sl + 18) (show ce + 2 + 0 + 0 ≤ ce + 3 by omega) (show sl + 12 + 0 + 0 ≤ sl + 18 by omega) ?_
    exact kk _ _ _ (zV_person hV _ _) (Hc_dn hd2 hc1) (Hl_dn hd2 hl1) hm2 hn2
set_option maxRecDepth 100000 in
set_option maxHeartbeats 4000000 in
theorem lc_amend (l : Launch) (b : Nat) (id : Nat → ClassId) (D : va_G) (htr : l.stackTraces = false) {a L j : Nat} {xs : Nat → Int32} (hL : L ≤ 2048) (hj : j + 4 ≤ L) {g : Sg} {F : Fam} {k : Lg} (hV : zV F) (hc : Hc g F) (hl : Hl g k) (hm : Hm g F) (hn : Hn g k) {ce sl : Nat} (hce : ce + 3 ≤ 601024) (hsl : sl + 18 ≤ 7293034) (kk : ∀ (g' : Sg) (F' : Fam) (k' : Lg), zV F' → Hc g' F' → Hl g' k' → Hm g' F' → Hn g' k' → Vz l b id D m_law false (Qz b room_1) (Pz a L xs b) 85 kT (ce + 3) (sl + 18) 1203 [(4, .int (nI j)), (3, .ref (b + 84)), (2, .ref (b + 67)), (1, .ref (b + 0)), (0, .ref a)] [] g') : Vz l b id D m_law false (Qz b room_1) (Pz a L xs b) 85 kT ce sl 192 [(4, .int (nI j)), (3, .ref (b + 84)), (2, .ref (b + 67)), (1, .ref (b + 0)), (0, .ref a)] [] g := by
  refine vz_aload_n d_W_law_192 rfl ?_
  refine vz_aload_n d_W_law_193 rfl ?_
  refine vz_iload d_W_law_194 rfl ?_
  refine vz_iconst (v := 1) d_W_law_196 (by decide) ?_
  refine vz_iadd d_W_law_197 ?_
  refine vz_int (y := nI (j + 1)) (nI_add j 1) ?_
  refine vz_sld d_W_law_198 (by omega) hL ?_
  refine vz_aload_n d_W_law_199 rfl ?_
  refine vz_iload d_W_law_200 rfl ?_
  refine vz_iconst (v := 2) d_W_law_202 (by decide) ?_
  refine vz_iadd d_W_law_203 ?_
  refine vz_int (y := nI (j + 2)) (nI_add j 2) ?_
  refine vz_sld d_W_law_204 (by omega) hL ?_
  refine vz_aload_n d_W_law_205 rfl ?_
  refine vz_iload d_W_law_206 rfl ?_
  refine vz_iconst (v := 3) d_W_law_208 (by decide) ?_
  refine vz_iadd d_W_law_209 ?_
  refine vz_int (y := nI (j + 3)) (nI_add j 3) ?_
  refine vz_sld d_W_law_210 (by omega) hL ?_
  refine vz_callS (n := 4) _ _ d_W_law_211 (ct_W_amend l b id D htr hV hc hl (xs (j + 1)) (xs (j + 2)) (xs (j + 3))) w_466 w_467 w_468 w_0 ⟨by decide, by decide, by decide +kernel⟩ ⟨by decide, by decide⟩ rfl rfl (Nat.le_of_ble_eq_true rfl) ⟨show ce + 2 ≤ 601024 by omega, show sl + 12 ≤ 7293034 by omega⟩ (fun v211 g211 h211 => ?_)
  obtain ⟨hv1, hc1, hl1, hu1, ha1⟩ := h211
  rw [hv1]
  refine vz_istore (lv' := [(5, _), (4, _), (3, _), (2, _), (1, _), (0, _)]) d_W_law_214 (by decide) rfl ?_
  refine vz_aload_n d_W_law_216 rfl ?_
  refine vz_aload_n d_W_law_217 rfl ?_
  refine vz_iload d_W_law_218 rfl ?_
  refine vz_iconst (v := 1) d_W_law_220 (by decide) ?_
  refine vz_iadd d_W_law_221 ?_
  refine vz_int (y := nI (j + 1)) (nI_add j 1) ?_
  refine vz_sld d_W_law_222 (by omega) hL ?_
  refine vz_aload_n d_W_law_223 rfl ?_
  refine vz_iload d_W_law_224 rfl ?_
  refine vz_iconst (v := 2) d_W_law_226 (by decide) ?_
  refine vz_iadd d_W_law_227 ?_
  refine vz_int (y := nI (j + 2)) (nI_add j 2) ?_
  refine vz_sld d_W_law_228 (by omega) hL ?_
  refine vz_aload_n d_W_law_229 rfl ?_
  refine vz_iload d_W_law_230 rfl ?_
  refine vz_iconst (v := 3) d_W_law_232 (by decide) ?_
  refine vz_iadd d_W_law_233 ?_
  refine vz_int (y := nI (j + 3)) (nI_add j 3) ?_
  refine vz_sld d_W_law_234 (by omega) hL ?_
  refine vz_callV (n := 3) (C := R_M) (T := T_M) _ _ d_W_law_235 (ct_M_amend l b id D hV (Hm_up hu1 hm) (Hn_up hu1 hn) (xs (j + 1)) (xs (j + 2)) (xs (j + 3))) w_737 w_738 w_739 w_740 w_7 rfl ⟨by decide, by decide, by decide +kernel⟩ ⟨by decide, by decide⟩ (by decide) rfl rfl rfl rfl (Nat.le_of_ble_eq_true rfl) ⟨show ce + 2 + 0 ≤ 601024 by omega, show sl + 12 + 0 ≤ 7293034 by omega⟩ (fun v235 g235 h235 => ?_)
  obtain ⟨hv2, ht2, hm2, hn2, hd2⟩ := h235
  rw [hv2, ite_self]
  refine vz_aload_n d_W_law_238 rfl ?_
  refine vz_callV (n := 0) (C := R_M) (T := T_M) _ _ d_W_law_239 (ct_M_thrown l b id D) w_725 w_726 w_727 w_728 w_7 rfl ⟨by decide, by decide, by decide +kernel⟩ ⟨by decide, by decide⟩ (by decide) rfl rfl rfl rfl (Nat.le_of_ble_eq_true rfl) ⟨show ce + 2 + 0 + 0 ≤ 601024 by omega, show sl + 12 + 0 + 0 ≤ 7293034 by omega⟩ (fun v239 g239 h239 => ?_)
  obtain ⟨hv3, e3⟩ := h239
  rw [hv3, e3, ht2]
  refine vz_iload d_W_law_242 rfl ?_
  refine vz_icmp_eq (tgt := 249) d_W_law_244 (by decide) (fun h244 => ?_) (fun h244 => absurd h244 (fun h => h rfl))
  refine vz_goto (tgt := 1203) d_W_law_249 (by decide) ?_
  refine vz_pk [1, 2, 3, 4, 5] (lv' := [(4, _), (3, _), (2, _), (1, _), (0, _)]) rfl ?_
  refine vz_widen (ce' := ce + 3) (sl' := sl + 18) (show ce + 2 + 0 + 0 ≤ ce + 3 by omega) (show sl + 12 + 0 + 0 ≤ sl + 18 by omega) ?_
  exact kk _ _ _ (zV_amend hV _ _ _) (Hc_dn hd2 hc1) (Hl_dn hd2 hl1) hm2 hn2
set_option maxRecDepth 100000 in
set_option maxHeartbeats 4000000 in
theorem lc_marry (l : Launch) (b : Nat) (id : Nat → ClassId) (D : va_G) (htr : l.stackTraces = false) {a L j : Nat} {xs : Nat → Int32} (hL : L ≤ 2048) (hj : j + 4 ≤ L) {g : Sg} {F : Fam} {k : Lg} (hV : zV F) (hc : Hc g F) (hl : Hl g k) (hm : Hm g F) (hn : Hn g k) {ce sl : Nat} (hce : ce + 3 ≤ 601024) (hsl : sl + 18 ≤ 7293034) (kk : ∀ (g' : Sg) (F' : Fam) (k' : Lg), zV F' → Hc g' F' → Hl g' k' → Hm g' F' → Hn g' k' → Vz l b id D m_law false (Qz b room_1) (Pz a L xs b) 85 kT (ce + 3) (sl + 18) 1203 [(4, .int (nI j)), (3, .ref (b + 84)), (2, .ref (b + 67)), (1, .ref (b + 0)), (0, .ref a)] [] g') : Vz l b id D m_law false (Qz b room_1) (Pz a L xs b) 85 kT ce sl 252 [(4, .int (nI j)), (3, .ref (b + 84)), (2, .ref (b + 67)), (1, .ref (b + 0)), (0, .ref a)] [] g := by
  refine vz_aload_n d_W_law_252 rfl ?_
  refine vz_aload_n d_W_law_253 rfl ?_
  refine vz_iload d_W_law_254 rfl ?_
  refine vz_iconst (v := 1) d_W_law_256 (by decide) ?_
  refine vz_iadd d_W_law_257 ?_
  refine vz_int (y := nI (j + 1)) (nI_add j 1) ?_
  refine vz_sld d_W_law_258 (by omega) hL ?_
  refine vz_aload_n d_W_law_259 rfl ?_
  refine vz_iload d_W_law_260 rfl ?_
  refine vz_iconst (v := 2) d_W_law_262 (by decide) ?_
  refine vz_iadd d_W_law_263 ?_
  refine vz_int (y := nI (j + 2)) (nI_add j 2) ?_
  refine vz_sld d_W_law_264 (by omega) hL ?_
  refine vz_callS (n := 3) _ _ d_W_law_265 (ct_W_marry l b id D htr hV hc hl (xs (j + 1)) (xs (j + 2))) w_478 w_479 w_480 w_0 ⟨by decide, by decide, by decide +kernel⟩ ⟨by decide, by decide⟩ rfl rfl (Nat.le_of_ble_eq_true rfl) ⟨show ce + 3 ≤ 601024 by omega, show sl + 18 ≤ 7293034 by omega⟩ (fun v265 g265 h265 => ?_)
  obtain ⟨hv1, hc1, hl1, hu1, ha1⟩ := h265
  rw [hv1]
  refine vz_istore (lv' := [(5, _), (4, _), (3, _), (2, _), (1, _), (0, _)]) d_W_law_268 (by decide) rfl ?_
  refine vz_aload_n d_W_law_270 rfl ?_
  refine vz_aload_n d_W_law_271 rfl ?_
  refine vz_iload d_W_law_272 rfl ?_
  refine vz_iconst (v := 1) d_W_law_274 (by decide) ?_
  refine vz_iadd d_W_law_275 ?_
  refine vz_int (y := nI (j + 1)) (nI_add j 1) ?_
  refine vz_sld d_W_law_276 (by omega) hL ?_
  refine vz_aload_n d_W_law_277 rfl ?_
  refine vz_iload d_W_law_278 rfl ?_
  refine vz_iconst (v := 2) d_W_law_280 (by decide) ?_
  refine vz_iadd d_W_law_281 ?_
  refine vz_int (y := nI (j + 2)) (nI_add j 2) ?_
  refine vz_sld d_W_law_282 (by omega) hL ?_
  refine vz_callV (n := 2) (C := R_M) (T := T_M) _ _ d_W_law_283 (ct_M_marry l b id D hV (Hm_up hu1 hm) (Hn_up hu1 hn) (xs (j + 1)) (xs (j + 2))) w_741 w_742 w_743 w_744 w_7 rfl ⟨by decide, by decide, by decide +kernel⟩ ⟨by decide, by decide⟩ (by decide) rfl rfl rfl rfl (Nat.le_of_ble_eq_true rfl) ⟨show ce + 3 + 0 ≤ 601024 by omega, show sl + 18 + 0 ≤ 7293034 by omega⟩ (fun v283 g283 h283 => ?_)
  obtain ⟨hv2, ht2, hm2, hn2, hd2⟩ := h283
  rw [hv2, ite_self]
  refine vz_aload_n d_W_law_286 rfl ?_
  refine vz_callV (n := 0) (C := R_M) (T := T_M) _ _ d_W_law_287 (ct_M_thrown l b id D) w_725 w_726 w_727 w_728 w_7 rfl ⟨by decide, by decide, by decide +kernel⟩ ⟨by decide, by decide⟩ (by decide) rfl rfl rfl rfl (Nat.le_of_ble_eq_true rfl) ⟨show ce + 3 + 0 + 0 ≤ 601024 by omega, show sl + 18 + 0 + 0 ≤ 7293034 by omega⟩ (fun v287 g287 h287 => ?_)
  obtain ⟨hv3, e3⟩ := h287
  rw [hv3, e3, ht2]
  refine vz_iload d_W_law_290 rfl ?_
  refine vz_icmp_eq (tgt := 297) d_W_law_292 (by decide) (fun h292 => ?_) (fun h292 => absurd h292 (fun h => h rfl))
  refine vz_goto (tgt := 1203) d_W_law_297 (by decide) ?_
  refine vz_pk [1, 2, 3, 4, 5] (lv' := [(4, _), (3, _), (2, _), (1, _), (0, _)]) rfl ?_
  refine vz_widen (ce' := ce + 3) (sl' := sl + 18) (show ce + 3 + 0 + 0 ≤ ce + 3 by omega) (show sl + 18 + 0 + 0 ≤ sl + 18 by omega) ?_
  exact kk _ _ _ (zV_marry hV _ _) (Hc_dn hd2 hc1) (Hl_dn hd2 hl1) hm2 hn2
set_option maxRecDepth 100000 in
set_option maxHeartbeats 4000000 in
theorem lc_divorce (l : Launch) (b : Nat) (id : Nat → ClassId) (D : va_G) (htr : l.stackTraces = false) {a L j : Nat} {xs : Nat → Int32} (hL : L ≤ 2048) (hj : j + 4 ≤ L) {g : Sg} {F : Fam} {k : Lg} (hV : zV F) (hc : Hc g F) (hl : Hl g k) (hm : Hm g F) (hn : Hn g k) {ce sl : Nat} (hce : ce + 3 ≤ 601024) (hsl : sl + 18 ≤ 7293034) (kk : ∀ (g' : Sg) (F' : Fam) (k' : Lg), zV F' → Hc g' F' → Hl g' k' → Hm g' F' → Hn g' k' → Vz l b id D m_law false (Qz b room_1) (Pz a L xs b) 85 kT (ce + 3) (sl + 18) 1203 [(4, .int (nI j)), (3, .ref (b + 84)), (2, .ref (b + 67)), (1, .ref (b + 0)), (0, .ref a)] [] g') : Vz l b id D m_law false (Qz b room_1) (Pz a L xs b) 85 kT ce sl 300 [(4, .int (nI j)), (3, .ref (b + 84)), (2, .ref (b + 67)), (1, .ref (b + 0)), (0, .ref a)] [] g := by
  refine vz_aload_n d_W_law_300 rfl ?_
  refine vz_aload_n d_W_law_301 rfl ?_
  refine vz_iload d_W_law_302 rfl ?_
  refine vz_iconst (v := 1) d_W_law_304 (by decide) ?_
  refine vz_iadd d_W_law_305 ?_
  refine vz_int (y := nI (j + 1)) (nI_add j 1) ?_
  refine vz_sld d_W_law_306 (by omega) hL ?_
  refine vz_aload_n d_W_law_307 rfl ?_
  refine vz_callS (n := 3) _ _ d_W_law_308 (ct_W_divorce l b id D htr hV hc hl (xs (j + 1))) w_491 w_492 w_493 w_0 ⟨by decide, by decide, by decide +kernel⟩ ⟨by decide, by decide⟩ rfl rfl (Nat.le_of_ble_eq_true rfl) ⟨show ce + 1 ≤ 601024 by omega, show sl + 6 ≤ 7293034 by omega⟩ (fun v308 g308 h308 => ?_)
  obtain ⟨hv1, hc1, hl1, hu1, ha1⟩ := h308
  rw [hv1]
  refine vz_istore (lv' := [(5, _), (4, _), (3, _), (2, _), (1, _), (0, _)]) d_W_law_311 (by decide) rfl ?_
  refine vz_aload_n d_W_law_313 rfl ?_
  refine vz_aload_n d_W_law_314 rfl ?_
  refine vz_iload d_W_law_315 rfl ?_
  refine vz_iconst (v := 1) d_W_law_317 (by decide) ?_
  refine vz_iadd d_W_law_318 ?_
  refine vz_int (y := nI (j + 1)) (nI_add j 1) ?_
  refine vz_sld d_W_law_319 (by omega) hL ?_
  refine vz_callV (n := 1) (C := R_M) (T := T_M) _ _ d_W_law_320 (ct_M_divorce l b id D hV (Hm_up hu1 hm) (Hn_up hu1 hn) (xs (j + 1))) w_749 w_750 w_751 w_752 w_7 rfl ⟨by decide, by decide, by decide +kernel⟩ ⟨by decide, by decide⟩ (by decide) rfl rfl rfl rfl (Nat.le_of_ble_eq_true rfl) ⟨show ce + 1 + 0 ≤ 601024 by omega, show sl + 6 + 0 ≤ 7293034 by omega⟩ (fun v320 g320 h320 => ?_)
  obtain ⟨hv2, ht2, hm2, hn2, hd2⟩ := h320
  rw [hv2, mP_i]
  refine vz_istore (lv' := [(6, _), (5, _), (4, _), (3, _), (2, _), (1, _), (0, _)]) d_W_law_323 (by decide) rfl ?_
  refine vz_aload_n d_W_law_325 rfl ?_
  refine vz_callV (n := 0) (C := R_M) (T := T_M) _ _ d_W_law_326 (ct_M_thrown l b id D) w_725 w_726 w_727 w_728 w_7 rfl ⟨by decide, by decide, by decide +kernel⟩ ⟨by decide, by decide⟩ (by decide) rfl rfl rfl rfl (Nat.le_of_ble_eq_true rfl) ⟨show ce + 1 + 0 + 0 ≤ 601024 by omega, show sl + 6 + 0 + 0 ≤ 7293034 by omega⟩ (fun v326 g326 h326 => ?_)
  obtain ⟨hv3, e3⟩ := h326
  rw [hv3, e3, ht2]
  refine vz_iload d_W_law_329 rfl ?_
  refine vz_icmp_eq (tgt := 336) d_W_law_331 (by decide) (fun h331 => ?_) (fun h331 => absurd h331 (fun h => h rfl))
  refine vz_iload d_W_law_336 rfl ?_
  refine vz_if_ne (tgt := 360) d_W_law_338 (by decide) (fun h338 => ?_) (fun h338 => ?_)
  · refine vz_goto (tgt := 1203) d_W_law_360 (by decide) ?_
    refine vz_pk [2, 3, 4, 5, 6] (lv' := [(4, _), (3, _), (2, _), (1, _), (0, _)]) rfl ?_
    refine vz_widen (ce' := ce + 3) (sl' := sl + 18) (show ce + 1 + 0 + 0 ≤ ce + 3 by omega) (show sl + 6 + 0 + 0 ≤ sl + 18 by omega) ?_
    exact kk _ _ _ (zV_divorce hV _) (Hc_dn hd2 hc1) (Hl_dn hd2 hl1) hm2 hn2
  · have hC0 : k_one F (xs (j + 1)) = 0 := k0 (by unfold k_one; (repeat' split) <;> omega) h338
    refine vz_aload_n d_W_law_341 rfl ?_
    refine vz_iconst (v := 0) d_W_law_342 (by decide) ?_
    refine vz_lald d_W_law_343 (by decide) rfl (show (0 : Int32) = nI 0 by decide) (by decide) ?_
    refine vz_long (y := (bI ((zdv F (zi (xs (j + 1)))).isSome)).toInt64) (by rw [(hd2 84 (Or.inr (by decide))).2]; exact ha1 hC0 _ rfl) ?_
    refine vz_iload d_W_law_344 rfl ?_
    refine vz_if_eq (tgt := 353) d_W_law_346 (by decide) (fun h346 => ?_) (fun h346 => ?_)
    · refine vz_lconst (v := 0) d_W_law_353 rfl ?_
      refine vz_lcmp d_W_law_354 ?_
      refine vz_if_eq (tgt := 360) d_W_law_355 (by decide) (fun h355 => ?_) (fun h355 => absurd h355 (fun h => h (by rw [if_pos hC0] at h346; rw [← bI_l0 h346]; exact lg_self _)))
      refine vz_goto (tgt := 1203) d_W_law_360 (by decide) ?_
      refine vz_pk [2, 3, 4, 5, 6] (lv' := [(4, _), (3, _), (2, _), (1, _), (0, _)]) rfl ?_
      refine vz_widen (ce' := ce + 3) (sl' := sl + 18) (show ce + 1 + 0 + 0 ≤ ce + 3 by omega) (show sl + 6 + 0 + 0 ≤ sl + 18 by omega) ?_
      exact kk _ _ _ (zV_divorce hV _) (Hc_dn hd2 hc1) (Hl_dn hd2 hl1) hm2 hn2
    · refine vz_lconst (v := 1) d_W_law_349 rfl ?_
      refine vz_goto (tgt := 354) d_W_law_350 (by decide) ?_
      refine vz_lcmp d_W_law_354 ?_
      refine vz_if_eq (tgt := 360) d_W_law_355 (by decide) (fun h355 => ?_) (fun h355 => absurd h355 (fun h => h (by rw [if_pos hC0] at h346; rw [← bI_l1 h346]; exact lg_self _)))
      refine vz_goto (tgt := 1203) d_W_law_360 (by decide) ?_
      refine vz_pk [2, 3, 4, 5, 6] (lv' := [(4, _), (3, _), (2, _), (1, _), (0, _)]) rfl ?_
      refine vz_widen (ce' := ce + 3) (sl' := sl + 18) (show ce + 1 + 0 + 0 ≤ ce + 3 by omega) (show sl + 6 + 0 + 0 ≤ sl + 18 by omega) ?_
      exact kk _ _ _ (zV_divorce hV _) (Hc_dn hd2 hc1) (Hl_dn hd2 hl1) hm2 hn2
set_option maxRecDepth 100000 in
set_option maxHeartbeats 4000000 in
theorem lc_spouse (l : Launch) (b : Nat) (id : Nat → ClassId) (D : va_G) (htr : l.stackTraces = false) {a L j : Nat} {xs : Nat → Int32} (hL : L ≤ 2048) (hj : j + 4 ≤ L) {g : Sg} {F : Fam} {k : Lg} (hV : zV F) (hc : Hc g F) (hl : Hl g k) (hm : Hm g F) (hn : Hn g k) {ce sl : Nat} (hce : ce + 3 ≤ 601024) (hsl : sl + 18 ≤ 7293034) (kk : ∀ (g' : Sg) (F' : Fam) (k' : Lg), zV F' → Hc g' F' → Hl g' k' → Hm g' F' → Hn g' k' → Vz l b id D m_law false (Qz b room_1) (Pz a L xs b) 85 kT (ce + 3) (sl + 18) 1203 [(4, .int (nI j)), (3, .ref (b + 84)), (2, .ref (b + 67)), (1, .ref (b + 0)), (0, .ref a)] [] g') : Vz l b id D m_law false (Qz b room_1) (Pz a L xs b) 85 kT ce sl 363 [(4, .int (nI j)), (3, .ref (b + 84)), (2, .ref (b + 67)), (1, .ref (b + 0)), (0, .ref a)] [] g := by
  refine vz_aload_n d_W_law_363 rfl ?_
  refine vz_aload_n d_W_law_364 rfl ?_
  refine vz_iload d_W_law_365 rfl ?_
  refine vz_iconst (v := 1) d_W_law_367 (by decide) ?_
  refine vz_iadd d_W_law_368 ?_
  refine vz_int (y := nI (j + 1)) (nI_add j 1) ?_
  refine vz_sld d_W_law_369 (by omega) hL ?_
  refine vz_aload_n d_W_law_370 rfl ?_
  refine vz_callS (n := 3) _ _ d_W_law_371 (ct_W_spouse l b id D htr hV hc hl (xs (j + 1))) w_499 w_500 w_501 w_0 ⟨by decide, by decide, by decide +kernel⟩ ⟨by decide, by decide⟩ rfl rfl (Nat.le_of_ble_eq_true rfl) ⟨show ce + 1 ≤ 601024 by omega, show sl + 6 ≤ 7293034 by omega⟩ (fun v371 g371 h371 => ?_)
  obtain ⟨hv1, hc1, hl1, hu1, ha1⟩ := h371
  rw [hv1]
  refine vz_istore (lv' := [(5, _), (4, _), (3, _), (2, _), (1, _), (0, _)]) d_W_law_374 (by decide) rfl ?_
  refine vz_aload_n d_W_law_376 rfl ?_
  refine vz_aload_n d_W_law_377 rfl ?_
  refine vz_iload d_W_law_378 rfl ?_
  refine vz_iconst (v := 1) d_W_law_380 (by decide) ?_
  refine vz_iadd d_W_law_381 ?_
  refine vz_int (y := nI (j + 1)) (nI_add j 1) ?_
  refine vz_sld d_W_law_382 (by omega) hL ?_
  refine vz_callV (n := 1) (C := R_M) (T := T_M) _ _ d_W_law_383 (ct_M_spouse l b id D hV (Hm_up hu1 hm) (Hn_up hu1 hn) (xs (j + 1))) w_753 w_754 w_755 w_756 w_7 rfl ⟨by decide, by decide, by decide +kernel⟩ ⟨by decide, by decide⟩ (by decide) rfl rfl rfl rfl (Nat.le_of_ble_eq_true rfl) ⟨show ce + 1 + 0 ≤ 601024 by omega, show sl + 6 + 0 ≤ 7293034 by omega⟩ (fun v383 g383 h383 => ?_)
  obtain ⟨hv2, ht2, hm2, hn2, hd2⟩ := h383
  rw [hv2, mP_i]
  refine vz_istore (lv' := [(6, _), (5, _), (4, _), (3, _), (2, _), (1, _), (0, _)]) d_W_law_386 (by decide) rfl ?_
  refine vz_aload_n d_W_law_388 rfl ?_
  refine vz_callV (n := 0) (C := R_M) (T := T_M) _ _ d_W_law_389 (ct_M_thrown l b id D) w_725 w_726 w_727 w_728 w_7 rfl ⟨by decide, by decide, by decide +kernel⟩ ⟨by decide, by decide⟩ (by decide) rfl rfl rfl rfl (Nat.le_of_ble_eq_true rfl) ⟨show ce + 1 + 0 + 0 ≤ 601024 by omega, show sl + 6 + 0 + 0 ≤ 7293034 by omega⟩ (fun v389 g389 h389 => ?_)
  obtain ⟨hv3, e3⟩ := h389
  rw [hv3, e3, ht2]
  refine vz_iload d_W_law_392 rfl ?_
  refine vz_icmp_eq (tgt := 399) d_W_law_394 (by decide) (fun h394 => ?_) (fun h394 => absurd h394 (fun h => h rfl))
  refine vz_iload d_W_law_399 rfl ?_
  refine vz_if_ne (tgt := 416) d_W_law_401 (by decide) (fun h401 => ?_) (fun h401 => ?_)
  · refine vz_goto (tgt := 1203) d_W_law_416 (by decide) ?_
    refine vz_pk [2, 3, 4, 5, 6] (lv' := [(4, _), (3, _), (2, _), (1, _), (0, _)]) rfl ?_
    refine vz_widen (ce' := ce + 3) (sl' := sl + 18) (show ce + 1 + 0 + 0 ≤ ce + 3 by omega) (show sl + 6 + 0 + 0 ≤ sl + 18 by omega) ?_
    exact kk _ _ _ hV (Hc_dn hd2 hc1) (Hl_dn hd2 hl1) hm2 hn2
  · have hC0 : k_one F (xs (j + 1)) = 0 := k0 (by unfold k_one; (repeat' split) <;> omega) h401
    refine vz_aload_n d_W_law_404 rfl ?_
    refine vz_iconst (v := 0) d_W_law_405 (by decide) ?_
    refine vz_lald d_W_law_406 (by decide) rfl (show (0 : Int32) = nI 0 by decide) (by decide) ?_
    refine vz_long (y := (eO (zs F (zi (xs (j + 1))))).toInt64) (by rw [(hd2 84 (Or.inr (by decide))).2]; exact ha1 hC0 _ rfl) ?_
    refine vz_iload d_W_law_407 rfl ?_
    refine vz_i2l d_W_law_409 (show _ = (eO (zs F (zi (xs (j + 1))))).toInt64 by rw [if_pos hC0]) ?_
    refine vz_lcmp d_W_law_410 ?_
    refine vz_if_eq (tgt := 416) d_W_law_411 (by decide) (fun h411 => ?_) (fun h411 => absurd h411 (fun h => h (lg_self _)))
    refine vz_goto (tgt := 1203) d_W_law_416 (by decide) ?_
    refine vz_pk [2, 3, 4, 5, 6] (lv' := [(4, _), (3, _), (2, _), (1, _), (0, _)]) rfl ?_
    refine vz_widen (ce' := ce + 3) (sl' := sl + 18) (show ce + 1 + 0 + 0 ≤ ce + 3 by omega) (show sl + 6 + 0 + 0 ≤ sl + 18 by omega) ?_
    exact kk _ _ _ hV (Hc_dn hd2 hc1) (Hl_dn hd2 hl1) hm2 hn2
set_option maxRecDepth 100000 in
set_option maxHeartbeats 4000000 in
theorem lc_dies (l : Launch) (b : Nat) (id : Nat → ClassId) (D : va_G) (htr : l.stackTraces = false) {a L j : Nat} {xs : Nat → Int32} (hL : L ≤ 2048) (hj : j + 4 ≤ L) {g : Sg} {F : Fam} {k : Lg} (hV : zV F) (hc : Hc g F) (hl : Hl g k) (hm : Hm g F) (hn : Hn g k) {ce sl : Nat} (hce : ce + 3 ≤ 601024) (hsl : sl + 18 ≤ 7293034) (kk : ∀ (g' : Sg) (F' : Fam) (k' : Lg), zV F' → Hc g' F' → Hl g' k' → Hm g' F' → Hn g' k' → Vz l b id D m_law false (Qz b room_1) (Pz a L xs b) 85 kT (ce + 3) (sl + 18) 1203 [(4, .int (nI j)), (3, .ref (b + 84)), (2, .ref (b + 67)), (1, .ref (b + 0)), (0, .ref a)] [] g') : Vz l b id D m_law false (Qz b room_1) (Pz a L xs b) 85 kT ce sl 419 [(4, .int (nI j)), (3, .ref (b + 84)), (2, .ref (b + 67)), (1, .ref (b + 0)), (0, .ref a)] [] g := by
  refine vz_aload_n d_W_law_419 rfl ?_
  refine vz_aload_n d_W_law_420 rfl ?_
  refine vz_iload d_W_law_421 rfl ?_
  refine vz_iconst (v := 1) d_W_law_423 (by decide) ?_
  refine vz_iadd d_W_law_424 ?_
  refine vz_int (y := nI (j + 1)) (nI_add j 1) ?_
  refine vz_sld d_W_law_425 (by omega) hL ?_
  refine vz_aload_n d_W_law_426 rfl ?_
  refine vz_iload d_W_law_427 rfl ?_
  refine vz_iconst (v := 2) d_W_law_429 (by decide) ?_
  refine vz_iadd d_W_law_430 ?_
  refine vz_int (y := nI (j + 2)) (nI_add j 2) ?_
  refine vz_sld d_W_law_431 (by omega) hL ?_
  refine vz_callS (n := 3) _ _ d_W_law_432 (ct_W_dies l b id D htr hV hc hl (xs (j + 1)) (xs (j + 2))) w_506 w_507 w_508 w_0 ⟨by decide, by decide, by decide +kernel⟩ ⟨by decide, by decide⟩ rfl rfl (Nat.le_of_ble_eq_true rfl) ⟨show ce + 3 ≤ 601024 by omega, show sl + 18 ≤ 7293034 by omega⟩ (fun v432 g432 h432 => ?_)
  obtain ⟨hv1, hc1, hl1, hu1, ha1⟩ := h432
  rw [hv1]
  refine vz_istore (lv' := [(5, _), (4, _), (3, _), (2, _), (1, _), (0, _)]) d_W_law_435 (by decide) rfl ?_
  refine vz_aload_n d_W_law_437 rfl ?_
  refine vz_aload_n d_W_law_438 rfl ?_
  refine vz_iload d_W_law_439 rfl ?_
  refine vz_iconst (v := 1) d_W_law_441 (by decide) ?_
  refine vz_iadd d_W_law_442 ?_
  refine vz_int (y := nI (j + 1)) (nI_add j 1) ?_
  refine vz_sld d_W_law_443 (by omega) hL ?_
  refine vz_aload_n d_W_law_444 rfl ?_
  refine vz_iload d_W_law_445 rfl ?_
  refine vz_iconst (v := 2) d_W_law_447 (by decide) ?_
  refine vz_iadd d_W_law_448 ?_
  refine vz_int (y := nI (j + 2)) (nI_add j 2) ?_
  refine vz_sld d_W_law_449 (by omega) hL ?_
  refine vz_callV (n := 2) (C := R_M) (T := T_M) _ _ d_W_law_450 (ct_M_dies l b id D hV (Hm_up hu1 hm) (Hn_up hu1 hn) (xs (j + 1)) (xs (j + 2))) w_757 w_758 w_759 w_760 w_7 rfl ⟨by decide, by decide, by decide +kernel⟩ ⟨by decide, by decide⟩ (by decide) rfl rfl rfl rfl (Nat.le_of_ble_eq_true rfl) ⟨show ce + 3 + 0 ≤ 601024 by omega, show sl + 18 + 0 ≤ 7293034 by omega⟩ (fun v450 g450 h450 => ?_)
  obtain ⟨hv2, ht2, hm2, hn2, hd2⟩ := h450
  rw [hv2, ite_self]
  refine vz_aload_n d_W_law_453 rfl ?_
  refine vz_callV (n := 0) (C := R_M) (T := T_M) _ _ d_W_law_454 (ct_M_thrown l b id D) w_725 w_726 w_727 w_728 w_7 rfl ⟨by decide, by decide, by decide +kernel⟩ ⟨by decide, by decide⟩ (by decide) rfl rfl rfl rfl (Nat.le_of_ble_eq_true rfl) ⟨show ce + 3 + 0 + 0 ≤ 601024 by omega, show sl + 18 + 0 + 0 ≤ 7293034 by omega⟩ (fun v454 g454 h454 => ?_)
  obtain ⟨hv3, e3⟩ := h454
  rw [hv3, e3, ht2]
  refine vz_iload d_W_law_457 rfl ?_
  refine vz_icmp_eq (tgt := 464) d_W_law_459 (by decide) (fun h459 => ?_) (fun h459 => absurd h459 (fun h => h rfl))
  refine vz_goto (tgt := 1203) d_W_law_464 (by decide) ?_
  refine vz_pk [1, 2, 3, 4, 5] (lv' := [(4, _), (3, _), (2, _), (1, _), (0, _)]) rfl ?_
  refine vz_widen (ce' := ce + 3) (sl' := sl + 18) (show ce + 3 + 0 + 0 ≤ ce + 3 by omega) (show sl + 18 + 0 + 0 ≤ sl + 18 by omega) ?_
  exact kk _ _ _ (zV_dies hV _ _) (Hc_dn hd2 hc1) (Hl_dn hd2 hl1) hm2 hn2
set_option maxRecDepth 100000 in
set_option maxHeartbeats 4000000 in
theorem lc_exclude (l : Launch) (b : Nat) (id : Nat → ClassId) (D : va_G) (htr : l.stackTraces = false) {a L j : Nat} {xs : Nat → Int32} (hL : L ≤ 2048) (hj : j + 4 ≤ L) {g : Sg} {F : Fam} {k : Lg} (hV : zV F) (hc : Hc g F) (hl : Hl g k) (hm : Hm g F) (hn : Hn g k) {ce sl : Nat} (hce : ce + 3 ≤ 601024) (hsl : sl + 18 ≤ 7293034) (kk : ∀ (g' : Sg) (F' : Fam) (k' : Lg), zV F' → Hc g' F' → Hl g' k' → Hm g' F' → Hn g' k' → Vz l b id D m_law false (Qz b room_1) (Pz a L xs b) 85 kT (ce + 3) (sl + 18) 1203 [(4, .int (nI j)), (3, .ref (b + 84)), (2, .ref (b + 67)), (1, .ref (b + 0)), (0, .ref a)] [] g') : Vz l b id D m_law false (Qz b room_1) (Pz a L xs b) 85 kT ce sl 467 [(4, .int (nI j)), (3, .ref (b + 84)), (2, .ref (b + 67)), (1, .ref (b + 0)), (0, .ref a)] [] g := by
  refine vz_aload_n d_W_law_467 rfl ?_
  refine vz_aload_n d_W_law_468 rfl ?_
  refine vz_iload d_W_law_469 rfl ?_
  refine vz_iconst (v := 1) d_W_law_471 (by decide) ?_
  refine vz_iadd d_W_law_472 ?_
  refine vz_int (y := nI (j + 1)) (nI_add j 1) ?_
  refine vz_sld d_W_law_473 (by omega) hL ?_
  refine vz_aload_n d_W_law_474 rfl ?_
  refine vz_iload d_W_law_475 rfl ?_
  refine vz_iconst (v := 2) d_W_law_477 (by decide) ?_
  refine vz_iadd d_W_law_478 ?_
  refine vz_int (y := nI (j + 2)) (nI_add j 2) ?_
  refine vz_sld d_W_law_479 (by omega) hL ?_
  refine vz_aload_n d_W_law_480 rfl ?_
  refine vz_iload d_W_law_481 rfl ?_
  refine vz_iconst (v := 3) d_W_law_483 (by decide) ?_
  refine vz_iadd d_W_law_484 ?_
  refine vz_int (y := nI (j + 3)) (nI_add j 3) ?_
  refine vz_sld d_W_law_485 (by omega) hL ?_
  refine vz_if_eq (tgt := 493) d_W_law_486 (by decide) (fun h486 => ?_) (fun h486 => ?_)
  · refine vz_iconst (v := 0) d_W_law_493 (by decide) ?_
    refine vz_aload_n d_W_law_494 rfl ?_
    refine vz_callS (n := 5) _ _ d_W_law_495 (ct_W_exclude l b id D htr hV hc hl (xs (j + 1)) (xs (j + 2)) false) w_515 w_516 w_517 w_0 ⟨by decide, by decide, by decide +kernel⟩ ⟨by decide, by decide⟩ rfl rfl (Nat.le_of_ble_eq_true rfl) ⟨show ce + 2 ≤ 601024 by omega, show sl + 12 ≤ 7293034 by omega⟩ (fun v495 g495 h495 => ?_)
    obtain ⟨hv1, hc1, hl1, hu1, ha1⟩ := h495
    rw [hv1]
    refine vz_istore (lv' := [(5, _), (4, _), (3, _), (2, _), (1, _), (0, _)]) d_W_law_498 (by decide) rfl ?_
    refine vz_aload_n d_W_law_500 rfl ?_
    refine vz_aload_n d_W_law_501 rfl ?_
    refine vz_iload d_W_law_502 rfl ?_
    refine vz_iconst (v := 1) d_W_law_504 (by decide) ?_
    refine vz_iadd d_W_law_505 ?_
    refine vz_int (y := nI (j + 1)) (nI_add j 1) ?_
    refine vz_sld d_W_law_506 (by omega) hL ?_
    refine vz_aload_n d_W_law_507 rfl ?_
    refine vz_iload d_W_law_508 rfl ?_
    refine vz_iconst (v := 2) d_W_law_510 (by decide) ?_
    refine vz_iadd d_W_law_511 ?_
    refine vz_int (y := nI (j + 2)) (nI_add j 2) ?_
    refine vz_sld d_W_law_512 (by omega) hL ?_
    refine vz_aload_n d_W_law_513 rfl ?_
    refine vz_iload d_W_law_514 rfl ?_
    refine vz_iconst (v := 3) d_W_law_516 (by decide) ?_
    refine vz_iadd d_W_law_517 ?_
    refine vz_int (y := nI (j + 3)) (nI_add j 3) ?_
    refine vz_sld d_W_law_518 (by omega) hL ?_
    refine vz_if_eq (tgt := 526) d_W_law_519 (by decide) (fun h519 => ?_) (fun h519 => absurd h519 (fun h => h h486))
    refine vz_iconst (v := 0) d_W_law_526 (by decide) ?_
    refine vz_callV (n := 3) (C := R_M) (T := T_M) _ _ d_W_law_527 (ct_M_exclude l b id D hV (Hm_up hu1 hm) (Hn_up hu1 hn) (xs (j + 1)) (xs (j + 2)) false) w_761 w_762 w_763 w_764 w_7 rfl ⟨by decide, by decide, by decide +kernel⟩ ⟨by decide, by decide⟩ (by decide) rfl rfl rfl rfl (Nat.le_of_ble_eq_true rfl) ⟨show ce + 2 + 0 ≤ 601024 by omega, show sl + 12 + 0 ≤ 7293034 by omega⟩ (fun v527 g527 h527 => ?_)
    obtain ⟨hv2, ht2, hm2, hn2, hd2⟩ := h527
    rw [hv2, mP_i]
    refine vz_istore (lv' := [(6, _), (5, _), (4, _), (3, _), (2, _), (1, _), (0, _)]) d_W_law_530 (by decide) rfl ?_
    refine vz_aload_n d_W_law_532 rfl ?_
    refine vz_callV (n := 0) (C := R_M) (T := T_M) _ _ d_W_law_533 (ct_M_thrown l b id D) w_725 w_726 w_727 w_728 w_7 rfl ⟨by decide, by decide, by decide +kernel⟩ ⟨by decide, by decide⟩ (by decide) rfl rfl rfl rfl (Nat.le_of_ble_eq_true rfl) ⟨show ce + 2 + 0 + 0 ≤ 601024 by omega, show sl + 12 + 0 + 0 ≤ 7293034 by omega⟩ (fun v533 g533 h533 => ?_)
    obtain ⟨hv3, e3⟩ := h533
    rw [hv3, e3, ht2]
    refine vz_iload d_W_law_536 rfl ?_
    refine vz_icmp_eq (tgt := 543) d_W_law_538 (by decide) (fun h538 => ?_) (fun h538 => absurd h538 (fun h => h rfl))
    refine vz_iload d_W_law_543 rfl ?_
    refine vz_if_ne (tgt := 567) d_W_law_545 (by decide) (fun h545 => ?_) (fun h545 => ?_)
    · refine vz_goto (tgt := 1203) d_W_law_567 (by decide) ?_
      refine vz_pk [2, 3, 4, 5, 6] (lv' := [(4, _), (3, _), (2, _), (1, _), (0, _)]) rfl ?_
      refine vz_widen (ce' := ce + 3) (sl' := sl + 18) (show ce + 2 + 0 + 0 ≤ ce + 3 by omega) (show sl + 12 + 0 + 0 ≤ sl + 18 by omega) ?_
      exact kk _ _ _ (zV_exclude hV _ _ _) (Hc_dn hd2 hc1) (Hl_dn hd2 hl1) hm2 hn2
    · have hC0 : k_two F (xs (j + 1)) (xs (j + 2)) = 0 := k0 (by unfold k_two; (repeat' split) <;> omega) h545
      refine vz_aload_n d_W_law_548 rfl ?_
      refine vz_iconst (v := 0) d_W_law_549 (by decide) ?_
      refine vz_lald d_W_law_550 (by decide) rfl (show (0 : Int32) = nI 0 by decide) (by decide) ?_
      refine vz_long (y := (bI (!(zx F (zi (xs (j + 1))) (zi (xs (j + 2))) == false))).toInt64) (by rw [(hd2 84 (Or.inr (by decide))).2]; exact ha1 hC0 _ rfl) ?_
      refine vz_iload d_W_law_551 rfl ?_
      refine vz_if_eq (tgt := 560) d_W_law_553 (by decide) (fun h553 => ?_) (fun h553 => ?_)
      · refine vz_lconst (v := 0) d_W_law_560 rfl ?_
        refine vz_lcmp d_W_law_561 ?_
        refine vz_if_eq (tgt := 567) d_W_law_562 (by decide) (fun h562 => ?_) (fun h562 => absurd h562 (fun h => h (by rw [if_pos hC0] at h553; rw [← bI_l0 h553]; exact lg_self _)))
        refine vz_goto (tgt := 1203) d_W_law_567 (by decide) ?_
        refine vz_pk [2, 3, 4, 5, 6] (lv' := [(4, _), (3, _), (2, _), (1, _), (0, _)]) rfl ?_
        refine vz_widen (ce' := ce + 3) (sl' := sl + 18) (show ce + 2 + 0 + 0 ≤ ce + 3 by omega) (show sl + 12 + 0 + 0 ≤ sl + 18 by omega) ?_
        exact kk _ _ _ (zV_exclude hV _ _ _) (Hc_dn hd2 hc1) (Hl_dn hd2 hl1) hm2 hn2
      · refine vz_lconst (v := 1) d_W_law_556 rfl ?_
        refine vz_goto (tgt := 561) d_W_law_557 (by decide) ?_
        refine vz_lcmp d_W_law_561 ?_
        refine vz_if_eq (tgt := 567) d_W_law_562 (by decide) (fun h562 => ?_) (fun h562 => absurd h562 (fun h => h (by rw [if_pos hC0] at h553; rw [← bI_l1 h553]; exact lg_self _)))
        refine vz_goto (tgt := 1203) d_W_law_567 (by decide) ?_
        refine vz_pk [2, 3, 4, 5, 6] (lv' := [(4, _), (3, _), (2, _), (1, _), (0, _)]) rfl ?_
        refine vz_widen (ce' := ce + 3) (sl' := sl + 18) (show ce + 2 + 0 + 0 ≤ ce + 3 by omega) (show sl + 12 + 0 + 0 ≤ sl + 18 by omega) ?_
        exact kk _ _ _ (zV_exclude hV _ _ _) (Hc_dn hd2 hc1) (Hl_dn hd2 hl1) hm2 hn2
  · refine vz_iconst (v := 1) d_W_law_489 (by decide) ?_
    refine vz_goto (tgt := 494) d_W_law_490 (by decide) ?_
    refine vz_aload_n d_W_law_494 rfl ?_
    refine vz_callS (n := 5) _ _ d_W_law_495 (ct_W_exclude l b id D htr hV hc hl (xs (j + 1)) (xs (j + 2)) true) w_515 w_516 w_517 w_0 ⟨by decide, by decide, by decide +kernel⟩ ⟨by decide, by decide⟩ rfl rfl (Nat.le_of_ble_eq_true rfl) ⟨show ce + 2 ≤ 601024 by omega, show sl + 12 ≤ 7293034 by omega⟩ (fun v495 g495 h495 => ?_)
    obtain ⟨hv1, hc1, hl1, hu1, ha1⟩ := h495
    rw [hv1]
    refine vz_istore (lv' := [(5, _), (4, _), (3, _), (2, _), (1, _), (0, _)]) d_W_law_498 (by decide) rfl ?_
    refine vz_aload_n d_W_law_500 rfl ?_
    refine vz_aload_n d_W_law_501 rfl ?_
    refine vz_iload d_W_law_502 rfl ?_
    refine vz_iconst (v := 1) d_W_law_504 (by decide) ?_
    refine vz_iadd d_W_law_505 ?_
    refine vz_int (y := nI (j + 1)) (nI_add j 1) ?_
    refine vz_sld d_W_law_506 (by omega) hL ?_
    refine vz_aload_n d_W_law_507 rfl ?_
    refine vz_iload d_W_law_508 rfl ?_
    refine vz_iconst (v := 2) d_W_law_510 (by decide) ?_
    refine vz_iadd d_W_law_511 ?_
    refine vz_int (y := nI (j + 2)) (nI_add j 2) ?_
    refine vz_sld d_W_law_512 (by omega) hL ?_
    refine vz_aload_n d_W_law_513 rfl ?_
    refine vz_iload d_W_law_514 rfl ?_
    refine vz_iconst (v := 3) d_W_law_516 (by decide) ?_
    refine vz_iadd d_W_law_517 ?_
    refine vz_int (y := nI (j + 3)) (nI_add j 3) ?_
    refine vz_sld d_W_law_518 (by omega) hL ?_
    refine vz_if_eq (tgt := 526) d_W_law_519 (by decide) (fun h519 => absurd h519 (h486)) (fun h519 => ?_)
    refine vz_iconst (v := 1) d_W_law_522 (by decide) ?_
    refine vz_goto (tgt := 527) d_W_law_523 (by decide) ?_
    refine vz_callV (n := 3) (C := R_M) (T := T_M) _ _ d_W_law_527 (ct_M_exclude l b id D hV (Hm_up hu1 hm) (Hn_up hu1 hn) (xs (j + 1)) (xs (j + 2)) true) w_761 w_762 w_763 w_764 w_7 rfl ⟨by decide, by decide, by decide +kernel⟩ ⟨by decide, by decide⟩ (by decide) rfl rfl rfl rfl (Nat.le_of_ble_eq_true rfl) ⟨show ce + 2 + 0 ≤ 601024 by omega, show sl + 12 + 0 ≤ 7293034 by omega⟩ (fun v527 g527 h527 => ?_)
    obtain ⟨hv2, ht2, hm2, hn2, hd2⟩ := h527
    rw [hv2, mP_i]
    refine vz_istore (lv' := [(6, _), (5, _), (4, _), (3, _), (2, _), (1, _), (0, _)]) d_W_law_530 (by decide) rfl ?_
    refine vz_aload_n d_W_law_532 rfl ?_
    refine vz_callV (n := 0) (C := R_M) (T := T_M) _ _ d_W_law_533 (ct_M_thrown l b id D) w_725 w_726 w_727 w_728 w_7 rfl ⟨by decide, by decide, by decide +kernel⟩ ⟨by decide, by decide⟩ (by decide) rfl rfl rfl rfl (Nat.le_of_ble_eq_true rfl) ⟨show ce + 2 + 0 + 0 ≤ 601024 by omega, show sl + 12 + 0 + 0 ≤ 7293034 by omega⟩ (fun v533 g533 h533 => ?_)
    obtain ⟨hv3, e3⟩ := h533
    rw [hv3, e3, ht2]
    refine vz_iload d_W_law_536 rfl ?_
    refine vz_icmp_eq (tgt := 543) d_W_law_538 (by decide) (fun h538 => ?_) (fun h538 => absurd h538 (fun h => h rfl))
    refine vz_iload d_W_law_543 rfl ?_
    refine vz_if_ne (tgt := 567) d_W_law_545 (by decide) (fun h545 => ?_) (fun h545 => ?_)
    · refine vz_goto (tgt := 1203) d_W_law_567 (by decide) ?_
      refine vz_pk [2, 3, 4, 5, 6] (lv' := [(4, _), (3, _), (2, _), (1, _), (0, _)]) rfl ?_
      refine vz_widen (ce' := ce + 3) (sl' := sl + 18) (show ce + 2 + 0 + 0 ≤ ce + 3 by omega) (show sl + 12 + 0 + 0 ≤ sl + 18 by omega) ?_
      exact kk _ _ _ (zV_exclude hV _ _ _) (Hc_dn hd2 hc1) (Hl_dn hd2 hl1) hm2 hn2
    · have hC0 : k_two F (xs (j + 1)) (xs (j + 2)) = 0 := k0 (by unfold k_two; (repeat' split) <;> omega) h545
      refine vz_aload_n d_W_law_548 rfl ?_
      refine vz_iconst (v := 0) d_W_law_549 (by decide) ?_
      refine vz_lald d_W_law_550 (by decide) rfl (show (0 : Int32) = nI 0 by decide) (by decide) ?_
      refine vz_long (y := (bI (!(zx F (zi (xs (j + 1))) (zi (xs (j + 2))) == true))).toInt64) (by rw [(hd2 84 (Or.inr (by decide))).2]; exact ha1 hC0 _ rfl) ?_
      refine vz_iload d_W_law_551 rfl ?_
      refine vz_if_eq (tgt := 560) d_W_law_553 (by decide) (fun h553 => ?_) (fun h553 => ?_)
      · refine vz_lconst (v := 0) d_W_law_560 rfl ?_
        refine vz_lcmp d_W_law_561 ?_
        refine vz_if_eq (tgt := 567) d_W_law_562 (by decide) (fun h562 => ?_) (fun h562 => absurd h562 (fun h => h (by rw [if_pos hC0] at h553; rw [← bI_l0 h553]; exact lg_self _)))
        refine vz_goto (tgt := 1203) d_W_law_567 (by decide) ?_
        refine vz_pk [2, 3, 4, 5, 6] (lv' := [(4, _), (3, _), (2, _), (1, _), (0, _)]) rfl ?_
        refine vz_widen (ce' := ce + 3) (sl' := sl + 18) (show ce + 2 + 0 + 0 ≤ ce + 3 by omega) (show sl + 12 + 0 + 0 ≤ sl + 18 by omega) ?_
        exact kk _ _ _ (zV_exclude hV _ _ _) (Hc_dn hd2 hc1) (Hl_dn hd2 hl1) hm2 hn2
      · refine vz_lconst (v := 1) d_W_law_556 rfl ?_
        refine vz_goto (tgt := 561) d_W_law_557 (by decide) ?_
        refine vz_lcmp d_W_law_561 ?_
        refine vz_if_eq (tgt := 567) d_W_law_562 (by decide) (fun h562 => ?_) (fun h562 => absurd h562 (fun h => h (by rw [if_pos hC0] at h553; rw [← bI_l1 h553]; exact lg_self _)))
        refine vz_goto (tgt := 1203) d_W_law_567 (by decide) ?_
        refine vz_pk [2, 3, 4, 5, 6] (lv' := [(4, _), (3, _), (2, _), (1, _), (0, _)]) rfl ?_
        refine vz_widen (ce' := ce + 3) (sl' := sl + 18) (show ce + 2 + 0 + 0 ≤ ce + 3 by omega) (show sl + 12 + 0 + 0 ≤ sl + 18 by omega) ?_
        exact kk _ _ _ (zV_exclude hV _ _ _) (Hc_dn hd2 hc1) (Hl_dn hd2 hl1) hm2 hn2
set_option maxRecDepth 100000 in
set_option maxHeartbeats 4000000 in
theorem lc_gift (l : Launch) (b : Nat) (id : Nat → ClassId) (D : va_G) (htr : l.stackTraces = false) {a L j : Nat} {xs : Nat → Int32} (hL : L ≤ 2048) (hj : j + 4 ≤ L) {g : Sg} {F : Fam} {k : Lg} (hV : zV F) (hc : Hc g F) (hl : Hl g k) (hm : Hm g F) (hn : Hn g k) {ce sl : Nat} (hce : ce + 3 ≤ 601024) (hsl : sl + 18 ≤ 7293034) (kk : ∀ (g' : Sg) (F' : Fam) (k' : Lg), zV F' → Hc g' F' → Hl g' k' → Hm g' F' → Hn g' k' → Vz l b id D m_law false (Qz b room_1) (Pz a L xs b) 85 kT (ce + 3) (sl + 18) 1203 [(4, .int (nI j)), (3, .ref (b + 84)), (2, .ref (b + 67)), (1, .ref (b + 0)), (0, .ref a)] [] g') : Vz l b id D m_law false (Qz b room_1) (Pz a L xs b) 85 kT ce sl 570 [(4, .int (nI j)), (3, .ref (b + 84)), (2, .ref (b + 67)), (1, .ref (b + 0)), (0, .ref a)] [] g := by
  refine vz_aload_n d_W_law_570 rfl ?_
  refine vz_aload_n d_W_law_571 rfl ?_
  refine vz_iload d_W_law_572 rfl ?_
  refine vz_iconst (v := 1) d_W_law_574 (by decide) ?_
  refine vz_iadd d_W_law_575 ?_
  refine vz_int (y := nI (j + 1)) (nI_add j 1) ?_
  refine vz_sld d_W_law_576 (by omega) hL ?_
  refine vz_aload_n d_W_law_577 rfl ?_
  refine vz_iload d_W_law_578 rfl ?_
  refine vz_iconst (v := 2) d_W_law_580 (by decide) ?_
  refine vz_iadd d_W_law_581 ?_
  refine vz_int (y := nI (j + 2)) (nI_add j 2) ?_
  refine vz_sld d_W_law_582 (by omega) hL ?_
  refine vz_aload_n d_W_law_583 rfl ?_
  refine vz_iload d_W_law_584 rfl ?_
  refine vz_iconst (v := 3) d_W_law_586 (by decide) ?_
  refine vz_iadd d_W_law_587 ?_
  refine vz_int (y := nI (j + 3)) (nI_add j 3) ?_
  refine vz_sld d_W_law_588 (by omega) hL ?_
  refine vz_aload_n d_W_law_589 rfl ?_
  refine vz_callS (n := 5) _ _ d_W_law_590 (ct_W_gift l b id D htr hV hc hl (xs (j + 1)) (xs (j + 2)) (xs (j + 3))) w_527 w_528 w_529 w_0 ⟨by decide, by decide, by decide +kernel⟩ ⟨by decide, by decide⟩ rfl rfl (Nat.le_of_ble_eq_true rfl) ⟨show ce + 3 ≤ 601024 by omega, show sl + 18 ≤ 7293034 by omega⟩ (fun v590 g590 h590 => ?_)
  obtain ⟨hv1, hc1, hl1, hu1, ha1⟩ := h590
  rw [hv1]
  refine vz_istore (lv' := [(5, _), (4, _), (3, _), (2, _), (1, _), (0, _)]) d_W_law_593 (by decide) rfl ?_
  refine vz_aload_n d_W_law_595 rfl ?_
  refine vz_aload_n d_W_law_596 rfl ?_
  refine vz_iload d_W_law_597 rfl ?_
  refine vz_iconst (v := 1) d_W_law_599 (by decide) ?_
  refine vz_iadd d_W_law_600 ?_
  refine vz_int (y := nI (j + 1)) (nI_add j 1) ?_
  refine vz_sld d_W_law_601 (by omega) hL ?_
  refine vz_aload_n d_W_law_602 rfl ?_
  refine vz_iload d_W_law_603 rfl ?_
  refine vz_iconst (v := 2) d_W_law_605 (by decide) ?_
  refine vz_iadd d_W_law_606 ?_
  refine vz_int (y := nI (j + 2)) (nI_add j 2) ?_
  refine vz_sld d_W_law_607 (by omega) hL ?_
  refine vz_aload_n d_W_law_608 rfl ?_
  refine vz_iload d_W_law_609 rfl ?_
  refine vz_iconst (v := 3) d_W_law_611 (by decide) ?_
  refine vz_iadd d_W_law_612 ?_
  refine vz_int (y := nI (j + 3)) (nI_add j 3) ?_
  refine vz_sld d_W_law_613 (by omega) hL ?_
  refine vz_callV (n := 3) (C := R_M) (T := T_M) _ _ d_W_law_614 (ct_M_gift l b id D hV (Hm_up hu1 hm) (Hn_up hu1 hn) (xs (j + 1)) (xs (j + 2)) (xs (j + 3))) w_765 w_766 w_767 w_768 w_7 rfl ⟨by decide, by decide, by decide +kernel⟩ ⟨by decide, by decide⟩ (by decide) rfl rfl rfl rfl (Nat.le_of_ble_eq_true rfl) ⟨show ce + 3 + 0 ≤ 601024 by omega, show sl + 18 + 0 ≤ 7293034 by omega⟩ (fun v614 g614 h614 => ?_)
  obtain ⟨hv2, ht2, hm2, hn2, hd2⟩ := h614
  rw [hv2, mP_i]
  refine vz_istore (lv' := [(6, _), (5, _), (4, _), (3, _), (2, _), (1, _), (0, _)]) d_W_law_617 (by decide) rfl ?_
  refine vz_aload_n d_W_law_619 rfl ?_
  refine vz_callV (n := 0) (C := R_M) (T := T_M) _ _ d_W_law_620 (ct_M_thrown l b id D) w_725 w_726 w_727 w_728 w_7 rfl ⟨by decide, by decide, by decide +kernel⟩ ⟨by decide, by decide⟩ (by decide) rfl rfl rfl rfl (Nat.le_of_ble_eq_true rfl) ⟨show ce + 3 + 0 + 0 ≤ 601024 by omega, show sl + 18 + 0 + 0 ≤ 7293034 by omega⟩ (fun v620 g620 h620 => ?_)
  obtain ⟨hv3, e3⟩ := h620
  rw [hv3, e3, ht2]
  refine vz_iload d_W_law_623 rfl ?_
  refine vz_icmp_eq (tgt := 630) d_W_law_625 (by decide) (fun h625 => ?_) (fun h625 => absurd h625 (fun h => h rfl))
  refine vz_iload d_W_law_630 rfl ?_
  refine vz_if_ne (tgt := 647) d_W_law_632 (by decide) (fun h632 => ?_) (fun h632 => ?_)
  · refine vz_goto (tgt := 1203) d_W_law_647 (by decide) ?_
    refine vz_pk [2, 3, 4, 5, 6] (lv' := [(4, _), (3, _), (2, _), (1, _), (0, _)]) rfl ?_
    refine vz_widen (ce' := ce + 3) (sl' := sl + 18) (show ce + 3 + 0 + 0 ≤ ce + 3 by omega) (show sl + 18 + 0 + 0 ≤ sl + 18 by omega) ?_
    exact kk _ _ _ (zV_gift hV _ _ _) (Hc_dn hd2 hc1) (Hl_dn hd2 hl1) hm2 hn2
  · have hC0 : k_gift F (xs (j + 1)) (xs (j + 2)) (xs (j + 3)) = 0 := k0 (by unfold k_gift; (repeat' split) <;> omega) h632
    refine vz_aload_n d_W_law_635 rfl ?_
    refine vz_iconst (v := 0) d_W_law_636 (by decide) ?_
    refine vz_lald d_W_law_637 (by decide) rfl (show (0 : Int32) = nI 0 by decide) (by decide) ?_
    refine vz_long (y := (nI (zg F (zi (xs (j + 1))) (zi (xs (j + 2))) + zi (xs (j + 3)))).toInt64) (by rw [(hd2 84 (Or.inr (by decide))).2]; exact ha1 hC0 _ rfl) ?_
    refine vz_iload d_W_law_638 rfl ?_
    refine vz_i2l d_W_law_640 (show _ = (nI (zg F (zi (xs (j + 1))) (zi (xs (j + 2))) + zi (xs (j + 3)))).toInt64 by rw [if_pos hC0]) ?_
    refine vz_lcmp d_W_law_641 ?_
    refine vz_if_eq (tgt := 647) d_W_law_642 (by decide) (fun h642 => ?_) (fun h642 => absurd h642 (fun h => h (lg_self _)))
    refine vz_goto (tgt := 1203) d_W_law_647 (by decide) ?_
    refine vz_pk [2, 3, 4, 5, 6] (lv' := [(4, _), (3, _), (2, _), (1, _), (0, _)]) rfl ?_
    refine vz_widen (ce' := ce + 3) (sl' := sl + 18) (show ce + 3 + 0 + 0 ≤ ce + 3 by omega) (show sl + 18 + 0 + 0 ≤ sl + 18 by omega) ?_
    exact kk _ _ _ (zV_gift hV _ _ _) (Hc_dn hd2 hc1) (Hl_dn hd2 hl1) hm2 hn2
