/-! more of the law's cases. Laid by wip/whole/specs/p62.py -/
set_option maxRecDepth 100000 in
set_option maxHeartbeats 4000000 in
theorem lc_estate (l : Launch) (b : Nat) (id : Nat → ClassId) (D : va_G) (htr : l.stackTraces = false) {a L j : Nat} {xs : Nat → Int32} (hL : L ≤ 2048) (hj : j + 4 ≤ L) {g : Sg} {F : Fam} {k : Lg} (hV : zV F) (hc : Hc g F) (hl : Hl g k) (hm : Hm g F) (hn : Hn g k) {ce sl : Nat} (hce : ce + 3 ≤ 601024) (hsl : sl + 18 ≤ 7293034) (kk : ∀ (g' : Sg) (F' : Fam) (k' : Lg), zV F' → Hc g' F' → Hl g' k' → Hm g' F' → Hn g' k' → Vz l b id D m_law false (Qz b room_1) (Pz a L xs b) 85 kT (ce + 3) (sl + 18) 1203 [(4, .int (nI j)), (3, .ref (b + 84)), (2, .ref (b + 67)), (1, .ref (b + 0)), (0, .ref a)] [] g') : Vz l b id D m_law false (Qz b room_1) (Pz a L xs b) 85 kT ce sl 650 [(4, .int (nI j)), (3, .ref (b + 84)), (2, .ref (b + 67)), (1, .ref (b + 0)), (0, .ref a)] [] g := by
  refine vz_aload_n d_W_law_650 rfl ?_
  refine vz_aload_n d_W_law_651 rfl ?_
  refine vz_iload d_W_law_652 rfl ?_
  refine vz_iconst (v := 1) d_W_law_654 (by decide) ?_
  refine vz_iadd d_W_law_655 ?_
  refine vz_int (y := nI (j + 1)) (nI_add j 1) ?_
  refine vz_sld d_W_law_656 (by omega) hL ?_
  refine vz_aload_n d_W_law_657 rfl ?_
  refine vz_iload d_W_law_658 rfl ?_
  refine vz_iconst (v := 2) d_W_law_660 (by decide) ?_
  refine vz_iadd d_W_law_661 ?_
  refine vz_int (y := nI (j + 2)) (nI_add j 2) ?_
  refine vz_sld d_W_law_662 (by omega) hL ?_
  refine vz_callS (n := 3) _ _ d_W_law_663 (ct_W_estate l b id D htr hV hc hl (xs (j + 1)) (xs (j + 2))) w_539 w_540 w_541 w_0 ⟨by decide, by decide, by decide +kernel⟩ ⟨by decide, by decide⟩ rfl rfl (Nat.le_of_ble_eq_true rfl) ⟨show ce + 2 ≤ 601024 by omega, show sl + 12 ≤ 7293034 by omega⟩ (fun v663 g663 h663 => ?_)
  obtain ⟨hv1, hc1, hl1, hu1, ha1⟩ := h663
  rw [hv1]
  refine vz_istore (lv' := [(5, _), (4, _), (3, _), (2, _), (1, _), (0, _)]) d_W_law_666 (by decide) rfl ?_
  refine vz_aload_n d_W_law_668 rfl ?_
  refine vz_aload_n d_W_law_669 rfl ?_
  refine vz_iload d_W_law_670 rfl ?_
  refine vz_iconst (v := 1) d_W_law_672 (by decide) ?_
  refine vz_iadd d_W_law_673 ?_
  refine vz_int (y := nI (j + 1)) (nI_add j 1) ?_
  refine vz_sld d_W_law_674 (by omega) hL ?_
  refine vz_aload_n d_W_law_675 rfl ?_
  refine vz_iload d_W_law_676 rfl ?_
  refine vz_iconst (v := 2) d_W_law_678 (by decide) ?_
  refine vz_iadd d_W_law_679 ?_
  refine vz_int (y := nI (j + 2)) (nI_add j 2) ?_
  refine vz_sld d_W_law_680 (by omega) hL ?_
  refine vz_callV (n := 2) (C := R_M) (T := T_M) _ _ d_W_law_681 (ct_M_estate l b id D hV (Hm_up hu1 hm) (Hn_up hu1 hn) (xs (j + 1)) (xs (j + 2))) w_770 w_771 w_772 w_773 w_7 rfl ⟨by decide, by decide, by decide +kernel⟩ ⟨by decide, by decide⟩ (by decide) rfl rfl rfl rfl (Nat.le_of_ble_eq_true rfl) ⟨show ce + 2 + 0 ≤ 601024 by omega, show sl + 12 + 0 ≤ 7293034 by omega⟩ (fun v681 g681 h681 => ?_)
  obtain ⟨hv2, ht2, hm2, hn2, hd2⟩ := h681
  rw [hv2, ite_self]
  refine vz_aload_n d_W_law_684 rfl ?_
  refine vz_callV (n := 0) (C := R_M) (T := T_M) _ _ d_W_law_685 (ct_M_thrown l b id D) w_725 w_726 w_727 w_728 w_7 rfl ⟨by decide, by decide, by decide +kernel⟩ ⟨by decide, by decide⟩ (by decide) rfl rfl rfl rfl (Nat.le_of_ble_eq_true rfl) ⟨show ce + 2 + 0 + 0 ≤ 601024 by omega, show sl + 12 + 0 + 0 ≤ 7293034 by omega⟩ (fun v685 g685 h685 => ?_)
  obtain ⟨hv3, e3⟩ := h685
  rw [hv3, e3, ht2]
  refine vz_iload d_W_law_688 rfl ?_
  refine vz_icmp_eq (tgt := 695) d_W_law_690 (by decide) (fun h690 => ?_) (fun h690 => absurd h690 (fun h => h rfl))
  refine vz_goto (tgt := 1203) d_W_law_695 (by decide) ?_
  refine vz_pk [1, 2, 3, 4, 5] (lv' := [(4, _), (3, _), (2, _), (1, _), (0, _)]) rfl ?_
  refine vz_widen (ce' := ce + 3) (sl' := sl + 18) (show ce + 2 + 0 + 0 ≤ ce + 3 by omega) (show sl + 12 + 0 + 0 ≤ sl + 18 by omega) ?_
  exact kk _ _ _ (zV_estate hV _ _) (Hc_dn hd2 hc1) (Hl_dn hd2 hl1) hm2 hn2
set_option maxRecDepth 100000 in
set_option maxHeartbeats 4000000 in
theorem lc_heirs (l : Launch) (b : Nat) (id : Nat → ClassId) (D : va_G) (htr : l.stackTraces = false) {a L j : Nat} {xs : Nat → Int32} (hL : L ≤ 2048) (hj : j + 4 ≤ L) {g : Sg} {F : Fam} {k : Lg} (hV : zV F) (hc : Hc g F) (hl : Hl g k) (hm : Hm g F) (hn : Hn g k) {ce sl : Nat} (hce : ce + 3 ≤ 601024) (hsl : sl + 18 ≤ 7293034) (kk : ∀ (g' : Sg) (F' : Fam) (k' : Lg), zV F' → Hc g' F' → Hl g' k' → Hm g' F' → Hn g' k' → Vz l b id D m_law false (Qz b room_1) (Pz a L xs b) 85 kT (ce + 3) (sl + 18) 1203 [(4, .int (nI j)), (3, .ref (b + 84)), (2, .ref (b + 67)), (1, .ref (b + 0)), (0, .ref a)] [] g') : Vz l b id D m_law false (Qz b room_1) (Pz a L xs b) 85 kT ce sl 698 [(4, .int (nI j)), (3, .ref (b + 84)), (2, .ref (b + 67)), (1, .ref (b + 0)), (0, .ref a)] [] g := by
  refine vz_aload_n d_W_law_698 rfl ?_
  refine vz_aload_n d_W_law_699 rfl ?_
  refine vz_iload d_W_law_700 rfl ?_
  refine vz_iconst (v := 1) d_W_law_702 (by decide) ?_
  refine vz_iadd d_W_law_703 ?_
  refine vz_int (y := nI (j + 1)) (nI_add j 1) ?_
  refine vz_sld d_W_law_704 (by omega) hL ?_
  refine vz_aload_n d_W_law_705 rfl ?_
  refine vz_callS (n := 3) _ _ d_W_law_706 (ct_W_heirs l b id D htr hV hc hl (xs (j + 1))) w_547 w_548 w_549 w_0 ⟨by decide, by decide, by decide +kernel⟩ ⟨by decide, by decide⟩ rfl rfl (Nat.le_of_ble_eq_true rfl) ⟨show ce + 2 ≤ 601024 by omega, show sl + 12 ≤ 7293034 by omega⟩ (fun v706 g706 h706 => ?_)
  obtain ⟨hv1, hc1, hl1, hu1, ha1⟩ := h706
  rw [hv1]
  refine vz_istore (lv' := [(5, _), (4, _), (3, _), (2, _), (1, _), (0, _)]) d_W_law_709 (by decide) rfl ?_
  refine vz_aload_n d_W_law_711 rfl ?_
  refine vz_aload_n d_W_law_712 rfl ?_
  refine vz_iload d_W_law_713 rfl ?_
  refine vz_iconst (v := 1) d_W_law_715 (by decide) ?_
  refine vz_iadd d_W_law_716 ?_
  refine vz_int (y := nI (j + 1)) (nI_add j 1) ?_
  refine vz_sld d_W_law_717 (by omega) hL ?_
  refine vz_callV (n := 1) (C := R_M) (T := T_M) _ _ d_W_law_718 (ct_M_heirs l b id D hV (Hm_up hu1 hm) (Hn_up hu1 hn) (xs (j + 1))) w_774 w_775 w_776 w_777 w_7 rfl ⟨by decide, by decide, by decide +kernel⟩ ⟨by decide, by decide⟩ (by decide) rfl rfl rfl rfl (Nat.le_of_ble_eq_true rfl) ⟨show ce + 2 + 0 ≤ 601024 by omega, show sl + 12 + 0 ≤ 7293034 by omega⟩ (fun v718 g718 h718 => ?_)
  obtain ⟨hv2, ht2, hm2, hn2, hd2⟩ := h718
  rw [hv2, mP_i]
  refine vz_istore (lv' := [(6, _), (5, _), (4, _), (3, _), (2, _), (1, _), (0, _)]) d_W_law_721 (by decide) rfl ?_
  refine vz_aload_n d_W_law_723 rfl ?_
  refine vz_callV (n := 0) (C := R_M) (T := T_M) _ _ d_W_law_724 (ct_M_thrown l b id D) w_725 w_726 w_727 w_728 w_7 rfl ⟨by decide, by decide, by decide +kernel⟩ ⟨by decide, by decide⟩ (by decide) rfl rfl rfl rfl (Nat.le_of_ble_eq_true rfl) ⟨show ce + 2 + 0 + 0 ≤ 601024 by omega, show sl + 12 + 0 + 0 ≤ 7293034 by omega⟩ (fun v724 g724 h724 => ?_)
  obtain ⟨hv3, e3⟩ := h724
  rw [hv3, e3, ht2]
  refine vz_iload d_W_law_727 rfl ?_
  refine vz_icmp_eq (tgt := 734) d_W_law_729 (by decide) (fun h729 => ?_) (fun h729 => absurd h729 (fun h => h rfl))
  refine vz_iload d_W_law_734 rfl ?_
  refine vz_if_ne (tgt := 751) d_W_law_736 (by decide) (fun h736 => ?_) (fun h736 => ?_)
  · refine vz_goto (tgt := 1203) d_W_law_751 (by decide) ?_
    refine vz_pk [2, 3, 4, 5, 6] (lv' := [(4, _), (3, _), (2, _), (1, _), (0, _)]) rfl ?_
    refine vz_widen (ce' := ce + 3) (sl' := sl + 18) (show ce + 2 + 0 + 0 ≤ ce + 3 by omega) (show sl + 12 + 0 + 0 ≤ sl + 18 by omega) ?_
    exact kk _ _ _ hV (Hc_dn hd2 hc1) (Hl_dn hd2 hl1) hm2 hn2
  · have hC0 : k_dead F (xs (j + 1)) = 0 := k0 (by unfold k_dead; (repeat' split) <;> omega) h736
    refine vz_aload_n d_W_law_739 rfl ?_
    refine vz_iconst (v := 0) d_W_law_740 (by decide) ?_
    refine vz_lald d_W_law_741 (by decide) rfl (show (0 : Int32) = nI 0 by decide) (by decide) ?_
    refine vz_long (y := (nI (zcn (zsh F (zi (xs (j + 1))) 1) (zn F))).toInt64) (by rw [(hd2 84 (Or.inr (by decide))).2]; exact ha1 hC0 _ rfl) ?_
    refine vz_iload d_W_law_742 rfl ?_
    refine vz_i2l d_W_law_744 (show _ = (nI (zcn (zsh F (zi (xs (j + 1))) 1) (zn F))).toInt64 by rw [if_pos hC0]) ?_
    refine vz_lcmp d_W_law_745 ?_
    refine vz_if_eq (tgt := 751) d_W_law_746 (by decide) (fun h746 => ?_) (fun h746 => absurd h746 (fun h => h (lg_self _)))
    refine vz_goto (tgt := 1203) d_W_law_751 (by decide) ?_
    refine vz_pk [2, 3, 4, 5, 6] (lv' := [(4, _), (3, _), (2, _), (1, _), (0, _)]) rfl ?_
    refine vz_widen (ce' := ce + 3) (sl' := sl + 18) (show ce + 2 + 0 + 0 ≤ ce + 3 by omega) (show sl + 12 + 0 + 0 ≤ sl + 18 by omega) ?_
    exact kk _ _ _ hV (Hc_dn hd2 hc1) (Hl_dn hd2 hl1) hm2 hn2
set_option maxRecDepth 100000 in
set_option maxHeartbeats 4000000 in
theorem lc_heir (l : Launch) (b : Nat) (id : Nat → ClassId) (D : va_G) (htr : l.stackTraces = false) {a L j : Nat} {xs : Nat → Int32} (hL : L ≤ 2048) (hj : j + 4 ≤ L) {g : Sg} {F : Fam} {k : Lg} (hV : zV F) (hc : Hc g F) (hl : Hl g k) (hm : Hm g F) (hn : Hn g k) {ce sl : Nat} (hce : ce + 3 ≤ 601024) (hsl : sl + 18 ≤ 7293034) (kk : ∀ (g' : Sg) (F' : Fam) (k' : Lg), zV F' → Hc g' F' → Hl g' k' → Hm g' F' → Hn g' k' → Vz l b id D m_law false (Qz b room_1) (Pz a L xs b) 85 kT (ce + 3) (sl + 18) 1203 [(4, .int (nI j)), (3, .ref (b + 84)), (2, .ref (b + 67)), (1, .ref (b + 0)), (0, .ref a)] [] g') : Vz l b id D m_law false (Qz b room_1) (Pz a L xs b) 85 kT ce sl 754 [(4, .int (nI j)), (3, .ref (b + 84)), (2, .ref (b + 67)), (1, .ref (b + 0)), (0, .ref a)] [] g := by
  refine vz_aload_n d_W_law_754 rfl ?_
  refine vz_aload_n d_W_law_755 rfl ?_
  refine vz_iload d_W_law_756 rfl ?_
  refine vz_iconst (v := 1) d_W_law_758 (by decide) ?_
  refine vz_iadd d_W_law_759 ?_
  refine vz_int (y := nI (j + 1)) (nI_add j 1) ?_
  refine vz_sld d_W_law_760 (by omega) hL ?_
  refine vz_aload_n d_W_law_761 rfl ?_
  refine vz_iload d_W_law_762 rfl ?_
  refine vz_iconst (v := 2) d_W_law_764 (by decide) ?_
  refine vz_iadd d_W_law_765 ?_
  refine vz_int (y := nI (j + 2)) (nI_add j 2) ?_
  refine vz_sld d_W_law_766 (by omega) hL ?_
  refine vz_aload_n d_W_law_767 rfl ?_
  refine vz_callS (n := 4) _ _ d_W_law_768 (ct_W_heir l b id D htr hV hc hl (xs (j + 1)) (xs (j + 2))) w_565 w_566 w_567 w_0 ⟨by decide, by decide, by decide +kernel⟩ ⟨by decide, by decide⟩ rfl rfl (Nat.le_of_ble_eq_true rfl) ⟨show ce + 2 ≤ 601024 by omega, show sl + 12 ≤ 7293034 by omega⟩ (fun v768 g768 h768 => ?_)
  obtain ⟨hv1, hc1, hl1, hu1, ha1⟩ := h768
  rw [hv1]
  refine vz_istore (lv' := [(5, _), (4, _), (3, _), (2, _), (1, _), (0, _)]) d_W_law_771 (by decide) rfl ?_
  refine vz_aload_n d_W_law_773 rfl ?_
  refine vz_aload_n d_W_law_774 rfl ?_
  refine vz_iload d_W_law_775 rfl ?_
  refine vz_iconst (v := 1) d_W_law_777 (by decide) ?_
  refine vz_iadd d_W_law_778 ?_
  refine vz_int (y := nI (j + 1)) (nI_add j 1) ?_
  refine vz_sld d_W_law_779 (by omega) hL ?_
  refine vz_aload_n d_W_law_780 rfl ?_
  refine vz_iload d_W_law_781 rfl ?_
  refine vz_iconst (v := 2) d_W_law_783 (by decide) ?_
  refine vz_iadd d_W_law_784 ?_
  refine vz_int (y := nI (j + 2)) (nI_add j 2) ?_
  refine vz_sld d_W_law_785 (by omega) hL ?_
  refine vz_callV (n := 2) (C := R_M) (T := T_M) _ _ d_W_law_786 (ct_M_heir l b id D hV (Hm_up hu1 hm) (Hn_up hu1 hn) (xs (j + 1)) (xs (j + 2))) w_813 w_814 w_815 w_816 w_7 rfl ⟨by decide, by decide, by decide +kernel⟩ ⟨by decide, by decide⟩ (by decide) rfl rfl rfl rfl (Nat.le_of_ble_eq_true rfl) ⟨show ce + 2 + 0 ≤ 601024 by omega, show sl + 12 + 0 ≤ 7293034 by omega⟩ (fun v786 g786 h786 => ?_)
  obtain ⟨hv2, ht2, hm2, hn2, hd2⟩ := h786
  rw [hv2, mP_i]
  refine vz_istore (lv' := [(6, _), (5, _), (4, _), (3, _), (2, _), (1, _), (0, _)]) d_W_law_789 (by decide) rfl ?_
  refine vz_aload_n d_W_law_791 rfl ?_
  refine vz_callV (n := 0) (C := R_M) (T := T_M) _ _ d_W_law_792 (ct_M_thrown l b id D) w_725 w_726 w_727 w_728 w_7 rfl ⟨by decide, by decide, by decide +kernel⟩ ⟨by decide, by decide⟩ (by decide) rfl rfl rfl rfl (Nat.le_of_ble_eq_true rfl) ⟨show ce + 2 + 0 + 0 ≤ 601024 by omega, show sl + 12 + 0 + 0 ≤ 7293034 by omega⟩ (fun v792 g792 h792 => ?_)
  obtain ⟨hv3, e3⟩ := h792
  rw [hv3, e3, ht2]
  refine vz_iload d_W_law_795 rfl ?_
  refine vz_icmp_eq (tgt := 802) d_W_law_797 (by decide) (fun h797 => ?_) (fun h797 => absurd h797 (fun h => h rfl))
  refine vz_iload d_W_law_802 rfl ?_
  refine vz_if_ne (tgt := 819) d_W_law_804 (by decide) (fun h804 => ?_) (fun h804 => ?_)
  · refine vz_goto (tgt := 1203) d_W_law_819 (by decide) ?_
    refine vz_pk [2, 3, 4, 5, 6] (lv' := [(4, _), (3, _), (2, _), (1, _), (0, _)]) rfl ?_
    refine vz_widen (ce' := ce + 3) (sl' := sl + 18) (show ce + 2 + 0 + 0 ≤ ce + 3 by omega) (show sl + 12 + 0 + 0 ≤ sl + 18 by omega) ?_
    exact kk _ _ _ hV (Hc_dn hd2 hc1) (Hl_dn hd2 hl1) hm2 hn2
  · have hC0 : k_dead F (xs (j + 1)) = 0 := k0 (by unfold k_dead; (repeat' split) <;> omega) h804
    refine vz_aload_n d_W_law_807 rfl ?_
    refine vz_iconst (v := 0) d_W_law_808 (by decide) ?_
    refine vz_lald d_W_law_809 (by decide) rfl (show (0 : Int32) = nI 0 by decide) (by decide) ?_
    refine vz_long (y := (eO (ztk (zsh F (zi (xs (j + 1))) 1) (zn F) (xs (j + 2)))).toInt64) (by rw [(hd2 84 (Or.inr (by decide))).2]; exact ha1 hC0 _ rfl) ?_
    refine vz_iload d_W_law_810 rfl ?_
    refine vz_i2l d_W_law_812 (show _ = (eO (ztk (zsh F (zi (xs (j + 1))) 1) (zn F) (xs (j + 2)))).toInt64 by rw [if_pos hC0]) ?_
    refine vz_lcmp d_W_law_813 ?_
    refine vz_if_eq (tgt := 819) d_W_law_814 (by decide) (fun h814 => ?_) (fun h814 => absurd h814 (fun h => h (lg_self _)))
    refine vz_goto (tgt := 1203) d_W_law_819 (by decide) ?_
    refine vz_pk [2, 3, 4, 5, 6] (lv' := [(4, _), (3, _), (2, _), (1, _), (0, _)]) rfl ?_
    refine vz_widen (ce' := ce + 3) (sl' := sl + 18) (show ce + 2 + 0 + 0 ≤ ce + 3 by omega) (show sl + 12 + 0 + 0 ≤ sl + 18 by omega) ?_
    exact kk _ _ _ hV (Hc_dn hd2 hc1) (Hl_dn hd2 hl1) hm2 hn2
set_option maxRecDepth 100000 in
set_option maxHeartbeats 4000000 in
theorem lc_share (l : Launch) (b : Nat) (id : Nat → ClassId) (D : va_G) (htr : l.stackTraces = false) {a L j : Nat} {xs : Nat → Int32} (hL : L ≤ 2048) (hj : j + 4 ≤ L) {g : Sg} {F : Fam} {k : Lg} (hV : zV F) (hc : Hc g F) (hl : Hl g k) (hm : Hm g F) (hn : Hn g k) {ce sl : Nat} (hce : ce + 3 ≤ 601024) (hsl : sl + 18 ≤ 7293034) (kk : ∀ (g' : Sg) (F' : Fam) (k' : Lg), zV F' → Hc g' F' → Hl g' k' → Hm g' F' → Hn g' k' → Vz l b id D m_law false (Qz b room_1) (Pz a L xs b) 85 kT (ce + 3) (sl + 18) 1203 [(4, .int (nI j)), (3, .ref (b + 84)), (2, .ref (b + 67)), (1, .ref (b + 0)), (0, .ref a)] [] g') : Vz l b id D m_law false (Qz b room_1) (Pz a L xs b) 85 kT ce sl 822 [(4, .int (nI j)), (3, .ref (b + 84)), (2, .ref (b + 67)), (1, .ref (b + 0)), (0, .ref a)] [] g := by
  refine vz_aload_n d_W_law_822 rfl ?_
  refine vz_aload_n d_W_law_823 rfl ?_
  refine vz_iload d_W_law_824 rfl ?_
  refine vz_iconst (v := 1) d_W_law_826 (by decide) ?_
  refine vz_iadd d_W_law_827 ?_
  refine vz_int (y := nI (j + 1)) (nI_add j 1) ?_
  refine vz_sld d_W_law_828 (by omega) hL ?_
  refine vz_aload_n d_W_law_829 rfl ?_
  refine vz_iload d_W_law_830 rfl ?_
  refine vz_iconst (v := 2) d_W_law_832 (by decide) ?_
  refine vz_iadd d_W_law_833 ?_
  refine vz_int (y := nI (j + 2)) (nI_add j 2) ?_
  refine vz_sld d_W_law_834 (by omega) hL ?_
  refine vz_aload_n d_W_law_835 rfl ?_
  refine vz_callS (n := 4) _ _ d_W_law_836 (ct_W_share l b id D htr hV hc hl (xs (j + 1)) (xs (j + 2))) w_576 w_577 w_578 w_0 ⟨by decide, by decide, by decide +kernel⟩ ⟨by decide, by decide⟩ rfl rfl (Nat.le_of_ble_eq_true rfl) ⟨show ce + 3 ≤ 601024 by omega, show sl + 18 ≤ 7293034 by omega⟩ (fun v836 g836 h836 => ?_)
  obtain ⟨hv1, hc1, hl1, hu1, ha1⟩ := h836
  rw [hv1]
  refine vz_istore (lv' := [(5, _), (4, _), (3, _), (2, _), (1, _), (0, _)]) d_W_law_839 (by decide) rfl ?_
  refine vz_aload_n d_W_law_841 rfl ?_
  refine vz_aload_n d_W_law_842 rfl ?_
  refine vz_iload d_W_law_843 rfl ?_
  refine vz_iconst (v := 1) d_W_law_845 (by decide) ?_
  refine vz_iadd d_W_law_846 ?_
  refine vz_int (y := nI (j + 1)) (nI_add j 1) ?_
  refine vz_sld d_W_law_847 (by omega) hL ?_
  refine vz_aload_n d_W_law_848 rfl ?_
  refine vz_iload d_W_law_849 rfl ?_
  refine vz_iconst (v := 2) d_W_law_851 (by decide) ?_
  refine vz_iadd d_W_law_852 ?_
  refine vz_int (y := nI (j + 2)) (nI_add j 2) ?_
  refine vz_sld d_W_law_853 (by omega) hL ?_
  refine vz_callV (n := 2) (C := R_M) (T := T_M) _ _ d_W_law_854 (ct_M_share l b id D hV (Hm_up hu1 hm) (Hn_up hu1 hn) (xs (j + 1)) (xs (j + 2))) w_817 w_818 w_819 w_820 w_7 rfl ⟨by decide, by decide, by decide +kernel⟩ ⟨by decide, by decide⟩ (by decide) rfl rfl rfl rfl (Nat.le_of_ble_eq_true rfl) ⟨show ce + 3 + 0 ≤ 601024 by omega, show sl + 18 + 0 ≤ 7293034 by omega⟩ (fun v854 g854 h854 => ?_)
  obtain ⟨hv2, ht2, hm2, hn2, hd2⟩ := h854
  rw [hv2, mP_l]
  refine vz_lstore (lv' := [(6, _), (5, _), (4, _), (3, _), (2, _), (1, _), (0, _)]) d_W_law_857 (by decide) rfl ?_
  refine vz_aload_n d_W_law_859 rfl ?_
  refine vz_callV (n := 0) (C := R_M) (T := T_M) _ _ d_W_law_860 (ct_M_thrown l b id D) w_725 w_726 w_727 w_728 w_7 rfl ⟨by decide, by decide, by decide +kernel⟩ ⟨by decide, by decide⟩ (by decide) rfl rfl rfl rfl (Nat.le_of_ble_eq_true rfl) ⟨show ce + 3 + 0 + 0 ≤ 601024 by omega, show sl + 18 + 0 + 0 ≤ 7293034 by omega⟩ (fun v860 g860 h860 => ?_)
  obtain ⟨hv3, e3⟩ := h860
  rw [hv3, e3, ht2]
  refine vz_iload d_W_law_863 rfl ?_
  refine vz_icmp_eq (tgt := 870) d_W_law_865 (by decide) (fun h865 => ?_) (fun h865 => absurd h865 (fun h => h rfl))
  refine vz_iload d_W_law_870 rfl ?_
  refine vz_if_ne (tgt := 886) d_W_law_872 (by decide) (fun h872 => ?_) (fun h872 => ?_)
  · refine vz_goto (tgt := 1203) d_W_law_886 (by decide) ?_
    refine vz_pk [2, 3, 4, 5, 6] (lv' := [(4, _), (3, _), (2, _), (1, _), (0, _)]) rfl ?_
    refine vz_widen (ce' := ce + 3) (sl' := sl + 18) (show ce + 3 + 0 + 0 ≤ ce + 3 by omega) (show sl + 18 + 0 + 0 ≤ sl + 18 by omega) ?_
    exact kk _ _ _ hV (Hc_dn hd2 hc1) (Hl_dn hd2 hl1) hm2 hn2
  · have hC0 : k_dead2 F (xs (j + 1)) (xs (j + 2)) = 0 := k0 (by unfold k_dead2; (repeat' split) <;> omega) h872
    refine vz_aload_n d_W_law_875 rfl ?_
    refine vz_iconst (v := 0) d_W_law_876 (by decide) ?_
    refine vz_lald d_W_law_877 (by decide) rfl (show (0 : Int32) = nI 0 by decide) (by decide) ?_
    refine vz_long (y := zfr (zsh F (zi (xs (j + 1))) 1 (zi (xs (j + 2)))) (4 * (8 * zpr F (zi (xs (j + 1)))))) (by rw [(hd2 84 (Or.inr (by decide))).2]; exact ha1 hC0 _ rfl) ?_
    refine vz_lload d_W_law_878 rfl ?_
    refine vz_lcmp d_W_law_880 ?_
    refine vz_if_eq (tgt := 886) d_W_law_881 (by decide) (fun h881 => ?_) (fun h881 => absurd h881 (fun h => h (by rw [if_pos hC0]; exact lg_self _)))
    refine vz_goto (tgt := 1203) d_W_law_886 (by decide) ?_
    refine vz_pk [2, 3, 4, 5, 6] (lv' := [(4, _), (3, _), (2, _), (1, _), (0, _)]) rfl ?_
    refine vz_widen (ce' := ce + 3) (sl' := sl + 18) (show ce + 3 + 0 + 0 ≤ ce + 3 by omega) (show sl + 18 + 0 + 0 ≤ sl + 18 by omega) ?_
    exact kk _ _ _ hV (Hc_dn hd2 hc1) (Hl_dn hd2 hl1) hm2 hn2
set_option maxRecDepth 100000 in
set_option maxHeartbeats 4000000 in
theorem lc_order (l : Launch) (b : Nat) (id : Nat → ClassId) (D : va_G) (htr : l.stackTraces = false) {a L j : Nat} {xs : Nat → Int32} (hL : L ≤ 2048) (hj : j + 4 ≤ L) {g : Sg} {F : Fam} {k : Lg} (hV : zV F) (hc : Hc g F) (hl : Hl g k) (hm : Hm g F) (hn : Hn g k) {ce sl : Nat} (hce : ce + 3 ≤ 601024) (hsl : sl + 18 ≤ 7293034) (kk : ∀ (g' : Sg) (F' : Fam) (k' : Lg), zV F' → Hc g' F' → Hl g' k' → Hm g' F' → Hn g' k' → Vz l b id D m_law false (Qz b room_1) (Pz a L xs b) 85 kT (ce + 3) (sl + 18) 1203 [(4, .int (nI j)), (3, .ref (b + 84)), (2, .ref (b + 67)), (1, .ref (b + 0)), (0, .ref a)] [] g') : Vz l b id D m_law false (Qz b room_1) (Pz a L xs b) 85 kT ce sl 889 [(4, .int (nI j)), (3, .ref (b + 84)), (2, .ref (b + 67)), (1, .ref (b + 0)), (0, .ref a)] [] g := by
  refine vz_aload_n d_W_law_889 rfl ?_
  refine vz_aload_n d_W_law_890 rfl ?_
  refine vz_iload d_W_law_891 rfl ?_
  refine vz_iconst (v := 1) d_W_law_893 (by decide) ?_
  refine vz_iadd d_W_law_894 ?_
  refine vz_int (y := nI (j + 1)) (nI_add j 1) ?_
  refine vz_sld d_W_law_895 (by omega) hL ?_
  refine vz_aload_n d_W_law_896 rfl ?_
  refine vz_callS (n := 3) _ _ d_W_law_897 (ct_W_order l b id D htr hV hc hl (xs (j + 1))) w_590 w_591 w_592 w_0 ⟨by decide, by decide, by decide +kernel⟩ ⟨by decide, by decide⟩ rfl rfl (Nat.le_of_ble_eq_true rfl) ⟨show ce + 2 ≤ 601024 by omega, show sl + 12 ≤ 7293034 by omega⟩ (fun v897 g897 h897 => ?_)
  obtain ⟨hv1, hc1, hl1, hu1, ha1⟩ := h897
  rw [hv1]
  refine vz_istore (lv' := [(5, _), (4, _), (3, _), (2, _), (1, _), (0, _)]) d_W_law_900 (by decide) rfl ?_
  refine vz_aload_n d_W_law_902 rfl ?_
  refine vz_aload_n d_W_law_903 rfl ?_
  refine vz_iload d_W_law_904 rfl ?_
  refine vz_iconst (v := 1) d_W_law_906 (by decide) ?_
  refine vz_iadd d_W_law_907 ?_
  refine vz_int (y := nI (j + 1)) (nI_add j 1) ?_
  refine vz_sld d_W_law_908 (by omega) hL ?_
  refine vz_callV (n := 1) (C := R_M) (T := T_M) _ _ d_W_law_909 (ct_M_order l b id D hV (Hm_up hu1 hm) (Hn_up hu1 hn) (xs (j + 1))) w_824 w_825 w_826 w_827 w_7 rfl ⟨by decide, by decide, by decide +kernel⟩ ⟨by decide, by decide⟩ (by decide) rfl rfl rfl rfl (Nat.le_of_ble_eq_true rfl) ⟨show ce + 2 + 0 ≤ 601024 by omega, show sl + 12 + 0 ≤ 7293034 by omega⟩ (fun v909 g909 h909 => ?_)
  obtain ⟨hv2, ht2, hm2, hn2, hd2⟩ := h909
  rw [hv2, mP_i]
  refine vz_istore (lv' := [(6, _), (5, _), (4, _), (3, _), (2, _), (1, _), (0, _)]) d_W_law_912 (by decide) rfl ?_
  refine vz_aload_n d_W_law_914 rfl ?_
  refine vz_callV (n := 0) (C := R_M) (T := T_M) _ _ d_W_law_915 (ct_M_thrown l b id D) w_725 w_726 w_727 w_728 w_7 rfl ⟨by decide, by decide, by decide +kernel⟩ ⟨by decide, by decide⟩ (by decide) rfl rfl rfl rfl (Nat.le_of_ble_eq_true rfl) ⟨show ce + 2 + 0 + 0 ≤ 601024 by omega, show sl + 12 + 0 + 0 ≤ 7293034 by omega⟩ (fun v915 g915 h915 => ?_)
  obtain ⟨hv3, e3⟩ := h915
  rw [hv3, e3, ht2]
  refine vz_iload d_W_law_918 rfl ?_
  refine vz_icmp_eq (tgt := 925) d_W_law_920 (by decide) (fun h920 => ?_) (fun h920 => absurd h920 (fun h => h rfl))
  refine vz_iload d_W_law_925 rfl ?_
  refine vz_if_ne (tgt := 942) d_W_law_927 (by decide) (fun h927 => ?_) (fun h927 => ?_)
  · refine vz_goto (tgt := 1203) d_W_law_942 (by decide) ?_
    refine vz_pk [2, 3, 4, 5, 6] (lv' := [(4, _), (3, _), (2, _), (1, _), (0, _)]) rfl ?_
    refine vz_widen (ce' := ce + 3) (sl' := sl + 18) (show ce + 2 + 0 + 0 ≤ ce + 3 by omega) (show sl + 12 + 0 + 0 ≤ sl + 18 by omega) ?_
    exact kk _ _ _ hV (Hc_dn hd2 hc1) (Hl_dn hd2 hl1) hm2 hn2
  · have hC0 : k_dead F (xs (j + 1)) = 0 := k0 (by unfold k_dead; (repeat' split) <;> omega) h927
    refine vz_aload_n d_W_law_930 rfl ?_
    refine vz_iconst (v := 0) d_W_law_931 (by decide) ?_
    refine vz_lald d_W_law_932 (by decide) rfl (show (0 : Int32) = nI 0 by decide) (by decide) ?_
    refine vz_long (y := (nI (zt F (zi (xs (j + 1))))).toInt64) (by rw [(hd2 84 (Or.inr (by decide))).2]; exact ha1 hC0 _ rfl) ?_
    refine vz_iload d_W_law_933 rfl ?_
    refine vz_i2l d_W_law_935 (show _ = (nI (zt F (zi (xs (j + 1))))).toInt64 by rw [if_pos hC0]) ?_
    refine vz_lcmp d_W_law_936 ?_
    refine vz_if_eq (tgt := 942) d_W_law_937 (by decide) (fun h937 => ?_) (fun h937 => absurd h937 (fun h => h (lg_self _)))
    refine vz_goto (tgt := 1203) d_W_law_942 (by decide) ?_
    refine vz_pk [2, 3, 4, 5, 6] (lv' := [(4, _), (3, _), (2, _), (1, _), (0, _)]) rfl ?_
    refine vz_widen (ce' := ce + 3) (sl' := sl + 18) (show ce + 2 + 0 + 0 ≤ ce + 3 by omega) (show sl + 12 + 0 + 0 ≤ sl + 18 by omega) ?_
    exact kk _ _ _ hV (Hc_dn hd2 hc1) (Hl_dn hd2 hl1) hm2 hn2
set_option maxRecDepth 100000 in
set_option maxHeartbeats 4000000 in
theorem lc_stem (l : Launch) (b : Nat) (id : Nat → ClassId) (D : va_G) (htr : l.stackTraces = false) {a L j : Nat} {xs : Nat → Int32} (hL : L ≤ 2048) (hj : j + 4 ≤ L) {g : Sg} {F : Fam} {k : Lg} (hV : zV F) (hc : Hc g F) (hl : Hl g k) (hm : Hm g F) (hn : Hn g k) {ce sl : Nat} (hce : ce + 3 ≤ 601024) (hsl : sl + 18 ≤ 7293034) (kk : ∀ (g' : Sg) (F' : Fam) (k' : Lg), zV F' → Hc g' F' → Hl g' k' → Hm g' F' → Hn g' k' → Vz l b id D m_law false (Qz b room_1) (Pz a L xs b) 85 kT (ce + 3) (sl + 18) 1203 [(4, .int (nI j)), (3, .ref (b + 84)), (2, .ref (b + 67)), (1, .ref (b + 0)), (0, .ref a)] [] g') : Vz l b id D m_law false (Qz b room_1) (Pz a L xs b) 85 kT ce sl 945 [(4, .int (nI j)), (3, .ref (b + 84)), (2, .ref (b + 67)), (1, .ref (b + 0)), (0, .ref a)] [] g := by
  refine vz_aload_n d_W_law_945 rfl ?_
  refine vz_aload_n d_W_law_946 rfl ?_
  refine vz_iload d_W_law_947 rfl ?_
  refine vz_iconst (v := 1) d_W_law_949 (by decide) ?_
  refine vz_iadd d_W_law_950 ?_
  refine vz_int (y := nI (j + 1)) (nI_add j 1) ?_
  refine vz_sld d_W_law_951 (by omega) hL ?_
  refine vz_aload_n d_W_law_952 rfl ?_
  refine vz_iload d_W_law_953 rfl ?_
  refine vz_iconst (v := 2) d_W_law_955 (by decide) ?_
  refine vz_iadd d_W_law_956 ?_
  refine vz_int (y := nI (j + 2)) (nI_add j 2) ?_
  refine vz_sld d_W_law_957 (by omega) hL ?_
  refine vz_aload_n d_W_law_958 rfl ?_
  refine vz_callS (n := 4) _ _ d_W_law_959 (ct_W_stem l b id D htr hV hc hl (xs (j + 1)) (xs (j + 2))) w_597 w_598 w_599 w_0 ⟨by decide, by decide, by decide +kernel⟩ ⟨by decide, by decide⟩ rfl rfl (Nat.le_of_ble_eq_true rfl) ⟨show ce + 3 ≤ 601024 by omega, show sl + 18 ≤ 7293034 by omega⟩ (fun v959 g959 h959 => ?_)
  obtain ⟨hv1, hc1, hl1, hu1, ha1⟩ := h959
  rw [hv1]
  refine vz_istore (lv' := [(5, _), (4, _), (3, _), (2, _), (1, _), (0, _)]) d_W_law_962 (by decide) rfl ?_
  refine vz_aload_n d_W_law_964 rfl ?_
  refine vz_aload_n d_W_law_965 rfl ?_
  refine vz_iload d_W_law_966 rfl ?_
  refine vz_iconst (v := 1) d_W_law_968 (by decide) ?_
  refine vz_iadd d_W_law_969 ?_
  refine vz_int (y := nI (j + 1)) (nI_add j 1) ?_
  refine vz_sld d_W_law_970 (by omega) hL ?_
  refine vz_aload_n d_W_law_971 rfl ?_
  refine vz_iload d_W_law_972 rfl ?_
  refine vz_iconst (v := 2) d_W_law_974 (by decide) ?_
  refine vz_iadd d_W_law_975 ?_
  refine vz_int (y := nI (j + 2)) (nI_add j 2) ?_
  refine vz_sld d_W_law_976 (by omega) hL ?_
  refine vz_callV (n := 2) (C := R_M) (T := T_M) _ _ d_W_law_977 (ct_M_stem l b id D hV (Hm_up hu1 hm) (Hn_up hu1 hn) (xs (j + 1)) (xs (j + 2))) w_828 w_829 w_830 w_831 w_7 rfl ⟨by decide, by decide, by decide +kernel⟩ ⟨by decide, by decide⟩ (by decide) rfl rfl rfl rfl (Nat.le_of_ble_eq_true rfl) ⟨show ce + 3 + 0 ≤ 601024 by omega, show sl + 18 + 0 ≤ 7293034 by omega⟩ (fun v977 g977 h977 => ?_)
  obtain ⟨hv2, ht2, hm2, hn2, hd2⟩ := h977
  rw [hv2, mP_i]
  refine vz_istore (lv' := [(6, _), (5, _), (4, _), (3, _), (2, _), (1, _), (0, _)]) d_W_law_980 (by decide) rfl ?_
  refine vz_aload_n d_W_law_982 rfl ?_
  refine vz_callV (n := 0) (C := R_M) (T := T_M) _ _ d_W_law_983 (ct_M_thrown l b id D) w_725 w_726 w_727 w_728 w_7 rfl ⟨by decide, by decide, by decide +kernel⟩ ⟨by decide, by decide⟩ (by decide) rfl rfl rfl rfl (Nat.le_of_ble_eq_true rfl) ⟨show ce + 3 + 0 + 0 ≤ 601024 by omega, show sl + 18 + 0 + 0 ≤ 7293034 by omega⟩ (fun v983 g983 h983 => ?_)
  obtain ⟨hv3, e3⟩ := h983
  rw [hv3, e3, ht2]
  refine vz_iload d_W_law_986 rfl ?_
  refine vz_icmp_eq (tgt := 993) d_W_law_988 (by decide) (fun h988 => ?_) (fun h988 => absurd h988 (fun h => h rfl))
  refine vz_iload d_W_law_993 rfl ?_
  refine vz_if_ne (tgt := 1010) d_W_law_995 (by decide) (fun h995 => ?_) (fun h995 => ?_)
  · refine vz_goto (tgt := 1203) d_W_law_1010 (by decide) ?_
    refine vz_pk [2, 3, 4, 5, 6] (lv' := [(4, _), (3, _), (2, _), (1, _), (0, _)]) rfl ?_
    refine vz_widen (ce' := ce + 3) (sl' := sl + 18) (show ce + 3 + 0 + 0 ≤ ce + 3 by omega) (show sl + 18 + 0 + 0 ≤ sl + 18 by omega) ?_
    exact kk _ _ _ hV (Hc_dn hd2 hc1) (Hl_dn hd2 hl1) hm2 hn2
  · have hC0 : k_dead2 F (xs (j + 1)) (xs (j + 2)) = 0 := k0 (by unfold k_dead2; (repeat' split) <;> omega) h995
    refine vz_aload_n d_W_law_998 rfl ?_
    refine vz_iconst (v := 0) d_W_law_999 (by decide) ?_
    refine vz_lald d_W_law_1000 (by decide) rfl (show (0 : Int32) = nI 0 by decide) (by decide) ?_
    refine vz_long (y := (eO (zst F (zi (xs (j + 1))) (zi (xs (j + 2))))).toInt64) (by rw [(hd2 84 (Or.inr (by decide))).2]; exact ha1 hC0 _ rfl) ?_
    refine vz_iload d_W_law_1001 rfl ?_
    refine vz_i2l d_W_law_1003 (show _ = (eO (zst F (zi (xs (j + 1))) (zi (xs (j + 2))))).toInt64 by rw [if_pos hC0]) ?_
    refine vz_lcmp d_W_law_1004 ?_
    refine vz_if_eq (tgt := 1010) d_W_law_1005 (by decide) (fun h1005 => ?_) (fun h1005 => absurd h1005 (fun h => h (lg_self _)))
    refine vz_goto (tgt := 1203) d_W_law_1010 (by decide) ?_
    refine vz_pk [2, 3, 4, 5, 6] (lv' := [(4, _), (3, _), (2, _), (1, _), (0, _)]) rfl ?_
    refine vz_widen (ce' := ce + 3) (sl' := sl + 18) (show ce + 3 + 0 + 0 ≤ ce + 3 by omega) (show sl + 18 + 0 + 0 ≤ sl + 18 by omega) ?_
    exact kk _ _ _ hV (Hc_dn hd2 hc1) (Hl_dn hd2 hl1) hm2 hn2
set_option maxRecDepth 100000 in
set_option maxHeartbeats 4000000 in
theorem lc_settle (l : Launch) (b : Nat) (id : Nat → ClassId) (D : va_G) (htr : l.stackTraces = false) {a L j : Nat} {xs : Nat → Int32} (hL : L ≤ 2048) (hj : j + 4 ≤ L) {g : Sg} {F : Fam} {k : Lg} (hV : zV F) (hc : Hc g F) (hl : Hl g k) (hm : Hm g F) (hn : Hn g k) {ce sl : Nat} (hce : ce + 3 ≤ 601024) (hsl : sl + 18 ≤ 7293034) (kk : ∀ (g' : Sg) (F' : Fam) (k' : Lg), zV F' → Hc g' F' → Hl g' k' → Hm g' F' → Hn g' k' → Vz l b id D m_law false (Qz b room_1) (Pz a L xs b) 85 kT (ce + 3) (sl + 18) 1203 [(4, .int (nI j)), (3, .ref (b + 84)), (2, .ref (b + 67)), (1, .ref (b + 0)), (0, .ref a)] [] g') : Vz l b id D m_law false (Qz b room_1) (Pz a L xs b) 85 kT ce sl 1013 [(4, .int (nI j)), (3, .ref (b + 84)), (2, .ref (b + 67)), (1, .ref (b + 0)), (0, .ref a)] [] g := by
  refine vz_aload_n d_W_law_1013 rfl ?_
  refine vz_callV (n := 0) (C := R_S) (T := T_S) _ _ d_W_law_1014 (ct_S_settle l b id D hV hc) w_223 w_224 w_225 w_226 w_1 rfl ⟨by decide, by decide, by decide +kernel⟩ ⟨by decide, by decide⟩ (by decide) rfl rfl rfl rfl (Nat.le_of_ble_eq_true rfl) ⟨show ce + 0 ≤ 601024 by omega, show sl + 0 ≤ 7293034 by omega⟩ (fun v1014 g1014 h1014 => ?_)
  obtain ⟨-, hv1, hc1, hl1, hu1⟩ := h1014
  rw [hv1]
  refine vz_aload_n d_W_law_1017 rfl ?_
  refine vz_callV (n := 0) (C := R_M) (T := T_M) _ _ d_W_law_1018 (ct_M_settle l b id D hV.1 (Hm_up (fun q h1 _ => hu1 q h1) hm)) w_833 w_834 w_835 w_836 w_7 rfl ⟨by decide, by decide, by decide +kernel⟩ ⟨by decide, by decide⟩ (by decide) rfl rfl rfl rfl (Nat.le_of_ble_eq_true rfl) ⟨show ce + 0 + 0 ≤ 601024 by omega, show sl + 0 + 0 ≤ 7293034 by omega⟩ (fun v1018 g1018 h1018 => ?_)
  obtain ⟨hv2, ht2, hm2, hn2, hd2⟩ := h1018
  rw [hv2, if_pos rfl]
  refine vz_icmp_eq (tgt := 1203) d_W_law_1021 (by decide) (fun h1021 => ?_) (fun h1021 => absurd h1021 (fun h => h rfl))
  refine vz_widen (ce' := ce + 3) (sl' := sl + 18) (show ce + 0 + 0 ≤ ce + 3 by omega) (show sl + 0 + 0 ≤ sl + 18 by omega) ?_
  exact kk _ _ _ hV (Hc_dn hd2 hc1) (Hl_dn hd2 hl1) hm2 hn2
set_option maxRecDepth 100000 in
set_option maxHeartbeats 4000000 in
theorem lc_paid (l : Launch) (b : Nat) (id : Nat → ClassId) (D : va_G) (htr : l.stackTraces = false) {a L j : Nat} {xs : Nat → Int32} (hL : L ≤ 2048) (hj : j + 4 ≤ L) {g : Sg} {F : Fam} {k : Lg} (hV : zV F) (hc : Hc g F) (hl : Hl g k) (hm : Hm g F) (hn : Hn g k) {ce sl : Nat} (hce : ce + 3 ≤ 601024) (hsl : sl + 18 ≤ 7293034) (kk : ∀ (g' : Sg) (F' : Fam) (k' : Lg), zV F' → Hc g' F' → Hl g' k' → Hm g' F' → Hn g' k' → Vz l b id D m_law false (Qz b room_1) (Pz a L xs b) 85 kT (ce + 3) (sl + 18) 1203 [(4, .int (nI j)), (3, .ref (b + 84)), (2, .ref (b + 67)), (1, .ref (b + 0)), (0, .ref a)] [] g') : Vz l b id D m_law false (Qz b room_1) (Pz a L xs b) 85 kT ce sl 1026 [(4, .int (nI j)), (3, .ref (b + 84)), (2, .ref (b + 67)), (1, .ref (b + 0)), (0, .ref a)] [] g := by
  refine vz_aload_n d_W_law_1026 rfl ?_
  refine vz_aload_n d_W_law_1027 rfl ?_
  refine vz_iload d_W_law_1028 rfl ?_
  refine vz_iconst (v := 1) d_W_law_1030 (by decide) ?_
  refine vz_iadd d_W_law_1031 ?_
  refine vz_int (y := nI (j + 1)) (nI_add j 1) ?_
  refine vz_sld d_W_law_1032 (by omega) hL ?_
  refine vz_aload_n d_W_law_1033 rfl ?_
  refine vz_iload d_W_law_1034 rfl ?_
  refine vz_iconst (v := 2) d_W_law_1036 (by decide) ?_
  refine vz_iadd d_W_law_1037 ?_
  refine vz_int (y := nI (j + 2)) (nI_add j 2) ?_
  refine vz_sld d_W_law_1038 (by omega) hL ?_
  refine vz_aload_n d_W_law_1039 rfl ?_
  refine vz_callS (n := 4) _ _ d_W_law_1040 (ct_W_paid l b id D htr hV hc hl (xs (j + 1)) (xs (j + 2))) w_624 w_625 w_626 w_0 ⟨by decide, by decide, by decide +kernel⟩ ⟨by decide, by decide⟩ rfl rfl (Nat.le_of_ble_eq_true rfl) ⟨show ce + 2 ≤ 601024 by omega, show sl + 12 ≤ 7293034 by omega⟩ (fun v1040 g1040 h1040 => ?_)
  obtain ⟨hv1, hc1, hl1, hu1, ha1⟩ := h1040
  rw [hv1]
  refine vz_istore (lv' := [(5, _), (4, _), (3, _), (2, _), (1, _), (0, _)]) d_W_law_1043 (by decide) rfl ?_
  refine vz_aload_n d_W_law_1045 rfl ?_
  refine vz_aload_n d_W_law_1046 rfl ?_
  refine vz_iload d_W_law_1047 rfl ?_
  refine vz_iconst (v := 1) d_W_law_1049 (by decide) ?_
  refine vz_iadd d_W_law_1050 ?_
  refine vz_int (y := nI (j + 1)) (nI_add j 1) ?_
  refine vz_sld d_W_law_1051 (by omega) hL ?_
  refine vz_aload_n d_W_law_1052 rfl ?_
  refine vz_iload d_W_law_1053 rfl ?_
  refine vz_iconst (v := 2) d_W_law_1055 (by decide) ?_
  refine vz_iadd d_W_law_1056 ?_
  refine vz_int (y := nI (j + 2)) (nI_add j 2) ?_
  refine vz_sld d_W_law_1057 (by omega) hL ?_
  refine vz_callV (n := 2) (C := R_M) (T := T_M) _ _ d_W_law_1058 (ct_M_paid l b id D hV (Hm_up hu1 hm) (Hn_up hu1 hn) (xs (j + 1)) (xs (j + 2))) w_859 w_860 w_861 w_862 w_7 rfl ⟨by decide, by decide, by decide +kernel⟩ ⟨by decide, by decide⟩ (by decide) rfl rfl rfl rfl (Nat.le_of_ble_eq_true rfl) ⟨show ce + 2 + 0 ≤ 601024 by omega, show sl + 12 + 0 ≤ 7293034 by omega⟩ (fun v1058 g1058 h1058 => ?_)
  obtain ⟨hv2, ht2, hm2, hn2, hd2⟩ := h1058
  rw [hv2, mP_l]
  refine vz_lstore (lv' := [(6, _), (5, _), (4, _), (3, _), (2, _), (1, _), (0, _)]) d_W_law_1061 (by decide) rfl ?_
  refine vz_aload_n d_W_law_1063 rfl ?_
  refine vz_callV (n := 0) (C := R_M) (T := T_M) _ _ d_W_law_1064 (ct_M_thrown l b id D) w_725 w_726 w_727 w_728 w_7 rfl ⟨by decide, by decide, by decide +kernel⟩ ⟨by decide, by decide⟩ (by decide) rfl rfl rfl rfl (Nat.le_of_ble_eq_true rfl) ⟨show ce + 2 + 0 + 0 ≤ 601024 by omega, show sl + 12 + 0 + 0 ≤ 7293034 by omega⟩ (fun v1064 g1064 h1064 => ?_)
  obtain ⟨hv3, e3⟩ := h1064
  rw [hv3, e3, ht2]
  refine vz_iload d_W_law_1067 rfl ?_
  refine vz_icmp_eq (tgt := 1074) d_W_law_1069 (by decide) (fun h1069 => ?_) (fun h1069 => absurd h1069 (fun h => h rfl))
  refine vz_iload d_W_law_1074 rfl ?_
  refine vz_if_ne (tgt := 1090) d_W_law_1076 (by decide) (fun h1076 => ?_) (fun h1076 => ?_)
  · refine vz_goto (tgt := 1203) d_W_law_1090 (by decide) ?_
    refine vz_pk [2, 3, 4, 5, 6] (lv' := [(4, _), (3, _), (2, _), (1, _), (0, _)]) rfl ?_
    refine vz_widen (ce' := ce + 3) (sl' := sl + 18) (show ce + 2 + 0 + 0 ≤ ce + 3 by omega) (show sl + 12 + 0 + 0 ≤ sl + 18 by omega) ?_
    exact kk _ _ _ hV (Hc_dn hd2 hc1) (Hl_dn hd2 hl1) hm2 hn2
  · have hC0 : k_paid F (xs (j + 1)) (xs (j + 2)) = 0 := k0 (by unfold k_paid; (repeat' split) <;> omega) h1076
    refine vz_aload_n d_W_law_1079 rfl ?_
    refine vz_iconst (v := 0) d_W_law_1080 (by decide) ?_
    refine vz_lald d_W_law_1081 (by decide) rfl (show (0 : Int32) = nI 0 by decide) (by decide) ?_
    refine vz_long (y := lN (k.1 (zi (xs (j + 1))) (zpp (xs (j + 2))))) (by rw [(hd2 84 (Or.inr (by decide))).2]; exact ha1 hC0 _ rfl) ?_
    refine vz_lload d_W_law_1082 rfl ?_
    refine vz_lcmp d_W_law_1084 ?_
    refine vz_if_eq (tgt := 1090) d_W_law_1085 (by decide) (fun h1085 => ?_) (fun h1085 => absurd h1085 (fun h => h (by rw [if_pos hC0]; exact lg_self _)))
    refine vz_goto (tgt := 1203) d_W_law_1090 (by decide) ?_
    refine vz_pk [2, 3, 4, 5, 6] (lv' := [(4, _), (3, _), (2, _), (1, _), (0, _)]) rfl ?_
    refine vz_widen (ce' := ce + 3) (sl' := sl + 18) (show ce + 2 + 0 + 0 ≤ ce + 3 by omega) (show sl + 12 + 0 + 0 ≤ sl + 18 by omega) ?_
    exact kk _ _ _ hV (Hc_dn hd2 hc1) (Hl_dn hd2 hl1) hm2 hn2
set_option maxRecDepth 100000 in
set_option maxHeartbeats 4000000 in
theorem lc_total (l : Launch) (b : Nat) (id : Nat → ClassId) (D : va_G) (htr : l.stackTraces = false) {a L j : Nat} {xs : Nat → Int32} (hL : L ≤ 2048) (hj : j + 4 ≤ L) {g : Sg} {F : Fam} {k : Lg} (hV : zV F) (hc : Hc g F) (hl : Hl g k) (hm : Hm g F) (hn : Hn g k) {ce sl : Nat} (hce : ce + 3 ≤ 601024) (hsl : sl + 18 ≤ 7293034) (kk : ∀ (g' : Sg) (F' : Fam) (k' : Lg), zV F' → Hc g' F' → Hl g' k' → Hm g' F' → Hn g' k' → Vz l b id D m_law false (Qz b room_1) (Pz a L xs b) 85 kT (ce + 3) (sl + 18) 1203 [(4, .int (nI j)), (3, .ref (b + 84)), (2, .ref (b + 67)), (1, .ref (b + 0)), (0, .ref a)] [] g') : Vz l b id D m_law false (Qz b room_1) (Pz a L xs b) 85 kT ce sl 1093 [(4, .int (nI j)), (3, .ref (b + 84)), (2, .ref (b + 67)), (1, .ref (b + 0)), (0, .ref a)] [] g := by
  refine vz_aload_n d_W_law_1093 rfl ?_
  refine vz_aload_n d_W_law_1094 rfl ?_
  refine vz_iload d_W_law_1095 rfl ?_
  refine vz_iconst (v := 1) d_W_law_1097 (by decide) ?_
  refine vz_iadd d_W_law_1098 ?_
  refine vz_int (y := nI (j + 1)) (nI_add j 1) ?_
  refine vz_sld d_W_law_1099 (by omega) hL ?_
  refine vz_aload_n d_W_law_1100 rfl ?_
  refine vz_callS (n := 3) _ _ d_W_law_1101 (ct_W_total l b id D htr hV hc hl (xs (j + 1))) w_635 w_636 w_637 w_0 ⟨by decide, by decide, by decide +kernel⟩ ⟨by decide, by decide⟩ rfl rfl (Nat.le_of_ble_eq_true rfl) ⟨show ce + 1 ≤ 601024 by omega, show sl + 6 ≤ 7293034 by omega⟩ (fun v1101 g1101 h1101 => ?_)
  obtain ⟨hv1, hc1, hl1, hu1, ha1⟩ := h1101
  rw [hv1]
  refine vz_istore (lv' := [(5, _), (4, _), (3, _), (2, _), (1, _), (0, _)]) d_W_law_1104 (by decide) rfl ?_
  refine vz_aload_n d_W_law_1106 rfl ?_
  refine vz_aload_n d_W_law_1107 rfl ?_
  refine vz_iload d_W_law_1108 rfl ?_
  refine vz_iconst (v := 1) d_W_law_1110 (by decide) ?_
  refine vz_iadd d_W_law_1111 ?_
  refine vz_int (y := nI (j + 1)) (nI_add j 1) ?_
  refine vz_sld d_W_law_1112 (by omega) hL ?_
  refine vz_callV (n := 1) (C := R_M) (T := T_M) _ _ d_W_law_1113 (ct_M_total l b id D hV (Hm_up hu1 hm) (Hn_up hu1 hn) (xs (j + 1))) w_863 w_864 w_865 w_866 w_7 rfl ⟨by decide, by decide, by decide +kernel⟩ ⟨by decide, by decide⟩ (by decide) rfl rfl rfl rfl (Nat.le_of_ble_eq_true rfl) ⟨show ce + 1 + 0 ≤ 601024 by omega, show sl + 6 + 0 ≤ 7293034 by omega⟩ (fun v1113 g1113 h1113 => ?_)
  obtain ⟨hv2, ht2, hm2, hn2, hd2⟩ := h1113
  rw [hv2, mP_l]
  refine vz_lstore (lv' := [(6, _), (5, _), (4, _), (3, _), (2, _), (1, _), (0, _)]) d_W_law_1116 (by decide) rfl ?_
  refine vz_aload_n d_W_law_1118 rfl ?_
  refine vz_callV (n := 0) (C := R_M) (T := T_M) _ _ d_W_law_1119 (ct_M_thrown l b id D) w_725 w_726 w_727 w_728 w_7 rfl ⟨by decide, by decide, by decide +kernel⟩ ⟨by decide, by decide⟩ (by decide) rfl rfl rfl rfl (Nat.le_of_ble_eq_true rfl) ⟨show ce + 1 + 0 + 0 ≤ 601024 by omega, show sl + 6 + 0 + 0 ≤ 7293034 by omega⟩ (fun v1119 g1119 h1119 => ?_)
  obtain ⟨hv3, e3⟩ := h1119
  rw [hv3, e3, ht2]
  refine vz_iload d_W_law_1122 rfl ?_
  refine vz_icmp_eq (tgt := 1129) d_W_law_1124 (by decide) (fun h1124 => ?_) (fun h1124 => absurd h1124 (fun h => h rfl))
  refine vz_iload d_W_law_1129 rfl ?_
  refine vz_if_ne (tgt := 1145) d_W_law_1131 (by decide) (fun h1131 => ?_) (fun h1131 => ?_)
  · refine vz_goto (tgt := 1203) d_W_law_1145 (by decide) ?_
    refine vz_pk [2, 3, 4, 5, 6] (lv' := [(4, _), (3, _), (2, _), (1, _), (0, _)]) rfl ?_
    refine vz_widen (ce' := ce + 3) (sl' := sl + 18) (show ce + 1 + 0 + 0 ≤ ce + 3 by omega) (show sl + 6 + 0 + 0 ≤ sl + 18 by omega) ?_
    exact kk _ _ _ hV (Hc_dn hd2 hc1) (Hl_dn hd2 hl1) hm2 hn2
  · have hC0 : k_one F (xs (j + 1)) = 0 := k0 (by unfold k_one; (repeat' split) <;> omega) h1131
    refine vz_aload_n d_W_law_1134 rfl ?_
    refine vz_iconst (v := 0) d_W_law_1135 (by decide) ?_
    refine vz_lald d_W_law_1136 (by decide) rfl (show (0 : Int32) = nI 0 by decide) (by decide) ?_
    refine vz_long (y := lN (k.2.2 (zi (xs (j + 1))))) (by rw [(hd2 84 (Or.inr (by decide))).2]; exact ha1 hC0 _ rfl) ?_
    refine vz_lload d_W_law_1137 rfl ?_
    refine vz_lcmp d_W_law_1139 ?_
    refine vz_if_eq (tgt := 1145) d_W_law_1140 (by decide) (fun h1140 => ?_) (fun h1140 => absurd h1140 (fun h => h (by rw [if_pos hC0]; exact lg_self _)))
    refine vz_goto (tgt := 1203) d_W_law_1145 (by decide) ?_
    refine vz_pk [2, 3, 4, 5, 6] (lv' := [(4, _), (3, _), (2, _), (1, _), (0, _)]) rfl ?_
    refine vz_widen (ce' := ce + 3) (sl' := sl + 18) (show ce + 1 + 0 + 0 ≤ ce + 3 by omega) (show sl + 6 + 0 + 0 ≤ sl + 18 by omega) ?_
    exact kk _ _ _ hV (Hc_dn hd2 hc1) (Hl_dn hd2 hl1) hm2 hn2
set_option maxRecDepth 100000 in
set_option maxHeartbeats 4000000 in
theorem lc_got (l : Launch) (b : Nat) (id : Nat → ClassId) (D : va_G) (htr : l.stackTraces = false) {a L j : Nat} {xs : Nat → Int32} (hL : L ≤ 2048) (hj : j + 4 ≤ L) {g : Sg} {F : Fam} {k : Lg} (hV : zV F) (hc : Hc g F) (hl : Hl g k) (hm : Hm g F) (hn : Hn g k) {ce sl : Nat} (hce : ce + 3 ≤ 601024) (hsl : sl + 18 ≤ 7293034) (kk : ∀ (g' : Sg) (F' : Fam) (k' : Lg), zV F' → Hc g' F' → Hl g' k' → Hm g' F' → Hn g' k' → Vz l b id D m_law false (Qz b room_1) (Pz a L xs b) 85 kT (ce + 3) (sl + 18) 1203 [(4, .int (nI j)), (3, .ref (b + 84)), (2, .ref (b + 67)), (1, .ref (b + 0)), (0, .ref a)] [] g') : Vz l b id D m_law false (Qz b room_1) (Pz a L xs b) 85 kT ce sl 1148 [(4, .int (nI j)), (3, .ref (b + 84)), (2, .ref (b + 67)), (1, .ref (b + 0)), (0, .ref a)] [] g := by
  refine vz_aload_n d_W_law_1148 rfl ?_
  refine vz_aload_n d_W_law_1149 rfl ?_
  refine vz_iload d_W_law_1150 rfl ?_
  refine vz_iconst (v := 1) d_W_law_1152 (by decide) ?_
  refine vz_iadd d_W_law_1153 ?_
  refine vz_int (y := nI (j + 1)) (nI_add j 1) ?_
  refine vz_sld d_W_law_1154 (by omega) hL ?_
  refine vz_aload_n d_W_law_1155 rfl ?_
  refine vz_callS (n := 3) _ _ d_W_law_1156 (ct_W_got l b id D htr hV hc hl (xs (j + 1))) w_642 w_643 w_644 w_0 ⟨by decide, by decide, by decide +kernel⟩ ⟨by decide, by decide⟩ rfl rfl (Nat.le_of_ble_eq_true rfl) ⟨show ce + 1 ≤ 601024 by omega, show sl + 6 ≤ 7293034 by omega⟩ (fun v1156 g1156 h1156 => ?_)
  obtain ⟨hv1, hc1, hl1, hu1, ha1⟩ := h1156
  rw [hv1]
  refine vz_istore (lv' := [(5, _), (4, _), (3, _), (2, _), (1, _), (0, _)]) d_W_law_1159 (by decide) rfl ?_
  refine vz_aload_n d_W_law_1161 rfl ?_
  refine vz_aload_n d_W_law_1162 rfl ?_
  refine vz_iload d_W_law_1163 rfl ?_
  refine vz_iconst (v := 1) d_W_law_1165 (by decide) ?_
  refine vz_iadd d_W_law_1166 ?_
  refine vz_int (y := nI (j + 1)) (nI_add j 1) ?_
  refine vz_sld d_W_law_1167 (by omega) hL ?_
  refine vz_callV (n := 1) (C := R_M) (T := T_M) _ _ d_W_law_1168 (ct_M_got l b id D hV (Hm_up hu1 hm) (Hn_up hu1 hn) (xs (j + 1))) w_867 w_868 w_869 w_870 w_7 rfl ⟨by decide, by decide, by decide +kernel⟩ ⟨by decide, by decide⟩ (by decide) rfl rfl rfl rfl (Nat.le_of_ble_eq_true rfl) ⟨show ce + 1 + 0 ≤ 601024 by omega, show sl + 6 + 0 ≤ 7293034 by omega⟩ (fun v1168 g1168 h1168 => ?_)
  obtain ⟨hv2, ht2, hm2, hn2, hd2⟩ := h1168
  rw [hv2, mP_l]
  refine vz_lstore (lv' := [(6, _), (5, _), (4, _), (3, _), (2, _), (1, _), (0, _)]) d_W_law_1171 (by decide) rfl ?_
  refine vz_aload_n d_W_law_1173 rfl ?_
  refine vz_callV (n := 0) (C := R_M) (T := T_M) _ _ d_W_law_1174 (ct_M_thrown l b id D) w_725 w_726 w_727 w_728 w_7 rfl ⟨by decide, by decide, by decide +kernel⟩ ⟨by decide, by decide⟩ (by decide) rfl rfl rfl rfl (Nat.le_of_ble_eq_true rfl) ⟨show ce + 1 + 0 + 0 ≤ 601024 by omega, show sl + 6 + 0 + 0 ≤ 7293034 by omega⟩ (fun v1174 g1174 h1174 => ?_)
  obtain ⟨hv3, e3⟩ := h1174
  rw [hv3, e3, ht2]
  refine vz_iload d_W_law_1177 rfl ?_
  refine vz_icmp_eq (tgt := 1184) d_W_law_1179 (by decide) (fun h1179 => ?_) (fun h1179 => absurd h1179 (fun h => h rfl))
  refine vz_iload d_W_law_1184 rfl ?_
  refine vz_if_ne (tgt := 1200) d_W_law_1186 (by decide) (fun h1186 => ?_) (fun h1186 => ?_)
  · refine vz_goto (tgt := 1203) d_W_law_1200 (by decide) ?_
    refine vz_pk [2, 3, 4, 5, 6] (lv' := [(4, _), (3, _), (2, _), (1, _), (0, _)]) rfl ?_
    refine vz_widen (ce' := ce + 3) (sl' := sl + 18) (show ce + 1 + 0 + 0 ≤ ce + 3 by omega) (show sl + 6 + 0 + 0 ≤ sl + 18 by omega) ?_
    exact kk _ _ _ hV (Hc_dn hd2 hc1) (Hl_dn hd2 hl1) hm2 hn2
  · have hC0 : k_got F (xs (j + 1)) = 0 := k0 (by unfold k_got; (repeat' split) <;> omega) h1186
    refine vz_aload_n d_W_law_1189 rfl ?_
    refine vz_iconst (v := 0) d_W_law_1190 (by decide) ?_
    refine vz_lald d_W_law_1191 (by decide) rfl (show (0 : Int32) = nI 0 by decide) (by decide) ?_
    refine vz_long (y := lN (k.2.1 (zpp (xs (j + 1))))) (by rw [(hd2 84 (Or.inr (by decide))).2]; exact ha1 hC0 _ rfl) ?_
    refine vz_lload d_W_law_1192 rfl ?_
    refine vz_lcmp d_W_law_1194 ?_
    refine vz_if_eq (tgt := 1200) d_W_law_1195 (by decide) (fun h1195 => ?_) (fun h1195 => absurd h1195 (fun h => h (by rw [if_pos hC0]; exact lg_self _)))
    refine vz_goto (tgt := 1203) d_W_law_1200 (by decide) ?_
    refine vz_pk [2, 3, 4, 5, 6] (lv' := [(4, _), (3, _), (2, _), (1, _), (0, _)]) rfl ?_
    refine vz_widen (ce' := ce + 3) (sl' := sl + 18) (show ce + 1 + 0 + 0 ≤ ce + 3 by omega) (show sl + 6 + 0 + 0 ≤ sl + 18 by omega) ?_
    exact kk _ _ _ hV (Hc_dn hd2 hc1) (Hl_dn hd2 hl1) hm2 hn2
