/-! the other cases -/
set_option maxHeartbeats 4000000 in
set_option maxRecDepth 100000 in
theorem lc_15 {X : z_X} {b n : Nat} {xs : Nat → Int32} (hP : lx_P X b n xs) {t gX gM : Nat} {w : z_w} (hK : KS t gX gM w) (ht : 6 * t + 6 ≤ n) (kk : lx_K X t) : z_V X (lb_C t gX gM) (lb_S t gX gM) w 583 (LL t) [] := by
  have h := hP.1
  have hn := hP.2.2.2.2.1
  obtain ⟨fs, hw⟩ := hK.x
  obtain ⟨fm, hwm⟩ := hK.m
  have hg := hK.g
  have hy : ∀ w1 : z_w, (∀ tt, ¬ dX tt → w1 tt = w tt) → ∀ t, x_E0 X t → w1 t = none := fun w1 q t ht => by
    rw [hP.2.2.2.1 t ht, q sc (show ¬ (999 < 100) by decide)]; exact hK.nosc
  refine z_less (kC' := lb_C (t + 1) gX gM + 0 + 0) (kS' := lb_S (t + 1) gX gM + 0 + 0) (by unfold lb_C; omega) (by unfold lb_S; omega) ?_
  refine z_aload_n h dL_law_583 rfl ?_
  refine l_arg hP ht 1 1 (by decide) (by decide) dL_law_584 dL_law_585 dL_law_586 dL_law_587 dL_law_588 ?_
  refine l_arg hP ht 2 2 (by decide) (by decide) dL_law_589 dL_law_590 dL_law_591 dL_law_592 dL_law_593 ?_
  refine z_callV h dL_law_594 (l_hx rfl) (fun r w1 q => hy w1 q.1) (k_forge (x_G X) hK (xs (6 * t + 1)) (xs (6 * t + 2))) ym_X11_forge mlL_82 im_X11_forge (ci := 11) rfl se_X11_forge icX11 rfl hw rfl (by decide) (Nat.le_of_ble_eq_true rfl) ?_
  rintro r1 w1 ⟨e1, hM⟩
  refine z_aload_n h dL_law_597 rfl ?_
  refine l_arg hP ht 1 1 (by decide) (by decide) dL_law_598 dL_law_599 dL_law_600 dL_law_601 dL_law_602 ?_
  refine l_arg hP ht 2 2 (by decide) (by decide) dL_law_603 dL_law_604 dL_law_605 dL_law_606 dL_law_607 ?_
  refine z_callV h dL_law_608 (l_hx rfl) (fun r w2 q t ht => by rw [hP.2.2.2.1 t ht]; exact q.2.nosc) hM ym_X12_forge mlL_85 im_X12_forge (ci := 12) rfl se_X12_forge icX12 rfl ((e1 (100, 0) (show ¬ (100 < 100) by decide)).trans hwm) rfl (by decide) (l_words r1) ?_
  rintro r2 w2 ⟨⟨v, e2, e3⟩, hK2⟩
  subst e2
  subst e3
  exact z_icmp_eq h dL_law_611 1016 (by decide) (fun _ => kk _ _ _ hK2) (fun z => absurd rfl z)
set_option maxHeartbeats 4000000 in
set_option maxRecDepth 100000 in
theorem lc_16 {X : z_X} {b n : Nat} {xs : Nat → Int32} (hP : lx_P X b n xs) {t gX gM : Nat} {w : z_w} (hK : KS t gX gM w) (ht : 6 * t + 6 ≤ n) (kk : lx_K X t) : z_V X (lb_C t gX gM) (lb_S t gX gM) w 616 (LL t) [] := by
  have h := hP.1
  have hn := hP.2.2.2.2.1
  obtain ⟨fs, hw⟩ := hK.x
  obtain ⟨fm, hwm⟩ := hK.m
  have hg := hK.g
  have hy : ∀ w1 : z_w, (∀ tt, ¬ dX tt → w1 tt = w tt) → ∀ t, x_E0 X t → w1 t = none := fun w1 q t ht => by
    rw [hP.2.2.2.1 t ht, q sc (show ¬ (999 < 100) by decide)]; exact hK.nosc
  refine z_less (kC' := lb_C (t + 1) gX gM + 0 + 0) (kS' := lb_S (t + 1) gX gM + 0 + 0) (by unfold lb_C; omega) (by unfold lb_S; omega) ?_
  refine z_aload_n h dL_law_616 rfl ?_
  refine l_arg hP ht 1 1 (by decide) (by decide) dL_law_617 dL_law_618 dL_law_619 dL_law_620 dL_law_621 ?_
  refine l_arg hP ht 2 2 (by decide) (by decide) dL_law_622 dL_law_623 dL_law_624 dL_law_625 dL_law_626 ?_
  refine z_callV h dL_law_627 (l_hx rfl) (fun r w1 q => hy w1 q.1) (k_bar (x_G X) hK (xs (6 * t + 1)) (xs (6 * t + 2))) ym_X11_bar mlL_86 im_X11_bar (ci := 11) rfl se_X11_bar icX11 rfl hw rfl (by decide) (Nat.le_of_ble_eq_true rfl) ?_
  rintro r1 w1 ⟨e1, hM⟩
  refine z_aload_n h dL_law_630 rfl ?_
  refine l_arg hP ht 1 1 (by decide) (by decide) dL_law_631 dL_law_632 dL_law_633 dL_law_634 dL_law_635 ?_
  refine l_arg hP ht 2 2 (by decide) (by decide) dL_law_636 dL_law_637 dL_law_638 dL_law_639 dL_law_640 ?_
  refine z_callV h dL_law_641 (l_hx rfl) (fun r w2 q t ht => by rw [hP.2.2.2.1 t ht]; exact q.2.nosc) hM ym_X12_bar mlL_89 im_X12_bar (ci := 12) rfl se_X12_bar icX12 rfl ((e1 (100, 0) (show ¬ (100 < 100) by decide)).trans hwm) rfl (by decide) (l_words r1) ?_
  rintro r2 w2 ⟨⟨v, e2, e3⟩, hK2⟩
  subst e2
  subst e3
  exact z_icmp_eq h dL_law_644 1016 (by decide) (fun _ => kk _ _ _ hK2) (fun z => absurd rfl z)
set_option maxHeartbeats 4000000 in
set_option maxRecDepth 100000 in
theorem lc_17 {X : z_X} {b n : Nat} {xs : Nat → Int32} (hP : lx_P X b n xs) {t gX gM : Nat} {w : z_w} (hK : KS t gX gM w) (ht : 6 * t + 6 ≤ n) (kk : lx_K X t) : z_V X (lb_C t gX gM) (lb_S t gX gM) w 649 (LL t) [] := by
  have h := hP.1
  have hn := hP.2.2.2.2.1
  obtain ⟨fs, hw⟩ := hK.x
  obtain ⟨fm, hwm⟩ := hK.m
  have hg := hK.g
  have hy : ∀ w1 : z_w, (∀ tt, ¬ dX tt → w1 tt = w tt) → ∀ t, x_E0 X t → w1 t = none := fun w1 q t ht => by
    rw [hP.2.2.2.1 t ht, q sc (show ¬ (999 < 100) by decide)]; exact hK.nosc
  refine z_less (kC' := lb_C (t + 1) gX gM + 0 + 0) (kS' := lb_S (t + 1) gX gM + 0 + 0) (by unfold lb_C; omega) (by unfold lb_S; omega) ?_
  refine z_aload_n h dL_law_649 rfl ?_
  refine l_arg hP ht 1 1 (by decide) (by decide) dL_law_650 dL_law_651 dL_law_652 dL_law_653 dL_law_654 ?_
  refine l_arg hP ht 2 2 (by decide) (by decide) dL_law_655 dL_law_656 dL_law_657 dL_law_658 dL_law_659 ?_
  refine z_callV h dL_law_660 (l_hx rfl) (fun r w1 q => hy w1 q.1) (k_part (x_G X) hK (xs (6 * t + 1)) (xs (6 * t + 2))) ym_X11_part mlL_90 im_X11_part (ci := 11) rfl se_X11_part icX11 rfl hw rfl (by decide) (Nat.le_of_ble_eq_true rfl) ?_
  rintro r1 w1 ⟨e1, hM⟩
  refine z_aload_n h dL_law_663 rfl ?_
  refine l_arg hP ht 1 1 (by decide) (by decide) dL_law_664 dL_law_665 dL_law_666 dL_law_667 dL_law_668 ?_
  refine l_arg hP ht 2 2 (by decide) (by decide) dL_law_669 dL_law_670 dL_law_671 dL_law_672 dL_law_673 ?_
  refine z_callV h dL_law_674 (l_hx rfl) (fun r w2 q t ht => by rw [hP.2.2.2.1 t ht]; exact q.2.nosc) hM ym_X12_part mlL_93 im_X12_part (ci := 12) rfl se_X12_part icX12 rfl ((e1 (100, 0) (show ¬ (100 < 100) by decide)).trans hwm) rfl (by decide) (l_words r1) ?_
  rintro r2 w2 ⟨⟨v, e2, e3⟩, hK2⟩
  subst e2
  subst e3
  exact z_icmp_eq h dL_law_677 1016 (by decide) (fun _ => kk _ _ _ hK2) (fun z => absurd rfl z)
set_option maxHeartbeats 4000000 in
set_option maxRecDepth 100000 in
theorem lc_18 {X : z_X} {b n : Nat} {xs : Nat → Int32} (hP : lx_P X b n xs) {t gX gM : Nat} {w : z_w} (hK : KS t gX gM w) (ht : 6 * t + 6 ≤ n) (kk : lx_K X t) : z_V X (lb_C t gX gM) (lb_S t gX gM) w 682 (LL t) [] := by
  have h := hP.1
  have hn := hP.2.2.2.2.1
  obtain ⟨fs, hw⟩ := hK.x
  obtain ⟨fm, hwm⟩ := hK.m
  have hg := hK.g
  have hy : ∀ w1 : z_w, (∀ tt, ¬ dX tt → w1 tt = w tt) → ∀ t, x_E0 X t → w1 t = none := fun w1 q t ht => by
    rw [hP.2.2.2.1 t ht, q sc (show ¬ (999 < 100) by decide)]; exact hK.nosc
  refine z_less (kC' := lb_C (t + 1) gX gM + 0 + 0) (kS' := lb_S (t + 1) gX gM + 0 + 0) (by unfold lb_C; omega) (by unfold lb_S; omega) ?_
  refine z_aload_n h dL_law_682 rfl ?_
  refine l_arg hP ht 1 1 (by decide) (by decide) dL_law_683 dL_law_684 dL_law_685 dL_law_686 dL_law_687 ?_
  refine l_arg hP ht 2 2 (by decide) (by decide) dL_law_688 dL_law_689 dL_law_690 dL_law_691 dL_law_692 ?_
  refine z_callV h dL_law_693 (l_hx rfl) (fun r w1 q => hy w1 q.1) (k_burnt (x_G X) hK (xs (6 * t + 1)) (xs (6 * t + 2))) ym_X11_burnt mlL_94 im_X11_burnt (ci := 11) rfl se_X11_burnt icX11 rfl hw rfl (by decide) (Nat.le_of_ble_eq_true rfl) ?_
  rintro r1 w1 ⟨e1, hM⟩
  refine z_aload_n h dL_law_696 rfl ?_
  refine l_arg hP ht 1 1 (by decide) (by decide) dL_law_697 dL_law_698 dL_law_699 dL_law_700 dL_law_701 ?_
  refine l_arg hP ht 2 2 (by decide) (by decide) dL_law_702 dL_law_703 dL_law_704 dL_law_705 dL_law_706 ?_
  refine z_callV h dL_law_707 (l_hx rfl) (fun r w2 q t ht => by rw [hP.2.2.2.1 t ht]; exact q.2.nosc) hM ym_X12_burnt mlL_97 im_X12_burnt (ci := 12) rfl se_X12_burnt icX12 rfl ((e1 (100, 0) (show ¬ (100 < 100) by decide)).trans hwm) rfl (by decide) (l_words r1) ?_
  rintro r2 w2 ⟨⟨v, e2, e3⟩, hK2⟩
  subst e2
  subst e3
  exact z_icmp_eq h dL_law_710 1016 (by decide) (fun _ => kk _ _ _ hK2) (fun z => absurd rfl z)
set_option maxHeartbeats 4000000 in
set_option maxRecDepth 100000 in
theorem lc_19 {X : z_X} {b n : Nat} {xs : Nat → Int32} (hP : lx_P X b n xs) {t gX gM : Nat} {w : z_w} (hK : KS t gX gM w) (ht : 6 * t + 6 ≤ n) (kk : lx_K X t) : z_V X (lb_C t gX gM) (lb_S t gX gM) w 715 (LL t) [] := by
  have h := hP.1
  have hn := hP.2.2.2.2.1
  obtain ⟨fs, hw⟩ := hK.x
  obtain ⟨fm, hwm⟩ := hK.m
  have hg := hK.g
  have hy : ∀ w1 : z_w, (∀ tt, ¬ dX tt → w1 tt = w tt) → ∀ t, x_E0 X t → w1 t = none := fun w1 q t ht => by
    rw [hP.2.2.2.1 t ht, q sc (show ¬ (999 < 100) by decide)]; exact hK.nosc
  refine z_less (kC' := lb_C (t + 1) gX gM + 0 + 0) (kS' := lb_S (t + 1) gX gM + 0 + 0) (by unfold lb_C; omega) (by unfold lb_S; omega) ?_
  refine z_aload_n h dL_law_715 rfl ?_
  refine l_arg hP ht 1 1 (by decide) (by decide) dL_law_716 dL_law_717 dL_law_718 dL_law_719 dL_law_720 ?_
  refine l_arg hP ht 2 2 (by decide) (by decide) dL_law_721 dL_law_722 dL_law_723 dL_law_724 dL_law_725 ?_
  refine l_arg hP ht 3 3 (by decide) (by decide) dL_law_726 dL_law_727 dL_law_728 dL_law_729 dL_law_730 ?_
  refine l_arg hP ht 4 4 (by decide) (by decide) dL_law_731 dL_law_732 dL_law_733 dL_law_734 dL_law_735 ?_
  refine z_callV h dL_law_736 (l_hx rfl) (fun r w1 q => hy w1 q.1) (k_right (x_G X) hK (xs (6 * t + 1)) (xs (6 * t + 2)) (xs (6 * t + 3)) (xs (6 * t + 4))) ym_X11_right mlL_98 im_X11_right (ci := 11) rfl se_X11_right icX11 rfl hw rfl (by decide) (Nat.le_of_ble_eq_true rfl) ?_
  rintro r1 w1 ⟨e1, hM⟩
  refine z_aload_n h dL_law_739 rfl ?_
  refine l_arg hP ht 1 1 (by decide) (by decide) dL_law_740 dL_law_741 dL_law_742 dL_law_743 dL_law_744 ?_
  refine l_arg hP ht 2 2 (by decide) (by decide) dL_law_745 dL_law_746 dL_law_747 dL_law_748 dL_law_749 ?_
  refine l_arg hP ht 3 3 (by decide) (by decide) dL_law_750 dL_law_751 dL_law_752 dL_law_753 dL_law_754 ?_
  refine l_arg hP ht 4 4 (by decide) (by decide) dL_law_755 dL_law_756 dL_law_757 dL_law_758 dL_law_759 ?_
  refine z_callV h dL_law_760 (l_hx rfl) (fun r w2 q t ht => by rw [hP.2.2.2.1 t ht]; exact q.2.nosc) hM ym_X12_right mlL_102 im_X12_right (ci := 12) rfl se_X12_right icX12 rfl ((e1 (100, 0) (show ¬ (100 < 100) by decide)).trans hwm) rfl (by decide) (l_words r1) ?_
  rintro r2 w2 ⟨⟨v, e2, e3⟩, hK2⟩
  subst e2
  subst e3
  exact z_icmp_eq h dL_law_763 1016 (by decide) (fun _ => kk _ _ _ hK2) (fun z => absurd rfl z)
set_option maxHeartbeats 4000000 in
set_option maxRecDepth 100000 in
theorem lc_20 {X : z_X} {b n : Nat} {xs : Nat → Int32} (hP : lx_P X b n xs) {t gX gM : Nat} {w : z_w} (hK : KS t gX gM w) (ht : 6 * t + 6 ≤ n) (kk : lx_K X t) : z_V X (lb_C t gX gM) (lb_S t gX gM) w 768 (LL t) [] := by
  have h := hP.1
  have hn := hP.2.2.2.2.1
  obtain ⟨fs, hw⟩ := hK.x
  obtain ⟨fm, hwm⟩ := hK.m
  have hg := hK.g
  have hy : ∀ w1 : z_w, (∀ tt, ¬ dX tt → w1 tt = w tt) → ∀ t, x_E0 X t → w1 t = none := fun w1 q t ht => by
    rw [hP.2.2.2.1 t ht, q sc (show ¬ (999 < 100) by decide)]; exact hK.nosc
  obtain ⟨jX, jM, aC, aS, j1, j2, j3, j4, hk⟩ := k_pay (x_G X) hK (by omega) (xs (6 * t + 1)) (xs (6 * t + 2))
  refine z_less (kC' := lb_C (t + 1) (gX + jX) (gM + jM) + 4 * jM + (4 * jX + aC)) (kS' := lb_S (t + 1) (gX + jX) (gM + jM) + 2048 * 2 ^ gM * jM + (8 * (64 * 2 ^ gX) * jX + aS)) (lb_payC hg (by omega) j1 j2 j3) (lb_payS hg (by omega) j1 j2 j4) ?_
  refine z_aload_n h dL_law_768 rfl ?_
  refine l_arg hP ht 1 1 (by decide) (by decide) dL_law_769 dL_law_770 dL_law_771 dL_law_772 dL_law_773 ?_
  refine l_arg hP ht 2 2 (by decide) (by decide) dL_law_774 dL_law_775 dL_law_776 dL_law_777 dL_law_778 ?_
  refine z_callV h dL_law_779 (l_hx rfl) (fun r w1 q => hy w1 q.1) hk ym_X11_pay mlL_103 im_X11_pay (ci := 11) rfl se_X11_pay icX11 rfl hw rfl (by decide) (Nat.le_of_ble_eq_true rfl) ?_
  rintro r1 w1 ⟨e1, hM⟩
  refine z_aload_n h dL_law_782 rfl ?_
  refine l_arg hP ht 1 1 (by decide) (by decide) dL_law_783 dL_law_784 dL_law_785 dL_law_786 dL_law_787 ?_
  refine l_arg hP ht 2 2 (by decide) (by decide) dL_law_788 dL_law_789 dL_law_790 dL_law_791 dL_law_792 ?_
  refine z_callV h dL_law_793 (l_hx rfl) (fun r w2 q t ht => by rw [hP.2.2.2.1 t ht]; exact q.2.nosc) hM ym_X12_pay mlL_106 im_X12_pay (ci := 12) rfl se_X12_pay icX12 rfl ((e1 (100, 0) (show ¬ (100 < 100) by decide)).trans hwm) rfl (by decide) (l_words r1) ?_
  rintro r2 w2 ⟨⟨v, e2, e3⟩, hK2⟩
  subst e2
  subst e3
  exact z_icmp_eq h dL_law_796 1016 (by decide) (fun _ => kk _ _ _ hK2) (fun z => absurd rfl z)
set_option maxHeartbeats 4000000 in
set_option maxRecDepth 100000 in
theorem lc_21 {X : z_X} {b n : Nat} {xs : Nat → Int32} (hP : lx_P X b n xs) {t gX gM : Nat} {w : z_w} (hK : KS t gX gM w) (ht : 6 * t + 6 ≤ n) (kk : lx_K X t) : z_V X (lb_C t gX gM) (lb_S t gX gM) w 801 (LL t) [] := by
  have h := hP.1
  have hn := hP.2.2.2.2.1
  obtain ⟨fs, hw⟩ := hK.x
  obtain ⟨fm, hwm⟩ := hK.m
  have hg := hK.g
  have hy : ∀ w1 : z_w, (∀ tt, ¬ dX tt → w1 tt = w tt) → ∀ t, x_E0 X t → w1 t = none := fun w1 q t ht => by
    rw [hP.2.2.2.1 t ht, q sc (show ¬ (999 < 100) by decide)]; exact hK.nosc
  obtain ⟨jX, jM, aC, aS, j1, j2, j3, j4, hk⟩ := k_again (x_G X) hK (by omega) (xs (6 * t + 1))
  refine z_less (kC' := lb_C (t + 1) (gX + jX) (gM + jM) + 4 * jM + (4 * jX + aC)) (kS' := lb_S (t + 1) (gX + jX) (gM + jM) + 2048 * 2 ^ gM * jM + (8 * (64 * 2 ^ gX) * jX + aS)) (lb_payC hg (by omega) j1 j2 j3) (lb_payS hg (by omega) j1 j2 j4) ?_
  refine z_aload_n h dL_law_801 rfl ?_
  refine l_arg hP ht 1 1 (by decide) (by decide) dL_law_802 dL_law_803 dL_law_804 dL_law_805 dL_law_806 ?_
  refine z_callV h dL_law_807 (l_hx rfl) (fun r w1 q => hy w1 q.1) hk ym_X11_again mlL_107 im_X11_again (ci := 11) rfl se_X11_again icX11 rfl hw rfl (by decide) (Nat.le_of_ble_eq_true rfl) ?_
  rintro r1 w1 ⟨e1, hM⟩
  refine z_aload_n h dL_law_810 rfl ?_
  refine l_arg hP ht 1 1 (by decide) (by decide) dL_law_811 dL_law_812 dL_law_813 dL_law_814 dL_law_815 ?_
  refine z_callV h dL_law_816 (l_hx rfl) (fun r w2 q t ht => by rw [hP.2.2.2.1 t ht]; exact q.2.nosc) hM ym_X12_again mlL_110 im_X12_again (ci := 12) rfl se_X12_again icX12 rfl ((e1 (100, 0) (show ¬ (100 < 100) by decide)).trans hwm) rfl (by decide) (l_words r1) ?_
  rintro r2 w2 ⟨⟨v, e2, e3⟩, hK2⟩
  subst e2
  subst e3
  exact z_icmp_eq h dL_law_819 1016 (by decide) (fun _ => kk _ _ _ hK2) (fun z => absurd rfl z)
set_option maxHeartbeats 4000000 in
set_option maxRecDepth 100000 in
theorem lc_22 {X : z_X} {b n : Nat} {xs : Nat → Int32} (hP : lx_P X b n xs) {t gX gM : Nat} {w : z_w} (hK : KS t gX gM w) (ht : 6 * t + 6 ≤ n) (kk : lx_K X t) : z_V X (lb_C t gX gM) (lb_S t gX gM) w 824 (LL t) [] := by
  have h := hP.1
  have hn := hP.2.2.2.2.1
  obtain ⟨fs, hw⟩ := hK.x
  obtain ⟨fm, hwm⟩ := hK.m
  have hg := hK.g
  have hy : ∀ w1 : z_w, (∀ tt, ¬ dX tt → w1 tt = w tt) → ∀ t, x_E0 X t → w1 t = none := fun w1 q t ht => by
    rw [hP.2.2.2.1 t ht, q sc (show ¬ (999 < 100) by decide)]; exact hK.nosc
  refine z_less (kC' := lb_C (t + 1) gX gM + 0 + 0) (kS' := lb_S (t + 1) gX gM + 0 + 0) (by unfold lb_C; omega) (by unfold lb_S; omega) ?_
  refine z_aload_n h dL_law_824 rfl ?_
  refine l_arg hP ht 1 1 (by decide) (by decide) dL_law_825 dL_law_826 dL_law_827 dL_law_828 dL_law_829 ?_
  refine l_arg hP ht 2 2 (by decide) (by decide) dL_law_830 dL_law_831 dL_law_832 dL_law_833 dL_law_834 ?_
  refine z_callV h dL_law_835 (l_hx rfl) (fun r w1 q => hy w1 q.1) (k_line (x_G X) hK (by omega) (xs (6 * t + 1)) (xs (6 * t + 2))) ym_X11_line mlL_111 im_X11_line (ci := 11) rfl se_X11_line icX11 rfl hw rfl (by decide) (Nat.le_of_ble_eq_true rfl) ?_
  rintro r1 w1 ⟨e1, hM⟩
  refine z_aload_n h dL_law_838 rfl ?_
  refine l_arg hP ht 1 1 (by decide) (by decide) dL_law_839 dL_law_840 dL_law_841 dL_law_842 dL_law_843 ?_
  refine l_arg hP ht 2 2 (by decide) (by decide) dL_law_844 dL_law_845 dL_law_846 dL_law_847 dL_law_848 ?_
  refine z_callV h dL_law_849 (l_hx rfl) (fun r w2 q t ht => by rw [hP.2.2.2.1 t ht]; exact q.2.nosc) hM ym_X12_line mlL_114 im_X12_line (ci := 12) rfl se_X12_line icX12 rfl ((e1 (100, 0) (show ¬ (100 < 100) by decide)).trans hwm) rfl (by decide) (l_words r1) ?_
  rintro r2 w2 ⟨⟨v, e2, e3⟩, hK2⟩
  subst e2
  subst e3
  exact z_icmp_eq h dL_law_852 1016 (by decide) (fun _ => kk _ _ _ hK2) (fun z => absurd rfl z)
set_option maxHeartbeats 4000000 in
set_option maxRecDepth 100000 in
theorem lc_23 {X : z_X} {b n : Nat} {xs : Nat → Int32} (hP : lx_P X b n xs) {t gX gM : Nat} {w : z_w} (hK : KS t gX gM w) (ht : 6 * t + 6 ≤ n) (kk : lx_K X t) : z_V X (lb_C t gX gM) (lb_S t gX gM) w 857 (LL t) [] := by
  have h := hP.1
  have hn := hP.2.2.2.2.1
  obtain ⟨fs, hw⟩ := hK.x
  obtain ⟨fm, hwm⟩ := hK.m
  have hg := hK.g
  have hy : ∀ w1 : z_w, (∀ tt, ¬ dX tt → w1 tt = w tt) → ∀ t, x_E0 X t → w1 t = none := fun w1 q t ht => by
    rw [hP.2.2.2.1 t ht, q sc (show ¬ (999 < 100) by decide)]; exact hK.nosc
  refine z_less (kC' := lb_C (t + 1) gX gM + 0 + 0) (kS' := lb_S (t + 1) gX gM + 0 + 0) (by unfold lb_C; omega) (by unfold lb_S; omega) ?_
  refine z_aload_n h dL_law_857 rfl ?_
  refine l_arg hP ht 1 1 (by decide) (by decide) dL_law_858 dL_law_859 dL_law_860 dL_law_861 dL_law_862 ?_
  refine z_callV h dL_law_863 (l_hx rfl) (fun r w1 q => hy w1 q.1) (k_coins (x_G X) hK (xs (6 * t + 1))) ym_X11_coins mlL_115 im_X11_coins (ci := 11) rfl se_X11_coins icX11 rfl hw rfl (by decide) (Nat.le_of_ble_eq_true rfl) ?_
  rintro r1 w1 ⟨e1, hM⟩
  refine z_aload_n h dL_law_866 rfl ?_
  refine l_arg hP ht 1 1 (by decide) (by decide) dL_law_867 dL_law_868 dL_law_869 dL_law_870 dL_law_871 ?_
  refine z_callV h dL_law_872 (l_hx rfl) (fun r w2 q t ht => by rw [hP.2.2.2.1 t ht]; exact q.2.nosc) hM ym_X12_coins mlL_118 im_X12_coins (ci := 12) rfl se_X12_coins icX12 rfl ((e1 (100, 0) (show ¬ (100 < 100) by decide)).trans hwm) rfl (by decide) (l_words r1) ?_
  rintro r2 w2 ⟨⟨v, e2, e3⟩, hK2⟩
  subst e2
  subst e3
  exact z_icmp_eq h dL_law_875 1016 (by decide) (fun _ => kk _ _ _ hK2) (fun z => absurd rfl z)
set_option maxHeartbeats 4000000 in
set_option maxRecDepth 100000 in
theorem lc_24 {X : z_X} {b n : Nat} {xs : Nat → Int32} (hP : lx_P X b n xs) {t gX gM : Nat} {w : z_w} (hK : KS t gX gM w) (ht : 6 * t + 6 ≤ n) (kk : lx_K X t) : z_V X (lb_C t gX gM) (lb_S t gX gM) w 880 (LL t) [] := by
  have h := hP.1
  have hn := hP.2.2.2.2.1
  obtain ⟨fs, hw⟩ := hK.x
  obtain ⟨fm, hwm⟩ := hK.m
  have hg := hK.g
  have hy : ∀ w1 : z_w, (∀ tt, ¬ dX tt → w1 tt = w tt) → ∀ t, x_E0 X t → w1 t = none := fun w1 q t ht => by
    rw [hP.2.2.2.1 t ht, q sc (show ¬ (999 < 100) by decide)]; exact hK.nosc
  refine z_less (kC' := lb_C (t + 1) gX gM + 0 + 0) (kS' := lb_S (t + 1) gX gM + 0 + 0) (by unfold lb_C; omega) (by unfold lb_S; omega) ?_
  refine z_aload_n h dL_law_880 rfl ?_
  refine l_arg hP ht 1 1 (by decide) (by decide) dL_law_881 dL_law_882 dL_law_883 dL_law_884 dL_law_885 ?_
  refine l_arg hP ht 2 2 (by decide) (by decide) dL_law_886 dL_law_887 dL_law_888 dL_law_889 dL_law_890 ?_
  refine z_callV h dL_law_891 (l_hx rfl) (fun r w1 q => hy w1 q.1) (k_order (x_G X) hK (xs (6 * t + 1)) (xs (6 * t + 2))) ym_X11_order mlL_119 im_X11_order (ci := 11) rfl se_X11_order icX11 rfl hw rfl (by decide) (Nat.le_of_ble_eq_true rfl) ?_
  rintro r1 w1 ⟨e1, hM⟩
  refine z_aload_n h dL_law_894 rfl ?_
  refine l_arg hP ht 1 1 (by decide) (by decide) dL_law_895 dL_law_896 dL_law_897 dL_law_898 dL_law_899 ?_
  refine l_arg hP ht 2 2 (by decide) (by decide) dL_law_900 dL_law_901 dL_law_902 dL_law_903 dL_law_904 ?_
  refine z_callV h dL_law_905 (l_hx rfl) (fun r w2 q t ht => by rw [hP.2.2.2.1 t ht]; exact q.2.nosc) hM ym_X12_order mlL_122 im_X12_order (ci := 12) rfl se_X12_order icX12 rfl ((e1 (100, 0) (show ¬ (100 < 100) by decide)).trans hwm) rfl (by decide) (l_words r1) ?_
  rintro r2 w2 ⟨⟨v, e2, e3⟩, hK2⟩
  subst e2
  subst e3
  exact z_icmp_eq h dL_law_908 1016 (by decide) (fun _ => kk _ _ _ hK2) (fun z => absurd rfl z)
set_option maxHeartbeats 4000000 in
set_option maxRecDepth 100000 in
theorem lc_25 {X : z_X} {b n : Nat} {xs : Nat → Int32} (hP : lx_P X b n xs) {t gX gM : Nat} {w : z_w} (hK : KS t gX gM w) (ht : 6 * t + 6 ≤ n) (kk : lx_K X t) : z_V X (lb_C t gX gM) (lb_S t gX gM) w 913 (LL t) [] := by
  have h := hP.1
  have hn := hP.2.2.2.2.1
  obtain ⟨fs, hw⟩ := hK.x
  obtain ⟨fm, hwm⟩ := hK.m
  have hg := hK.g
  have hy : ∀ w1 : z_w, (∀ tt, ¬ dX tt → w1 tt = w tt) → ∀ t, x_E0 X t → w1 t = none := fun w1 q t ht => by
    rw [hP.2.2.2.1 t ht, q sc (show ¬ (999 < 100) by decide)]; exact hK.nosc
  refine z_less (kC' := lb_C (t + 1) gX gM + 0 + 0) (kS' := lb_S (t + 1) gX gM + 0 + 0) (by unfold lb_C; omega) (by unfold lb_S; omega) ?_
  refine z_aload_n h dL_law_913 rfl ?_
  refine z_callV h dL_law_914 (l_hx rfl) (fun r w1 q => hy w1 q.1) (k_clear (x_G X) hK) ym_X11_clear mlL_123 im_X11_clear (ci := 11) rfl se_X11_clear icX11 rfl hw rfl (by decide) (Nat.le_of_ble_eq_true rfl) ?_
  rintro r1 w1 ⟨e1, hM⟩
  refine z_aload_n h dL_law_917 rfl ?_
  refine z_callV h dL_law_918 (l_hx rfl) (fun r w2 q t ht => by rw [hP.2.2.2.1 t ht]; exact q.2.2.nosc) hM ym_X12_clear mlL_126 im_X12_clear (ci := 12) rfl se_X12_clear icX12 rfl ((e1 (100, 0) (show ¬ (100 < 100) by decide)).trans hwm) rfl (by decide) (l_words r1) ?_
  rintro r2 w2 ⟨e2, e3, hK2⟩
  subst e2
  subst e3
  refine z_goto h dL_law_921 1016 (by decide) ?_
  exact kk _ _ _ hK2
set_option maxHeartbeats 4000000 in
set_option maxRecDepth 100000 in
theorem lc_26 {X : z_X} {b n : Nat} {xs : Nat → Int32} (hP : lx_P X b n xs) {t gX gM : Nat} {w : z_w} (hK : KS t gX gM w) (ht : 6 * t + 6 ≤ n) (kk : lx_K X t) : z_V X (lb_C t gX gM) (lb_S t gX gM) w 924 (LL t) [] := by
  have h := hP.1
  have hn := hP.2.2.2.2.1
  obtain ⟨fs, hw⟩ := hK.x
  obtain ⟨fm, hwm⟩ := hK.m
  have hg := hK.g
  have hy : ∀ w1 : z_w, (∀ tt, ¬ dX tt → w1 tt = w tt) → ∀ t, x_E0 X t → w1 t = none := fun w1 q t ht => by
    rw [hP.2.2.2.1 t ht, q sc (show ¬ (999 < 100) by decide)]; exact hK.nosc
  refine z_less (kC' := lb_C (t + 1) gX gM + 0 + 0) (kS' := lb_S (t + 1) gX gM + 0 + 0) (by unfold lb_C; omega) (by unfold lb_S; omega) ?_
  refine z_aload_n h dL_law_924 rfl ?_
  refine l_arg hP ht 1 1 (by decide) (by decide) dL_law_925 dL_law_926 dL_law_927 dL_law_928 dL_law_929 ?_
  refine z_callV h dL_law_930 (l_hx rfl) (fun r w1 q => hy w1 q.1) (k_met (x_G X) hK (xs (6 * t + 1))) ym_X11_met mlL_127 im_X11_met (ci := 11) rfl se_X11_met icX11 rfl hw rfl (by decide) (Nat.le_of_ble_eq_true rfl) ?_
  rintro r1 w1 ⟨e1, hM⟩
  refine z_aload_n h dL_law_933 rfl ?_
  refine l_arg hP ht 1 1 (by decide) (by decide) dL_law_934 dL_law_935 dL_law_936 dL_law_937 dL_law_938 ?_
  refine z_callV h dL_law_939 (l_hx rfl) (fun r w2 q t ht => by rw [hP.2.2.2.1 t ht]; exact q.2.nosc) hM ym_X12_met mlL_130 im_X12_met (ci := 12) rfl se_X12_met icX12 rfl ((e1 (100, 0) (show ¬ (100 < 100) by decide)).trans hwm) rfl (by decide) (l_words r1) ?_
  rintro r2 w2 ⟨⟨v, e2, e3⟩, hK2⟩
  subst e2
  subst e3
  exact z_icmp_eq h dL_law_942 1016 (by decide) (fun _ => kk _ _ _ hK2) (fun z => absurd rfl z)
set_option maxHeartbeats 4000000 in
set_option maxRecDepth 100000 in
theorem lc_27 {X : z_X} {b n : Nat} {xs : Nat → Int32} (hP : lx_P X b n xs) {t gX gM : Nat} {w : z_w} (hK : KS t gX gM w) (ht : 6 * t + 6 ≤ n) (kk : lx_K X t) : z_V X (lb_C t gX gM) (lb_S t gX gM) w 947 (LL t) [] := by
  have h := hP.1
  have hn := hP.2.2.2.2.1
  obtain ⟨fs, hw⟩ := hK.x
  obtain ⟨fm, hwm⟩ := hK.m
  have hg := hK.g
  have hy : ∀ w1 : z_w, (∀ tt, ¬ dX tt → w1 tt = w tt) → ∀ t, x_E0 X t → w1 t = none := fun w1 q t ht => by
    rw [hP.2.2.2.1 t ht, q sc (show ¬ (999 < 100) by decide)]; exact hK.nosc
  refine z_less (kC' := lb_C (t + 1) gX gM + 0 + 0) (kS' := lb_S (t + 1) gX gM + 0 + 0) (by unfold lb_C; omega) (by unfold lb_S; omega) ?_
  refine z_aload_n h dL_law_947 rfl ?_
  refine z_callV h dL_law_948 (l_hx rfl) (fun r w1 q => hy w1 q.1) (k_want (x_G X) hK) ym_X11_want mlL_131 im_X11_want (ci := 11) rfl se_X11_want icX11 rfl hw rfl (by decide) (Nat.le_of_ble_eq_true rfl) ?_
  rintro r1 w1 ⟨e1, hM⟩
  refine z_aload_n h dL_law_951 rfl ?_
  refine z_callV h dL_law_952 (l_hx rfl) (fun r w2 q t ht => by rw [hP.2.2.2.1 t ht]; exact q.2.nosc) hM ym_X12_want mlL_134 im_X12_want (ci := 12) rfl se_X12_want icX12 rfl ((e1 (100, 0) (show ¬ (100 < 100) by decide)).trans hwm) rfl (by decide) (l_words r1) ?_
  rintro r2 w2 ⟨⟨v, e2, e3⟩, hK2⟩
  subst e2
  subst e3
  exact z_icmp_eq h dL_law_955 1016 (by decide) (fun _ => kk _ _ _ hK2) (fun z => absurd rfl z)
set_option maxHeartbeats 4000000 in
set_option maxRecDepth 100000 in
theorem lc_28 {X : z_X} {b n : Nat} {xs : Nat → Int32} (hP : lx_P X b n xs) {t gX gM : Nat} {w : z_w} (hK : KS t gX gM w) (ht : 6 * t + 6 ≤ n) (kk : lx_K X t) : z_V X (lb_C t gX gM) (lb_S t gX gM) w 960 (LL t) [] := by
  have h := hP.1
  have hn := hP.2.2.2.2.1
  obtain ⟨fs, hw⟩ := hK.x
  obtain ⟨fm, hwm⟩ := hK.m
  have hg := hK.g
  have hy : ∀ w1 : z_w, (∀ tt, ¬ dX tt → w1 tt = w tt) → ∀ t, x_E0 X t → w1 t = none := fun w1 q t ht => by
    rw [hP.2.2.2.1 t ht, q sc (show ¬ (999 < 100) by decide)]; exact hK.nosc
  refine z_less (kC' := lb_C (t + 1) gX gM + 0 + 0) (kS' := lb_S (t + 1) gX gM + 0 + 0) (by unfold lb_C; omega) (by unfold lb_S; omega) ?_
  refine z_aload_n h dL_law_960 rfl ?_
  refine l_arg hP ht 1 1 (by decide) (by decide) dL_law_961 dL_law_962 dL_law_963 dL_law_964 dL_law_965 ?_
  refine l_arg hP ht 2 2 (by decide) (by decide) dL_law_966 dL_law_967 dL_law_968 dL_law_969 dL_law_970 ?_
  refine z_callV h dL_law_971 (l_hx rfl) (fun r w1 q => hy w1 q.1) (k_ground (x_G X) hK (xs (6 * t + 1)) (xs (6 * t + 2))) ym_X11_ground mlL_135 im_X11_ground (ci := 11) rfl se_X11_ground icX11 rfl hw rfl (by decide) (Nat.le_of_ble_eq_true rfl) ?_
  rintro r1 w1 ⟨e1, hM⟩
  refine z_aload_n h dL_law_974 rfl ?_
  refine l_arg hP ht 1 1 (by decide) (by decide) dL_law_975 dL_law_976 dL_law_977 dL_law_978 dL_law_979 ?_
  refine l_arg hP ht 2 2 (by decide) (by decide) dL_law_980 dL_law_981 dL_law_982 dL_law_983 dL_law_984 ?_
  refine z_callV h dL_law_985 (l_hx rfl) (fun r w2 q t ht => by rw [hP.2.2.2.1 t ht]; exact q.2.nosc) hM ym_X12_ground mlL_138 im_X12_ground (ci := 12) rfl se_X12_ground icX12 rfl ((e1 (100, 0) (show ¬ (100 < 100) by decide)).trans hwm) rfl (by decide) (l_words r1) ?_
  rintro r2 w2 ⟨⟨v, e2, e3⟩, hK2⟩
  subst e2
  subst e3
  exact z_icmp_eq h dL_law_988 1016 (by decide) (fun _ => kk _ _ _ hK2) (fun z => absurd rfl z)
set_option maxHeartbeats 4000000 in
set_option maxRecDepth 100000 in
theorem lc_29 {X : z_X} {b n : Nat} {xs : Nat → Int32} (hP : lx_P X b n xs) {t gX gM : Nat} {w : z_w} (hK : KS t gX gM w) (ht : 6 * t + 6 ≤ n) (kk : lx_K X t) : z_V X (lb_C t gX gM) (lb_S t gX gM) w 993 (LL t) [] := by
  have h := hP.1
  have hn := hP.2.2.2.2.1
  obtain ⟨fs, hw⟩ := hK.x
  obtain ⟨fm, hwm⟩ := hK.m
  have hg := hK.g
  have hy : ∀ w1 : z_w, (∀ tt, ¬ dX tt → w1 tt = w tt) → ∀ t, x_E0 X t → w1 t = none := fun w1 q t ht => by
    rw [hP.2.2.2.1 t ht, q sc (show ¬ (999 < 100) by decide)]; exact hK.nosc
  refine z_less (kC' := lb_C (t + 1) gX gM + 0 + 0) (kS' := lb_S (t + 1) gX gM + 0 + 0) (by unfold lb_C; omega) (by unfold lb_S; omega) ?_
  refine z_aload_n h dL_law_993 rfl ?_
  refine l_arg hP ht 1 1 (by decide) (by decide) dL_law_994 dL_law_995 dL_law_996 dL_law_997 dL_law_998 ?_
  refine z_callV h dL_law_999 (l_hx rfl) (fun r w1 q => hy w1 q.1) (k_count (x_G X) hK (xs (6 * t + 1))) ym_X11_count mlL_139 im_X11_count (ci := 11) rfl se_X11_count icX11 rfl hw rfl (by decide) (Nat.le_of_ble_eq_true rfl) ?_
  rintro r1 w1 ⟨e1, hM⟩
  refine z_aload_n h dL_law_1002 rfl ?_
  refine l_arg hP ht 1 1 (by decide) (by decide) dL_law_1003 dL_law_1004 dL_law_1005 dL_law_1006 dL_law_1007 ?_
  refine z_callV h dL_law_1008 (l_hx rfl) (fun r w2 q t ht => by rw [hP.2.2.2.1 t ht]; exact q.2.nosc) hM ym_X12_count mlL_142 im_X12_count (ci := 12) rfl se_X12_count icX12 rfl ((e1 (100, 0) (show ¬ (100 < 100) by decide)).trans hwm) rfl (by decide) (l_words r1) ?_
  rintro r2 w2 ⟨⟨v, e2, e3⟩, hK2⟩
  subst e2
  subst e3
  exact z_icmp_eq h dL_law_1011 1016 (by decide) (fun _ => kk _ _ _ hK2) (fun z => absurd rfl z)
