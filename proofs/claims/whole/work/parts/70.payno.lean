/-! paying and paying again, where they fail: they cost nothing -/
set_option maxHeartbeats 4000000 in
set_option maxRecDepth 100000 in
theorem m_X11_payno (G : z_G) {nb na np g : Nat} {w0 w : z_w} {c : r_c} {l : r_l} {r : r_r} (hX : XR nb na np g w0 c l r w) (x n : Int32) (hno : ¬ (ix_ok x na ∧ (1 ≤ n ∧ n ≤ 1000000) ∧ np < 60)) : z_M G yX11_pay cX11_pay 3 (some .int) 6 (0) (0) [vr (0, 0), vi x, vi n] w (fun q w1 => q = some (vi (-1)) ∧ w1 = w) := by
  refine z_met ym_X11_pay (by decide) ⟨Nat.le_of_ble_eq_true rfl, Nat.le_of_ble_eq_true rfl⟩ (fun X hG hn hmc hms hin h hr => ?_)
  have he := hr.2.2.2.2.2.1
  obtain ⟨hR, hnb, hna, hnp, hg6, hc2, hc8, hc12, hr1, hr17, hr26⟩ := id hX
  refine z_aload_n h dX11_pay_0 rfl ?_
  refine z_iload_n h dX11_pay_1 rfl ?_
  refine z_callV h dX11_pay_2 (fun _ _ q => z_okv_no he q) (fun _ _ _ t q => absurd q (he t)) (m_X11_barAt _ hR x hc8 hna hr17) ym_X11_barAt mlX11_258 im_X11_barAt (ci := 11) rfl se_X11_barAt icX11 rfl (r_p.ob hR (by first | assumption | exact Nat.le_of_ble_eq_true rfl) (by first | rfl | assumption | exact tx_2 (by first | assumption | omega) | exact tx_18 (by first | assumption | omega) | exact tx_19 (by first | assumption | omega) | exact tx_20 (by first | assumption | omega) | exact tx_27 (by first | assumption | omega) | exact tx_28 (by first | assumption | omega) | exact tx_30 (by first | assumption | omega) | exact tx_31 (by first | assumption | omega) | exact tx_32 (by first | assumption | omega) | exact tx_33 (by first | assumption | omega))) rfl (by decide) (Nat.le_of_ble_eq_true rfl) ?_
  rintro r w1 ⟨hw1, hq⟩
  have hw1 := hw1.symm; subst hw1
  by_cases hix : ix_ok x na
  · skip
    rw [if_pos hix] at hq; subst hq
    refine z_ifnull h dX11_pay_5 ?_
    refine z_iload_n h dX11_pay_8 rfl ?_
    refine z_iconst (v := 1) h dX11_pay_9 (by decide) ?_
    refine z_ldcw h dX11_pay_10 kcX11_284 ?_
    refine z_callS h dX11_pay_13 (fun _ _ q => z_okv_no he q) (fun _ _ _ t q => absurd q (he t)) (m_X11_within _ _ _ _ _) ym_X11_within mlX11_92 sm_X11_within rfl (by decide) (Nat.le_of_ble_eq_true rfl) ?_
    rintro q1 w1 ⟨rfl, hw1⟩
    have hw1 := hw1.symm; subst hw1
    refine z_if_eq h dX11_pay_16 41 (by decide) (fun c_1 => ?_) (fun c_1 => ?_)
    · skip
      refine z_iconst (v := -1) h dX11_pay_41 (by decide) ?_
      exact z_iret h dX11_pay_42 hr (⟨rfl, rfl⟩)
    · skip
      refine z_aload_n h dX11_pay_19 rfl ?_
      refine y_geti h dX11_pay_20 hR flX11_285 (by first | assumption | exact Nat.le_of_ble_eq_true rfl) (by first | rfl | assumption | exact tx_2 (by first | assumption | omega) | exact tx_18 (by first | assumption | omega) | exact tx_19 (by first | assumption | omega) | exact tx_20 (by first | assumption | omega) | exact tx_27 (by first | assumption | omega) | exact tx_28 (by first | assumption | omega) | exact tx_30 (by first | assumption | omega) | exact tx_31 (by first | assumption | omega) | exact tx_32 (by first | assumption | omega) | exact tx_33 (by first | assumption | omega)) (by rfl) ?_
      rw [hc12]
      refine z_aload_n h dX11_pay_23 rfl ?_
      refine y_getr h dX11_pay_24 hR flX11_58 (by first | assumption | exact Nat.le_of_ble_eq_true rfl) (by first | rfl | assumption | exact tx_2 (by first | assumption | omega) | exact tx_18 (by first | assumption | omega) | exact tx_19 (by first | assumption | omega) | exact tx_20 (by first | assumption | omega) | exact tx_27 (by first | assumption | omega) | exact tx_28 (by first | assumption | omega) | exact tx_30 (by first | assumption | omega) | exact tx_31 (by first | assumption | omega) | exact tx_32 (by first | assumption | omega) | exact tx_33 (by first | assumption | omega)) (by rfl) ?_
      refine y_len h dX11_pay_27 hR (by first | assumption | exact Nat.le_of_ble_eq_true rfl) (by first | rfl | assumption | exact tx_2 (by first | assumption | omega) | exact tx_18 (by first | assumption | omega) | exact tx_19 (by first | assumption | omega) | exact tx_20 (by first | assumption | omega) | exact tx_27 (by first | assumption | omega) | exact tx_28 (by first | assumption | omega) | exact tx_30 (by first | assumption | omega) | exact tx_31 (by first | assumption | omega) | exact tx_32 (by first | assumption | omega) | exact tx_33 (by first | assumption | omega)) (by rfl) ?_
      refine z_icmp_ge h dX11_pay_28 41 (by decide) (fun c_2 => ?_) (fun c_2 => ?_)
      · skip
        have e1 : 60 ≤ np := (nI_leI (a := 60) (by omega) (by omega)).mp c_2
        refine z_iconst (v := -1) h dX11_pay_41 (by decide) ?_
        exact z_iret h dX11_pay_42 hr (⟨rfl, rfl⟩)
      · skip
        have e1 : ¬ 60 ≤ np := fun q => c_2 ((nI_leI (a := 60) (by omega) (by omega)).mpr q)
        exact absurd ⟨hix, z_bt c_1, by omega⟩ hno
  · skip
    rw [if_neg hix] at hq; subst hq
    refine z_ifnullN h dX11_pay_5 41 (by decide) ?_
    refine z_iconst (v := -1) h dX11_pay_41 (by decide) ?_
    exact z_iret h dX11_pay_42 hr (⟨rfl, rfl⟩)
set_option maxHeartbeats 4000000 in
set_option maxRecDepth 100000 in
theorem m_X11_againno (G : z_G) {nb na np g : Nat} {w0 w : z_w} {c : r_c} {l : r_l} {r : r_r} (hX : XR nb na np g w0 c l r w) (x : Int32) (hno : ¬ ix_ok x np) : z_M G yX11_again cX11_again 2 (some .int) 6 (0) (0) [vr (0, 0), vi x] w (fun q w1 => q = some (vi (-1)) ∧ w1 = w) := by
  refine z_met ym_X11_again (by decide) ⟨Nat.le_of_ble_eq_true rfl, Nat.le_of_ble_eq_true rfl⟩ (fun X hG hn hmc hms hin h hr => ?_)
  have he := hr.2.2.2.2.2.1
  obtain ⟨hR, hnb, hna, hnp, hg6, hc2, hc8, hc12, hr1, hr17, hr26⟩ := id hX
  refine z_iload_n h dX11_again_0 rfl ?_
  refine z_iconst (v := 0) h dX11_again_1 (by decide) ?_
  refine z_aload_n h dX11_again_2 rfl ?_
  refine y_geti h dX11_again_3 hR flX11_285 (by first | assumption | exact Nat.le_of_ble_eq_true rfl) (by first | rfl | assumption | exact tx_2 (by first | assumption | omega) | exact tx_18 (by first | assumption | omega) | exact tx_19 (by first | assumption | omega) | exact tx_20 (by first | assumption | omega) | exact tx_27 (by first | assumption | omega) | exact tx_28 (by first | assumption | omega) | exact tx_30 (by first | assumption | omega) | exact tx_31 (by first | assumption | omega) | exact tx_32 (by first | assumption | omega) | exact tx_33 (by first | assumption | omega)) (by rfl) ?_
  refine z_iconst (v := 1) h dX11_again_6 (by decide) ?_
  refine z_isub h dX11_again_7 ?_
  refine z_callS h dX11_again_8 (fun _ _ q => z_okv_no he q) (fun _ _ _ t q => absurd q (he t)) (m_X11_within _ _ _ _ _) ym_X11_within mlX11_92 sm_X11_within rfl (by decide) (Nat.le_of_ble_eq_true rfl) ?_
  rintro q1 w1 ⟨rfl, hw1⟩
  have hw1 := hw1.symm; subst hw1
  refine z_if_eq h dX11_again_11 24 (by decide) (fun c_1 => ?_) (fun c_1 => ?_)
  · skip
    refine z_iconst (v := -1) h dX11_again_24 (by decide) ?_
    exact z_iret h dX11_again_25 hr (⟨rfl, rfl⟩)
  · skip
    exact absurd ((ix_in (by omega)).mp (by have := z_bt c_1; rw [hc12] at this; exact this)) hno
set_option maxHeartbeats 4000000 in
set_option maxRecDepth 100000 in
theorem m_X12_payno (G : z_G) {g : Nat} {w0 w : z_w} {c : r_c} {l : r_l} {r : r_r} (hR : r_p dM (TM g) w0 c l r w) (np : Nat) (hc3 : c (100, 0) 3 = nI np) (hnp : np ≤ 60) (na : Nat) (hc2 : c (100, 0) 2 = nI na) (hna : na ≤ 100) (x n : Int32) (hno : ¬ (ix_ok x na ∧ (1 ≤ n ∧ n ≤ 1000000) ∧ np < 60)) : z_M G yX12_pay cX12_pay 3 (some .int) 3 (0) (0) [vr (100, 0), vi x, vi n] w (fun q w1 => q = some (vi (-1)) ∧ w1 = w) := by
  refine z_met ym_X12_pay (by decide) ⟨Nat.le_of_ble_eq_true rfl, Nat.le_of_ble_eq_true rfl⟩ (fun X hG hn hmc hms hin h hr => ?_)
  have he := hr.2.2.2.2.2.1
  refine z_aload_n h dX12_pay_0 rfl ?_
  refine z_iload_n h dX12_pay_1 rfl ?_
  refine z_callV h dX12_pay_2 (fun _ _ q => z_okv_no he q) (fun _ _ _ t q => absurd q (he t)) (m_X12_isBar _ hR na hc2 hna x) ym_X12_isBar mlX12_267 im_X12_isBar (ci := 12) rfl se_X12_isBar icX12 rfl (r_p.ob hR (by first | assumption | exact Nat.le_of_ble_eq_true rfl) (by first | rfl | assumption | exact tx_2 (by first | assumption | omega) | exact tx_18 (by first | assumption | omega) | exact tx_19 (by first | assumption | omega) | exact tx_20 (by first | assumption | omega) | exact tx_27 (by first | assumption | omega) | exact tx_28 (by first | assumption | omega) | exact tx_30 (by first | assumption | omega) | exact tx_31 (by first | assumption | omega) | exact tx_32 (by first | assumption | omega) | exact tx_33 (by first | assumption | omega))) rfl (by decide) (Nat.le_of_ble_eq_true rfl) ?_
  rintro q1 w1 ⟨rfl, hw1⟩
  have hw1 := hw1.symm; subst hw1
  refine z_if_eq h dX12_pay_5 27 (by decide) (fun c_1 => ?_) (fun c_1 => ?_)
  · skip
    refine z_iconst (v := -1) h dX12_pay_27 (by decide) ?_
    exact z_iret h dX12_pay_28 hr (⟨rfl, rfl⟩)
  · skip
    refine z_iload_n h dX12_pay_8 rfl ?_
    refine z_iconst (v := 1) h dX12_pay_9 (by decide) ?_
    refine z_ldc h dX12_pay_10 kcX12_194 ?_
    refine z_callS h dX12_pay_12 (fun _ _ q => z_okv_no he q) (fun _ _ _ t q => absurd q (he t)) (m_X12_in _ _ _ _ _) ym_X12_in mlX12_169 sm_X12_in rfl (by decide) (Nat.le_of_ble_eq_true rfl) ?_
    rintro q1 w1 ⟨rfl, hw1⟩
    have hw1 := hw1.symm; subst hw1
    refine z_if_eq h dX12_pay_15 27 (by decide) (fun c_2 => ?_) (fun c_2 => ?_)
    · skip
      refine z_iconst (v := -1) h dX12_pay_27 (by decide) ?_
      exact z_iret h dX12_pay_28 hr (⟨rfl, rfl⟩)
    · skip
      refine z_aload_n h dX12_pay_18 rfl ?_
      refine y_geti h dX12_pay_19 hR flX12_294 (by first | assumption | exact Nat.le_of_ble_eq_true rfl) (by first | rfl | assumption | exact tx_2 (by first | assumption | omega) | exact tx_18 (by first | assumption | omega) | exact tx_19 (by first | assumption | omega) | exact tx_20 (by first | assumption | omega) | exact tx_27 (by first | assumption | omega) | exact tx_28 (by first | assumption | omega) | exact tx_30 (by first | assumption | omega) | exact tx_31 (by first | assumption | omega) | exact tx_32 (by first | assumption | omega) | exact tx_33 (by first | assumption | omega)) (by rfl) ?_
      rw [hc3]
      refine z_bipush (v := 60) h dX12_pay_22 (by decide) ?_
      refine z_icmp_ne h dX12_pay_24 29 (by decide) (fun c_3 => ?_) (fun c_3 => ?_)
      · skip
        have hnp9 : np < 60 := by
          have : np ≠ 60 := fun q => c_3 (by rw [q]; rfl)
          omega
        exact absurd ⟨z_bt c_1, z_bt c_2, hnp9⟩ hno
      · skip
        refine z_iconst (v := -1) h dX12_pay_27 (by decide) ?_
        exact z_iret h dX12_pay_28 hr (⟨rfl, rfl⟩)
set_option maxHeartbeats 4000000 in
set_option maxRecDepth 100000 in
theorem m_X12_againno (G : z_G) {g : Nat} {w0 w : z_w} {c : r_c} {l : r_l} {r : r_r} (hR : r_p dM (TM g) w0 c l r w) (np : Nat) (hc3 : c (100, 0) 3 = nI np) (hnp : np ≤ 60) (x : Int32) (hno : ¬ ix_ok x np) : z_M G yX12_again cX12_again 2 (some .int) 3 (0) (0) [vr (100, 0), vi x] w (fun q w1 => q = some (vi (-1)) ∧ w1 = w) := by
  refine z_met ym_X12_again (by decide) ⟨Nat.le_of_ble_eq_true rfl, Nat.le_of_ble_eq_true rfl⟩ (fun X hG hn hmc hms hin h hr => ?_)
  have he := hr.2.2.2.2.2.1
  refine z_iload_n h dX12_again_0 rfl ?_
  refine z_iconst (v := 0) h dX12_again_1 (by decide) ?_
  refine z_aload_n h dX12_again_2 rfl ?_
  refine y_geti h dX12_again_3 hR flX12_294 (by first | assumption | exact Nat.le_of_ble_eq_true rfl) (by first | rfl | assumption | exact tx_2 (by first | assumption | omega) | exact tx_18 (by first | assumption | omega) | exact tx_19 (by first | assumption | omega) | exact tx_20 (by first | assumption | omega) | exact tx_27 (by first | assumption | omega) | exact tx_28 (by first | assumption | omega) | exact tx_30 (by first | assumption | omega) | exact tx_31 (by first | assumption | omega) | exact tx_32 (by first | assumption | omega) | exact tx_33 (by first | assumption | omega)) (by rfl) ?_
  rw [hc3]
  refine z_iconst (v := 1) h dX12_again_6 (by decide) ?_
  refine z_isub h dX12_again_7 ?_
  refine z_callS h dX12_again_8 (fun _ _ q => z_okv_no he q) (fun _ _ _ t q => absurd q (he t)) (m_X12_in _ _ _ _ _) ym_X12_in mlX12_169 sm_X12_in rfl (by decide) (Nat.le_of_ble_eq_true rfl) ?_
  rintro q1 w1 ⟨rfl, hw1⟩
  have hw1 := hw1.symm; subst hw1
  refine z_if_eq h dX12_again_11 22 (by decide) (fun c_1 => ?_) (fun c_1 => ?_)
  · skip
    refine z_iconst (v := -1) h dX12_again_22 (by decide) ?_
    exact z_iret h dX12_again_23 hr (⟨rfl, rfl⟩)
  · skip
    exact absurd ((ix_in (by omega)).mp (z_bt c_1)) hno
