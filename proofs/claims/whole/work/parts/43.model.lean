/-! the reference: lines, parts -/
theorem nI_mul (a b : Nat) : nI a * nI b = nI (a * b) := by
  unfold nI
  exact (Int32.ofNat_mul a b).symm
set_option maxHeartbeats 4000000 in
set_option maxRecDepth 100000 in
theorem m_X12_part (G : z_G) {g : Nat} {w0 w : z_w} {c : r_c} {l : r_l} {r : r_r} (hR : r_p dM (TM g) w0 c l r w) (nb : Nat) (hc1 : c (100, 0) 1 = nI nb) (hnb : nb ≤ 12) (na : Nat) (hc2 : c (100, 0) 2 = nI na) (hna : na ≤ 100) (x b : Int32) : z_M G yX12_part cX12_part 3 (some .int) 3 (0) (0) [vr (100, 0), vi x, vi b] w (fun q w1 => q = some (vi (if ix_ok x na ∧ ix_ok b nb then c (144, 0) (12 * x.toNatClampNeg + b.toNatClampNeg) else 0)) ∧ w1 = w) := by
  refine z_met ym_X12_part (by decide) ⟨Nat.le_of_ble_eq_true rfl, Nat.le_of_ble_eq_true rfl⟩ (fun X hG hn hmc hms hin h hr => ?_)
  have he := hr.2.2.2.2.2.1
  refine z_aload_n h dX12_part_0 rfl ?_
  refine z_iload_n h dX12_part_1 rfl ?_
  refine z_callV h dX12_part_2 (fun _ _ q => z_okv_no he q) (fun _ _ _ t q => absurd q (he t)) (m_X12_isBar _ hR na hc2 hna x) ym_X12_isBar mlX12_267 im_X12_isBar (ci := 12) rfl se_X12_isBar icX12 rfl (r_p.ob hR (by first | assumption | exact Nat.le_of_ble_eq_true rfl) (by first | rfl | assumption | exact tx_2 (by first | assumption | omega) | exact tx_18 (by first | assumption | omega) | exact tx_19 (by first | assumption | omega) | exact tx_20 (by first | assumption | omega) | exact tx_27 (by first | assumption | omega) | exact tx_28 (by first | assumption | omega) | exact tx_30 (by first | assumption | omega) | exact tx_31 (by first | assumption | omega) | exact tx_32 (by first | assumption | omega) | exact tx_33 (by first | assumption | omega))) rfl (by decide) (Nat.le_of_ble_eq_true rfl) ?_
  rintro q1 w1 ⟨rfl, hw1⟩
  have hw1 := hw1.symm; subst hw1
  refine z_if_eq h dX12_part_5 30 (by decide) (fun c_1 => ?_) (fun c_1 => ?_)
  · skip
    refine z_iconst (v := 0) h dX12_part_30 (by decide) ?_
    exact z_iret h dX12_part_31 hr (⟨z_e1 (if_neg (fun q => z_bf c_1 q.1)).symm, rfl⟩)
  · skip
    refine z_aload_n h dX12_part_8 rfl ?_
    refine z_iload_n h dX12_part_9 rfl ?_
    refine z_callV h dX12_part_10 (fun _ _ q => z_okv_no he q) (fun _ _ _ t q => absurd q (he t)) (m_X12_isBog _ hR nb hc1 hnb b) ym_X12_isBog mlX12_178 im_X12_isBog (ci := 12) rfl se_X12_isBog icX12 rfl (r_p.ob hR (by first | assumption | exact Nat.le_of_ble_eq_true rfl) (by first | rfl | assumption | exact tx_2 (by first | assumption | omega) | exact tx_18 (by first | assumption | omega) | exact tx_19 (by first | assumption | omega) | exact tx_20 (by first | assumption | omega) | exact tx_27 (by first | assumption | omega) | exact tx_28 (by first | assumption | omega) | exact tx_30 (by first | assumption | omega) | exact tx_31 (by first | assumption | omega) | exact tx_32 (by first | assumption | omega) | exact tx_33 (by first | assumption | omega))) rfl (by decide) (Nat.le_of_ble_eq_true rfl) ?_
    rintro q1 w1 ⟨rfl, hw1⟩
    have hw1 := hw1.symm; subst hw1
    refine z_if_eq h dX12_part_13 30 (by decide) (fun c_2 => ?_) (fun c_2 => ?_)
    · skip
      refine z_iconst (v := 0) h dX12_part_30 (by decide) ?_
      exact z_iret h dX12_part_31 hr (⟨z_e1 (if_neg (fun q => z_bf c_2 q.2)).symm, rfl⟩)
    · skip
      refine z_aload_n h dX12_part_16 rfl ?_
      refine y_getr h dX12_part_17 hR flX12_91 (by first | assumption | exact Nat.le_of_ble_eq_true rfl) (by first | rfl | assumption | exact tx_2 (by first | assumption | omega) | exact tx_18 (by first | assumption | omega) | exact tx_19 (by first | assumption | omega) | exact tx_20 (by first | assumption | omega) | exact tx_27 (by first | assumption | omega) | exact tx_28 (by first | assumption | omega) | exact tx_30 (by first | assumption | omega) | exact tx_31 (by first | assumption | omega) | exact tx_32 (by first | assumption | omega) | exact tx_33 (by first | assumption | omega)) (by rfl) ?_
      refine z_bipush (v := 12) h dX12_part_20 (by decide) ?_
      refine z_iload_n h dX12_part_22 rfl ?_
      refine z_imul h dX12_part_23 ?_
      refine z_iload_n h dX12_part_24 rfl ?_
      refine z_iadd h dX12_part_25 ?_
      have l1 := ix_lt (n := na) (z_bt c_1) (by omega)
      have l2 := ix_lt (n := nb) (z_bt c_2) (by omega)
      refine z_toe (y := nI (12 * x.toNatClampNeg + b.toNatClampNeg)) (by rw [show (12 : Int32) * x + b = nI 12 * nI x.toNatClampNeg + nI b.toNatClampNeg from by rw [← ix_eq (n := na) (z_bt c_1), ← ix_eq (n := nb) (z_bt c_2)]; rfl, nI_mul, nI_add]) ?_
      refine y_iald h dX12_part_26 hR (by first | assumption | exact Nat.le_of_ble_eq_true rfl) (by first | rfl | assumption | exact tx_2 (by first | assumption | omega) | exact tx_18 (by first | assumption | omega) | exact tx_19 (by first | assumption | omega) | exact tx_20 (by first | assumption | omega) | exact tx_27 (by first | assumption | omega) | exact tx_28 (by first | assumption | omega) | exact tx_30 (by first | assumption | omega) | exact tx_31 (by first | assumption | omega) | exact tx_32 (by first | assumption | omega) | exact tx_33 (by first | assumption | omega)) (z_ixn (by omega) (by decide)) ?_
      refine z_goto h dX12_part_27 31 (by decide) ?_
      exact z_iret h dX12_part_31 hr (⟨z_e1 (if_pos ⟨z_bt c_1, z_bt c_2⟩).symm, rfl⟩)
set_option maxHeartbeats 4000000 in
set_option maxRecDepth 100000 in
theorem m_X12_burnt (G : z_G) {g : Nat} {w0 w : z_w} {c : r_c} {l : r_l} {r : r_r} (hR : r_p dM (TM g) w0 c l r w) (na : Nat) (hc2 : c (100, 0) 2 = nI na) (hna : na ≤ 100) (x b : Int32) : z_M G yX12_burnt cX12_burnt 3 (some .int) 3 (0) (0) [vr (100, 0), vi x, vi b] w (fun q w1 => q = some (vi (if ix_ok x na ∧ ix_ok b 8 then c (145, 0) (8 * x.toNatClampNeg + b.toNatClampNeg) else 0)) ∧ w1 = w) := by
  refine z_met ym_X12_burnt (by decide) ⟨Nat.le_of_ble_eq_true rfl, Nat.le_of_ble_eq_true rfl⟩ (fun X hG hn hmc hms hin h hr => ?_)
  have he := hr.2.2.2.2.2.1
  refine z_aload_n h dX12_burnt_0 rfl ?_
  refine z_iload_n h dX12_burnt_1 rfl ?_
  refine z_callV h dX12_burnt_2 (fun _ _ q => z_okv_no he q) (fun _ _ _ t q => absurd q (he t)) (m_X12_isBar _ hR na hc2 hna x) ym_X12_isBar mlX12_267 im_X12_isBar (ci := 12) rfl se_X12_isBar icX12 rfl (r_p.ob hR (by first | assumption | exact Nat.le_of_ble_eq_true rfl) (by first | rfl | assumption | exact tx_2 (by first | assumption | omega) | exact tx_18 (by first | assumption | omega) | exact tx_19 (by first | assumption | omega) | exact tx_20 (by first | assumption | omega) | exact tx_27 (by first | assumption | omega) | exact tx_28 (by first | assumption | omega) | exact tx_30 (by first | assumption | omega) | exact tx_31 (by first | assumption | omega) | exact tx_32 (by first | assumption | omega) | exact tx_33 (by first | assumption | omega))) rfl (by decide) (Nat.le_of_ble_eq_true rfl) ?_
  rintro q1 w1 ⟨rfl, hw1⟩
  have hw1 := hw1.symm; subst hw1
  refine z_if_eq h dX12_burnt_5 32 (by decide) (fun c_1 => ?_) (fun c_1 => ?_)
  · skip
    refine z_iconst (v := 0) h dX12_burnt_32 (by decide) ?_
    exact z_iret h dX12_burnt_33 hr (⟨z_e1 (if_neg (fun q => z_bf c_1 q.1)).symm, rfl⟩)
  · skip
    refine z_iload_n h dX12_burnt_8 rfl ?_
    refine z_iconst (v := 0) h dX12_burnt_9 (by decide) ?_
    refine z_bipush (v := 7) h dX12_burnt_10 (by decide) ?_
    refine z_callS h dX12_burnt_12 (fun _ _ q => z_okv_no he q) (fun _ _ _ t q => absurd q (he t)) (m_X12_in _ _ _ _ _) ym_X12_in mlX12_169 sm_X12_in rfl (by decide) (Nat.le_of_ble_eq_true rfl) ?_
    rintro q1 w1 ⟨rfl, hw1⟩
    have hw1 := hw1.symm; subst hw1
    refine z_if_eq h dX12_burnt_15 32 (by decide) (fun c_2 => ?_) (fun c_2 => ?_)
    · skip
      refine z_iconst (v := 0) h dX12_burnt_32 (by decide) ?_
      exact z_iret h dX12_burnt_33 hr (⟨z_e1 (if_neg (fun q => z_bf c_2 ((ix_in (n := 8) (by decide)).mpr q.2))).symm, rfl⟩)
    · skip
      refine z_aload_n h dX12_burnt_18 rfl ?_
      refine y_getr h dX12_burnt_19 hR flX12_94 (by first | assumption | exact Nat.le_of_ble_eq_true rfl) (by first | rfl | assumption | exact tx_2 (by first | assumption | omega) | exact tx_18 (by first | assumption | omega) | exact tx_19 (by first | assumption | omega) | exact tx_20 (by first | assumption | omega) | exact tx_27 (by first | assumption | omega) | exact tx_28 (by first | assumption | omega) | exact tx_30 (by first | assumption | omega) | exact tx_31 (by first | assumption | omega) | exact tx_32 (by first | assumption | omega) | exact tx_33 (by first | assumption | omega)) (by rfl) ?_
      refine z_bipush (v := 8) h dX12_burnt_22 (by decide) ?_
      refine z_iload_n h dX12_burnt_24 rfl ?_
      refine z_imul h dX12_burnt_25 ?_
      refine z_iload_n h dX12_burnt_26 rfl ?_
      refine z_iadd h dX12_burnt_27 ?_
      have h8 := ix8 (z_bt c_2)
      have l1 := ix_lt (n := na) (z_bt c_1) (by omega)
      have l2 := ix_lt h8 (by omega)
      refine z_toe (y := nI (8 * x.toNatClampNeg + b.toNatClampNeg)) (by rw [show (8 : Int32) * x + b = nI 8 * nI x.toNatClampNeg + nI b.toNatClampNeg from by rw [← ix_eq (n := na) (z_bt c_1), ← ix_eq h8]; rfl, nI_mul, nI_add]) ?_
      refine y_iald h dX12_burnt_28 hR (by first | assumption | exact Nat.le_of_ble_eq_true rfl) (by first | rfl | assumption | exact tx_2 (by first | assumption | omega) | exact tx_18 (by first | assumption | omega) | exact tx_19 (by first | assumption | omega) | exact tx_20 (by first | assumption | omega) | exact tx_27 (by first | assumption | omega) | exact tx_28 (by first | assumption | omega) | exact tx_30 (by first | assumption | omega) | exact tx_31 (by first | assumption | omega) | exact tx_32 (by first | assumption | omega) | exact tx_33 (by first | assumption | omega)) (z_ixn (by omega) (by decide)) ?_
      refine z_goto h dX12_burnt_29 33 (by decide) ?_
      exact z_iret h dX12_burnt_33 hr (⟨z_e1 (if_pos ⟨z_bt c_1, h8⟩).symm, rfl⟩)
