/-! the reference: bars asked, rights, lines, furnace -/
set_option maxHeartbeats 4000000 in
set_option maxRecDepth 100000 in
theorem m_X12_sortOf (G : z_G) {g : Nat} {w0 w : z_w} {c : r_c} {l : r_l} {r : r_r} (hR : r_p dM (TM g) w0 c l r w) (j : Nat) (hj : j < 100) : z_M G yX12_sortOf cX12_sortOf 2 (some .int) 1 (0) (0) [vr (100, 0), vi (nI j)] w (fun q w1 => q = some (vi (if 0 < c (148, 0) j - c (149, 0) j / 2 then c (148, 0) j - c (149, 0) j / 2 else 0)) ∧ w1 = w) := by
  refine z_met ym_X12_sortOf (by decide) ⟨Nat.le_of_ble_eq_true rfl, Nat.le_of_ble_eq_true rfl⟩ (fun X hG hn hmc hms hin h hr => ?_)
  have he := hr.2.2.2.2.2.1
  refine z_iconst (v := 0) h dX12_sortOf_0 (by decide) ?_
  refine z_aload_n h dX12_sortOf_1 rfl ?_
  refine y_getr h dX12_sortOf_2 hR flX12_103 (by first | assumption | exact Nat.le_of_ble_eq_true rfl) (by first | rfl | assumption | exact tx_2 (by first | assumption | omega) | exact tx_18 (by first | assumption | omega) | exact tx_19 (by first | assumption | omega) | exact tx_20 (by first | assumption | omega) | exact tx_27 (by first | assumption | omega) | exact tx_28 (by first | assumption | omega) | exact tx_30 (by first | assumption | omega) | exact tx_31 (by first | assumption | omega) | exact tx_32 (by first | assumption | omega) | exact tx_33 (by first | assumption | omega)) (by rfl) ?_
  refine z_iload_n h dX12_sortOf_5 rfl ?_
  refine y_iald h dX12_sortOf_6 hR (by first | assumption | exact Nat.le_of_ble_eq_true rfl) (by first | rfl | assumption | exact tx_2 (by first | assumption | omega) | exact tx_18 (by first | assumption | omega) | exact tx_19 (by first | assumption | omega) | exact tx_20 (by first | assumption | omega) | exact tx_27 (by first | assumption | omega) | exact tx_28 (by first | assumption | omega) | exact tx_30 (by first | assumption | omega) | exact tx_31 (by first | assumption | omega) | exact tx_32 (by first | assumption | omega) | exact tx_33 (by first | assumption | omega)) (z_ixn hj (by decide)) ?_
  refine z_aload_n h dX12_sortOf_7 rfl ?_
  refine y_getr h dX12_sortOf_8 hR flX12_106 (by first | assumption | exact Nat.le_of_ble_eq_true rfl) (by first | rfl | assumption | exact tx_2 (by first | assumption | omega) | exact tx_18 (by first | assumption | omega) | exact tx_19 (by first | assumption | omega) | exact tx_20 (by first | assumption | omega) | exact tx_27 (by first | assumption | omega) | exact tx_28 (by first | assumption | omega) | exact tx_30 (by first | assumption | omega) | exact tx_31 (by first | assumption | omega) | exact tx_32 (by first | assumption | omega) | exact tx_33 (by first | assumption | omega)) (by rfl) ?_
  refine z_iload_n h dX12_sortOf_11 rfl ?_
  refine y_iald h dX12_sortOf_12 hR (by first | assumption | exact Nat.le_of_ble_eq_true rfl) (by first | rfl | assumption | exact tx_2 (by first | assumption | omega) | exact tx_18 (by first | assumption | omega) | exact tx_19 (by first | assumption | omega) | exact tx_20 (by first | assumption | omega) | exact tx_27 (by first | assumption | omega) | exact tx_28 (by first | assumption | omega) | exact tx_30 (by first | assumption | omega) | exact tx_31 (by first | assumption | omega) | exact tx_32 (by first | assumption | omega) | exact tx_33 (by first | assumption | omega)) (z_ixn hj (by decide)) ?_
  refine z_iconst (v := 2) h dX12_sortOf_13 (by decide) ?_
  refine z_idiv h dX12_sortOf_14 (by first | assumption | decide) ?_
  refine z_isub h dX12_sortOf_15 ?_
  refine z_max h dX12_sortOf_16 mlX12_182 sm_Mmax ic_Math co_Mmax (Nat.le_of_ble_eq_true rfl) ?_
  exact z_iret h dX12_sortOf_19 hr (⟨rfl, rfl⟩)
set_option maxHeartbeats 4000000 in
set_option maxRecDepth 100000 in
theorem m_X12_fits (G : z_G) {g : Nat} {w0 w : z_w} {c : r_c} {l : r_l} {r : r_r} (hR : r_p dM (TM g) w0 c l r w) (o j : Nat) (ho : o < 8) (hj : j < 100) : z_M G yX12_fits cX12_fits 3 (some .boolean) 2 (0) (0) [vr (100, 0), vi (nI o), vi (nI j)] w (fun q w1 => q = some (vi (z_b ((if 0 < c (148, 0) j - c (149, 0) j / 2 then c (148, 0) j - c (149, 0) j / 2 else 0) ≤ c (164, 0) o ∧ c (165, 0) o ≤ c (146, 0) j))) ∧ w1 = w) := by
  refine z_met ym_X12_fits (by decide) ⟨Nat.le_of_ble_eq_true rfl, Nat.le_of_ble_eq_true rfl⟩ (fun X hG hn hmc hms hin h hr => ?_)
  have he := hr.2.2.2.2.2.1
  refine z_aload_n h dX12_fits_0 rfl ?_
  refine z_iload_n h dX12_fits_1 rfl ?_
  refine z_callV h dX12_fits_2 (fun _ _ q => z_okv_no he q) (fun _ _ _ t q => absurd q (he t)) (m_X12_sortOf _ hR j hj) ym_X12_sortOf mlX12_276 im_X12_sortOf (ci := 12) rfl se_X12_sortOf icX12 rfl (r_p.ob hR (by first | assumption | exact Nat.le_of_ble_eq_true rfl) (by first | rfl | assumption | exact tx_2 (by first | assumption | omega) | exact tx_18 (by first | assumption | omega) | exact tx_19 (by first | assumption | omega) | exact tx_20 (by first | assumption | omega) | exact tx_27 (by first | assumption | omega) | exact tx_28 (by first | assumption | omega) | exact tx_30 (by first | assumption | omega) | exact tx_31 (by first | assumption | omega) | exact tx_32 (by first | assumption | omega) | exact tx_33 (by first | assumption | omega))) rfl (by decide) (Nat.le_of_ble_eq_true rfl) ?_
  rintro q1 w1 ⟨rfl, hw1⟩
  have hw1 := hw1.symm; subst hw1
  refine z_aload_n h dX12_fits_5 rfl ?_
  refine y_getr h dX12_fits_6 hR flX12_151 (by first | assumption | exact Nat.le_of_ble_eq_true rfl) (by first | rfl | assumption | exact tx_2 (by first | assumption | omega) | exact tx_18 (by first | assumption | omega) | exact tx_19 (by first | assumption | omega) | exact tx_20 (by first | assumption | omega) | exact tx_27 (by first | assumption | omega) | exact tx_28 (by first | assumption | omega) | exact tx_30 (by first | assumption | omega) | exact tx_31 (by first | assumption | omega) | exact tx_32 (by first | assumption | omega) | exact tx_33 (by first | assumption | omega)) (by rfl) ?_
  refine z_iload_n h dX12_fits_9 rfl ?_
  refine y_iald h dX12_fits_10 hR (by first | assumption | exact Nat.le_of_ble_eq_true rfl) (by first | rfl | assumption | exact tx_2 (by first | assumption | omega) | exact tx_18 (by first | assumption | omega) | exact tx_19 (by first | assumption | omega) | exact tx_20 (by first | assumption | omega) | exact tx_27 (by first | assumption | omega) | exact tx_28 (by first | assumption | omega) | exact tx_30 (by first | assumption | omega) | exact tx_31 (by first | assumption | omega) | exact tx_32 (by first | assumption | omega) | exact tx_33 (by first | assumption | omega)) (z_ixn ho (by decide)) ?_
  refine z_icmp_gt h dX12_fits_11 33 (by decide) (fun c_1 => ?_) (fun c_1 => ?_)
  · skip
    refine z_iconst (v := 0) h dX12_fits_33 (by decide) ?_
    exact z_zret h dX12_fits_34 hr rfl (⟨z_ret0 (fun q => absurd q.1 (Int32.not_le.mpr c_1)), rfl⟩)
  · skip
    refine z_aload_n h dX12_fits_14 rfl ?_
    refine y_getr h dX12_fits_15 hR flX12_97 (by first | assumption | exact Nat.le_of_ble_eq_true rfl) (by first | rfl | assumption | exact tx_2 (by first | assumption | omega) | exact tx_18 (by first | assumption | omega) | exact tx_19 (by first | assumption | omega) | exact tx_20 (by first | assumption | omega) | exact tx_27 (by first | assumption | omega) | exact tx_28 (by first | assumption | omega) | exact tx_30 (by first | assumption | omega) | exact tx_31 (by first | assumption | omega) | exact tx_32 (by first | assumption | omega) | exact tx_33 (by first | assumption | omega)) (by rfl) ?_
    refine z_iload_n h dX12_fits_18 rfl ?_
    refine y_iald h dX12_fits_19 hR (by first | assumption | exact Nat.le_of_ble_eq_true rfl) (by first | rfl | assumption | exact tx_2 (by first | assumption | omega) | exact tx_18 (by first | assumption | omega) | exact tx_19 (by first | assumption | omega) | exact tx_20 (by first | assumption | omega) | exact tx_27 (by first | assumption | omega) | exact tx_28 (by first | assumption | omega) | exact tx_30 (by first | assumption | omega) | exact tx_31 (by first | assumption | omega) | exact tx_32 (by first | assumption | omega) | exact tx_33 (by first | assumption | omega)) (z_ixn hj (by decide)) ?_
    refine z_aload_n h dX12_fits_20 rfl ?_
    refine y_getr h dX12_fits_21 hR flX12_154 (by first | assumption | exact Nat.le_of_ble_eq_true rfl) (by first | rfl | assumption | exact tx_2 (by first | assumption | omega) | exact tx_18 (by first | assumption | omega) | exact tx_19 (by first | assumption | omega) | exact tx_20 (by first | assumption | omega) | exact tx_27 (by first | assumption | omega) | exact tx_28 (by first | assumption | omega) | exact tx_30 (by first | assumption | omega) | exact tx_31 (by first | assumption | omega) | exact tx_32 (by first | assumption | omega) | exact tx_33 (by first | assumption | omega)) (by rfl) ?_
    refine z_iload_n h dX12_fits_24 rfl ?_
    refine y_iald h dX12_fits_25 hR (by first | assumption | exact Nat.le_of_ble_eq_true rfl) (by first | rfl | assumption | exact tx_2 (by first | assumption | omega) | exact tx_18 (by first | assumption | omega) | exact tx_19 (by first | assumption | omega) | exact tx_20 (by first | assumption | omega) | exact tx_27 (by first | assumption | omega) | exact tx_28 (by first | assumption | omega) | exact tx_30 (by first | assumption | omega) | exact tx_31 (by first | assumption | omega) | exact tx_32 (by first | assumption | omega) | exact tx_33 (by first | assumption | omega)) (z_ixn ho (by decide)) ?_
    refine z_icmp_lt h dX12_fits_26 33 (by decide) (fun c_2 => ?_) (fun c_2 => ?_)
    · skip
      refine z_iconst (v := 0) h dX12_fits_33 (by decide) ?_
      exact z_zret h dX12_fits_34 hr rfl (⟨z_ret0 (fun q => absurd q.2 (Int32.not_le.mpr c_2)), rfl⟩)
    · skip
      refine z_iconst (v := 1) h dX12_fits_29 (by decide) ?_
      refine z_goto h dX12_fits_30 34 (by decide) ?_
      exact z_zret h dX12_fits_34 hr rfl (⟨z_ret1 ⟨Int32.not_lt.mp c_1, Int32.not_lt.mp c_2⟩, rfl⟩)
set_option maxHeartbeats 4000000 in
set_option maxRecDepth 100000 in
theorem m_X12_coins (G : z_G) {g : Nat} {w0 w : z_w} {c : r_c} {l : r_l} {r : r_r} (hR : r_p dM (TM g) w0 c l r w) (x : Int32) : z_M G yX12_coins cX12_coins 2 (some .int) 2 (0) (0) [vr (100, 0), vi x] w (fun q w1 => q = some (vi (if ix_ok x 8 then c (159, 0) x.toNatClampNeg else 0)) ∧ w1 = w) := by
  refine z_met ym_X12_coins (by decide) ⟨Nat.le_of_ble_eq_true rfl, Nat.le_of_ble_eq_true rfl⟩ (fun X hG hn hmc hms hin h hr => ?_)
  have he := hr.2.2.2.2.2.1
  refine z_iload_n h dX12_coins_0 rfl ?_
  refine z_iconst (v := 0) h dX12_coins_1 (by decide) ?_
  refine z_bipush (v := 7) h dX12_coins_2 (by decide) ?_
  refine z_callS h dX12_coins_4 (fun _ _ q => z_okv_no he q) (fun _ _ _ t q => absurd q (he t)) (m_X12_in _ _ _ _ _) ym_X12_in mlX12_169 sm_X12_in rfl (by decide) (Nat.le_of_ble_eq_true rfl) ?_
  rintro q1 w1 ⟨rfl, hw1⟩
  have hw1 := hw1.symm; subst hw1
  refine z_if_eq h dX12_coins_7 19 (by decide) (fun c_1 => ?_) (fun c_1 => ?_)
  · skip
    refine z_iconst (v := 0) h dX12_coins_19 (by decide) ?_
    exact z_iret h dX12_coins_20 hr (⟨z_e1 (if_neg (fun q => z_bf c_1 ((ix_in (n := 8) (by decide)).mpr q))).symm, rfl⟩)
  · skip
    refine z_aload_n h dX12_coins_10 rfl ?_
    refine y_getr h dX12_coins_11 hR flX12_136 (by first | assumption | exact Nat.le_of_ble_eq_true rfl) (by first | rfl | assumption | exact tx_2 (by first | assumption | omega) | exact tx_18 (by first | assumption | omega) | exact tx_19 (by first | assumption | omega) | exact tx_20 (by first | assumption | omega) | exact tx_27 (by first | assumption | omega) | exact tx_28 (by first | assumption | omega) | exact tx_30 (by first | assumption | omega) | exact tx_31 (by first | assumption | omega) | exact tx_32 (by first | assumption | omega) | exact tx_33 (by first | assumption | omega)) (by rfl) ?_
    refine z_iload_n h dX12_coins_14 rfl ?_
    refine y_iald h dX12_coins_15 hR (by first | assumption | exact Nat.le_of_ble_eq_true rfl) (by first | rfl | assumption | exact tx_2 (by first | assumption | omega) | exact tx_18 (by first | assumption | omega) | exact tx_19 (by first | assumption | omega) | exact tx_20 (by first | assumption | omega) | exact tx_27 (by first | assumption | omega) | exact tx_28 (by first | assumption | omega) | exact tx_30 (by first | assumption | omega) | exact tx_31 (by first | assumption | omega) | exact tx_32 (by first | assumption | omega) | exact tx_33 (by first | assumption | omega)) (z_ixc (ix8 (z_bt c_1)).1 (ix8 (z_bt c_1)).2 (by decide)) ?_
    refine z_goto h dX12_coins_16 20 (by decide) ?_
    exact z_iret h dX12_coins_20 hr (⟨z_e1 (if_pos (ix8 (z_bt c_1))).symm, rfl⟩)
set_option maxHeartbeats 4000000 in
set_option maxRecDepth 100000 in
theorem m_X12_right (G : z_G) {g : Nat} {w0 w : z_w} {c : r_c} {l : r_l} {r : r_r} (hR : r_p dM (TM g) w0 c l r w) (nb : Nat) (hc1 : c (100, 0) 1 = nI nb) (hnb : nb ≤ 12) (nr : Nat) (hc6 : c (100, 0) 6 = nI nr) (hnr : nr ≤ 100) (b h_ p f : Int32) : z_M G yX12_right cX12_right 5 (some .boolean) 3 (0) (0) [vr (100, 0), vi b, vi h_, vi p, vi f] w (fun q w1 => if (ix_ok b nb ∧ (0 ≤ h_ ∧ h_ ≤ 7) ∧ (0 ≤ p ∧ p ≤ 100) ∧ (0 ≤ f ∧ f ≤ 200)) ∧ nr < 100 then q = some (vi 1) ∧ r_p dM (TM g) w0 (r_cs (r_cs (r_cs (r_cs (r_cs c (151, 0) nr b) (152, 0) nr h_) (153, 0) nr p) (154, 0) nr f) (100, 0) 6 (nI (nr + 1))) (l) (r) w1 else q = some (vi 0) ∧ w1 = w) := by
  refine z_met ym_X12_right (by decide) ⟨Nat.le_of_ble_eq_true rfl, Nat.le_of_ble_eq_true rfl⟩ (fun X hG hn hmc hms hin h hr => ?_)
  have he := hr.2.2.2.2.2.1
  refine z_aload_n h dX12_right_0 rfl ?_
  refine z_iload_n h dX12_right_1 rfl ?_
  refine z_callV h dX12_right_2 (fun _ _ q => z_okv_no he q) (fun _ _ _ t q => absurd q (he t)) (m_X12_isBog _ hR nb hc1 hnb b) ym_X12_isBog mlX12_178 im_X12_isBog (ci := 12) rfl se_X12_isBog icX12 rfl (r_p.ob hR (by first | assumption | exact Nat.le_of_ble_eq_true rfl) (by first | rfl | assumption | exact tx_2 (by first | assumption | omega) | exact tx_18 (by first | assumption | omega) | exact tx_19 (by first | assumption | omega) | exact tx_20 (by first | assumption | omega) | exact tx_27 (by first | assumption | omega) | exact tx_28 (by first | assumption | omega) | exact tx_30 (by first | assumption | omega) | exact tx_31 (by first | assumption | omega) | exact tx_32 (by first | assumption | omega) | exact tx_33 (by first | assumption | omega))) rfl (by decide) (Nat.le_of_ble_eq_true rfl) ?_
  rintro q1 w1 ⟨rfl, hw1⟩
  have hw1 := hw1.symm; subst hw1
  refine z_if_eq h dX12_right_5 49 (by decide) (fun c_1 => ?_) (fun c_1 => ?_)
  · skip
    refine z_iconst (v := 0) h dX12_right_49 (by decide) ?_
    exact z_zret h dX12_right_50 hr rfl (z_f (fun q => z_bf c_1 q.1.1) ⟨rfl, rfl⟩)
  · skip
    refine z_iload_n h dX12_right_8 rfl ?_
    refine z_iconst (v := 0) h dX12_right_9 (by decide) ?_
    refine z_bipush (v := 7) h dX12_right_10 (by decide) ?_
    refine z_callS h dX12_right_12 (fun _ _ q => z_okv_no he q) (fun _ _ _ t q => absurd q (he t)) (m_X12_in _ _ _ _ _) ym_X12_in mlX12_169 sm_X12_in rfl (by decide) (Nat.le_of_ble_eq_true rfl) ?_
    rintro q1 w1 ⟨rfl, hw1⟩
    have hw1 := hw1.symm; subst hw1
    refine z_if_eq h dX12_right_15 49 (by decide) (fun c_2 => ?_) (fun c_2 => ?_)
    · skip
      refine z_iconst (v := 0) h dX12_right_49 (by decide) ?_
      exact z_zret h dX12_right_50 hr rfl (z_f (fun q => z_bf c_2 q.1.2.1) ⟨rfl, rfl⟩)
    · skip
      refine z_iload_n h dX12_right_18 rfl ?_
      refine z_iconst (v := 0) h dX12_right_19 (by decide) ?_
      refine z_bipush (v := 100) h dX12_right_20 (by decide) ?_
      refine z_callS h dX12_right_22 (fun _ _ q => z_okv_no he q) (fun _ _ _ t q => absurd q (he t)) (m_X12_in _ _ _ _ _) ym_X12_in mlX12_169 sm_X12_in rfl (by decide) (Nat.le_of_ble_eq_true rfl) ?_
      rintro q1 w1 ⟨rfl, hw1⟩
      have hw1 := hw1.symm; subst hw1
      refine z_if_eq h dX12_right_25 49 (by decide) (fun c_3 => ?_) (fun c_3 => ?_)
      · skip
        refine z_iconst (v := 0) h dX12_right_49 (by decide) ?_
        exact z_zret h dX12_right_50 hr rfl (z_f (fun q => z_bf c_3 q.1.2.2.1) ⟨rfl, rfl⟩)
      · skip
        refine z_iload h dX12_right_28 rfl ?_
        refine z_iconst (v := 0) h dX12_right_30 (by decide) ?_
        refine z_sipush (v := 200) h dX12_right_31 (by decide) ?_
        refine z_callS h dX12_right_34 (fun _ _ q => z_okv_no he q) (fun _ _ _ t q => absurd q (he t)) (m_X12_in _ _ _ _ _) ym_X12_in mlX12_169 sm_X12_in rfl (by decide) (Nat.le_of_ble_eq_true rfl) ?_
        rintro q1 w1 ⟨rfl, hw1⟩
        have hw1 := hw1.symm; subst hw1
        refine z_if_eq h dX12_right_37 49 (by decide) (fun c_4 => ?_) (fun c_4 => ?_)
        · skip
          refine z_iconst (v := 0) h dX12_right_49 (by decide) ?_
          exact z_zret h dX12_right_50 hr rfl (z_f (fun q => z_bf c_4 q.1.2.2.2) ⟨rfl, rfl⟩)
        · skip
          refine z_aload_n h dX12_right_40 rfl ?_
          refine y_geti h dX12_right_41 hR flX12_280 (by first | assumption | exact Nat.le_of_ble_eq_true rfl) (by first | rfl | assumption | exact tx_2 (by first | assumption | omega) | exact tx_18 (by first | assumption | omega) | exact tx_19 (by first | assumption | omega) | exact tx_20 (by first | assumption | omega) | exact tx_27 (by first | assumption | omega) | exact tx_28 (by first | assumption | omega) | exact tx_30 (by first | assumption | omega) | exact tx_31 (by first | assumption | omega) | exact tx_32 (by first | assumption | omega) | exact tx_33 (by first | assumption | omega)) (by rfl) ?_
          rw [hc6]
          refine z_bipush (v := 100) h dX12_right_44 (by decide) ?_
          refine z_icmp_ne h dX12_right_46 51 (by decide) (fun c_5 => ?_) (fun c_5 => ?_)
          · skip
            have e1 : ¬ nr = 100 := fun q => c_5 ((nI_eq (a := nr) (b := 100) (by omega) (by omega)).mpr q)
            refine z_aload_n h dX12_right_51 rfl ?_
            refine y_getr h dX12_right_52 hR flX12_112 (by first | assumption | exact Nat.le_of_ble_eq_true rfl) (by first | rfl | assumption | exact tx_2 (by first | assumption | omega) | exact tx_18 (by first | assumption | omega) | exact tx_19 (by first | assumption | omega) | exact tx_20 (by first | assumption | omega) | exact tx_27 (by first | assumption | omega) | exact tx_28 (by first | assumption | omega) | exact tx_30 (by first | assumption | omega) | exact tx_31 (by first | assumption | omega) | exact tx_32 (by first | assumption | omega) | exact tx_33 (by first | assumption | omega)) (by rfl) ?_
            refine z_aload_n h dX12_right_55 rfl ?_
            refine y_geti h dX12_right_56 hR flX12_280 (by first | assumption | exact Nat.le_of_ble_eq_true rfl) (by first | rfl | assumption | exact tx_2 (by first | assumption | omega) | exact tx_18 (by first | assumption | omega) | exact tx_19 (by first | assumption | omega) | exact tx_20 (by first | assumption | omega) | exact tx_27 (by first | assumption | omega) | exact tx_28 (by first | assumption | omega) | exact tx_30 (by first | assumption | omega) | exact tx_31 (by first | assumption | omega) | exact tx_32 (by first | assumption | omega) | exact tx_33 (by first | assumption | omega)) (by rfl) ?_
            refine z_iload_n h dX12_right_59 rfl ?_
            refine y_iast h dX12_right_60 hR (by first | assumption | exact Nat.le_of_ble_eq_true rfl) (by first | rfl | assumption | exact tx_2 (by first | assumption | omega) | exact tx_18 (by first | assumption | omega) | exact tx_19 (by first | assumption | omega) | exact tx_20 (by first | assumption | omega) | exact tx_27 (by first | assumption | omega) | exact tx_28 (by first | assumption | omega) | exact tx_30 (by first | assumption | omega) | exact tx_31 (by first | assumption | omega) | exact tx_32 (by first | assumption | omega) | exact tx_33 (by first | assumption | omega)) (z_ixe (show _ = nI nr from hc6) (by omega) (by omega)) (fun w hR => ?_)
            refine z_aload_n h dX12_right_61 rfl ?_
            refine y_getr h dX12_right_62 hR flX12_115 (by first | assumption | exact Nat.le_of_ble_eq_true rfl) (by first | rfl | assumption | exact tx_2 (by first | assumption | omega) | exact tx_18 (by first | assumption | omega) | exact tx_19 (by first | assumption | omega) | exact tx_20 (by first | assumption | omega) | exact tx_27 (by first | assumption | omega) | exact tx_28 (by first | assumption | omega) | exact tx_30 (by first | assumption | omega) | exact tx_31 (by first | assumption | omega) | exact tx_32 (by first | assumption | omega) | exact tx_33 (by first | assumption | omega)) (by rfl) ?_
            refine z_aload_n h dX12_right_65 rfl ?_
            refine y_geti h dX12_right_66 hR flX12_280 (by first | assumption | exact Nat.le_of_ble_eq_true rfl) (by first | rfl | assumption | exact tx_2 (by first | assumption | omega) | exact tx_18 (by first | assumption | omega) | exact tx_19 (by first | assumption | omega) | exact tx_20 (by first | assumption | omega) | exact tx_27 (by first | assumption | omega) | exact tx_28 (by first | assumption | omega) | exact tx_30 (by first | assumption | omega) | exact tx_31 (by first | assumption | omega) | exact tx_32 (by first | assumption | omega) | exact tx_33 (by first | assumption | omega)) (by rfl) ?_
            refine z_iload_n h dX12_right_69 rfl ?_
            refine y_iast h dX12_right_70 hR (by first | assumption | exact Nat.le_of_ble_eq_true rfl) (by first | rfl | assumption | exact tx_2 (by first | assumption | omega) | exact tx_18 (by first | assumption | omega) | exact tx_19 (by first | assumption | omega) | exact tx_20 (by first | assumption | omega) | exact tx_27 (by first | assumption | omega) | exact tx_28 (by first | assumption | omega) | exact tx_30 (by first | assumption | omega) | exact tx_31 (by first | assumption | omega) | exact tx_32 (by first | assumption | omega) | exact tx_33 (by first | assumption | omega)) (z_ixe (show _ = nI nr from hc6) (by omega) (by omega)) (fun w hR => ?_)
            refine z_aload_n h dX12_right_71 rfl ?_
            refine y_getr h dX12_right_72 hR flX12_118 (by first | assumption | exact Nat.le_of_ble_eq_true rfl) (by first | rfl | assumption | exact tx_2 (by first | assumption | omega) | exact tx_18 (by first | assumption | omega) | exact tx_19 (by first | assumption | omega) | exact tx_20 (by first | assumption | omega) | exact tx_27 (by first | assumption | omega) | exact tx_28 (by first | assumption | omega) | exact tx_30 (by first | assumption | omega) | exact tx_31 (by first | assumption | omega) | exact tx_32 (by first | assumption | omega) | exact tx_33 (by first | assumption | omega)) (by rfl) ?_
            refine z_aload_n h dX12_right_75 rfl ?_
            refine y_geti h dX12_right_76 hR flX12_280 (by first | assumption | exact Nat.le_of_ble_eq_true rfl) (by first | rfl | assumption | exact tx_2 (by first | assumption | omega) | exact tx_18 (by first | assumption | omega) | exact tx_19 (by first | assumption | omega) | exact tx_20 (by first | assumption | omega) | exact tx_27 (by first | assumption | omega) | exact tx_28 (by first | assumption | omega) | exact tx_30 (by first | assumption | omega) | exact tx_31 (by first | assumption | omega) | exact tx_32 (by first | assumption | omega) | exact tx_33 (by first | assumption | omega)) (by rfl) ?_
            refine z_iload_n h dX12_right_79 rfl ?_
            refine y_iast h dX12_right_80 hR (by first | assumption | exact Nat.le_of_ble_eq_true rfl) (by first | rfl | assumption | exact tx_2 (by first | assumption | omega) | exact tx_18 (by first | assumption | omega) | exact tx_19 (by first | assumption | omega) | exact tx_20 (by first | assumption | omega) | exact tx_27 (by first | assumption | omega) | exact tx_28 (by first | assumption | omega) | exact tx_30 (by first | assumption | omega) | exact tx_31 (by first | assumption | omega) | exact tx_32 (by first | assumption | omega) | exact tx_33 (by first | assumption | omega)) (z_ixe (show _ = nI nr from hc6) (by omega) (by omega)) (fun w hR => ?_)
            refine z_aload_n h dX12_right_81 rfl ?_
            refine y_getr h dX12_right_82 hR flX12_121 (by first | assumption | exact Nat.le_of_ble_eq_true rfl) (by first | rfl | assumption | exact tx_2 (by first | assumption | omega) | exact tx_18 (by first | assumption | omega) | exact tx_19 (by first | assumption | omega) | exact tx_20 (by first | assumption | omega) | exact tx_27 (by first | assumption | omega) | exact tx_28 (by first | assumption | omega) | exact tx_30 (by first | assumption | omega) | exact tx_31 (by first | assumption | omega) | exact tx_32 (by first | assumption | omega) | exact tx_33 (by first | assumption | omega)) (by rfl) ?_
            refine z_aload_n h dX12_right_85 rfl ?_
            refine y_geti h dX12_right_86 hR flX12_280 (by first | assumption | exact Nat.le_of_ble_eq_true rfl) (by first | rfl | assumption | exact tx_2 (by first | assumption | omega) | exact tx_18 (by first | assumption | omega) | exact tx_19 (by first | assumption | omega) | exact tx_20 (by first | assumption | omega) | exact tx_27 (by first | assumption | omega) | exact tx_28 (by first | assumption | omega) | exact tx_30 (by first | assumption | omega) | exact tx_31 (by first | assumption | omega) | exact tx_32 (by first | assumption | omega) | exact tx_33 (by first | assumption | omega)) (by rfl) ?_
            refine z_iload h dX12_right_89 rfl ?_
            refine y_iast h dX12_right_91 hR (by first | assumption | exact Nat.le_of_ble_eq_true rfl) (by first | rfl | assumption | exact tx_2 (by first | assumption | omega) | exact tx_18 (by first | assumption | omega) | exact tx_19 (by first | assumption | omega) | exact tx_20 (by first | assumption | omega) | exact tx_27 (by first | assumption | omega) | exact tx_28 (by first | assumption | omega) | exact tx_30 (by first | assumption | omega) | exact tx_31 (by first | assumption | omega) | exact tx_32 (by first | assumption | omega) | exact tx_33 (by first | assumption | omega)) (z_ixe (show _ = nI nr from hc6) (by omega) (by omega)) (fun w hR => ?_)
            refine z_aload_n h dX12_right_92 rfl ?_
            refine z_dup_r h dX12_right_93 ?_
            refine y_geti h dX12_right_94 hR flX12_280 (by first | assumption | exact Nat.le_of_ble_eq_true rfl) (by first | rfl | assumption | exact tx_2 (by first | assumption | omega) | exact tx_18 (by first | assumption | omega) | exact tx_19 (by first | assumption | omega) | exact tx_20 (by first | assumption | omega) | exact tx_27 (by first | assumption | omega) | exact tx_28 (by first | assumption | omega) | exact tx_30 (by first | assumption | omega) | exact tx_31 (by first | assumption | omega) | exact tx_32 (by first | assumption | omega) | exact tx_33 (by first | assumption | omega)) (by rfl) ?_
            refine z_iconst (v := 1) h dX12_right_97 (by decide) ?_
            refine z_iadd h dX12_right_98 ?_
            refine z_toe (y := nI (nr + 1)) (by show c (100, 0) 6 + 1 = _; rw [hc6]; exact z_up nr) ?_
            refine y_put h dX12_right_99 he hR flX12_280 rfl (by first | assumption | exact Nat.le_of_ble_eq_true rfl) (by first | rfl | assumption | exact tx_2 (by first | assumption | omega) | exact tx_18 (by first | assumption | omega) | exact tx_19 (by first | assumption | omega) | exact tx_20 (by first | assumption | omega) | exact tx_27 (by first | assumption | omega) | exact tx_28 (by first | assumption | omega) | exact tx_30 (by first | assumption | omega) | exact tx_31 (by first | assumption | omega) | exact tx_32 (by first | assumption | omega) | exact tx_33 (by first | assumption | omega)) (by rfl) (fun w hR => ?_)
            refine z_iconst (v := 1) h dX12_right_102 (by decide) ?_
            exact z_zret h dX12_right_103 hr rfl (z_t ⟨⟨z_bt c_1, z_bt c_2, z_bt c_3, z_bt c_4⟩, by omega⟩ ⟨rfl, hR⟩)
          · skip
            have e1 : nr = 100 := (nI_eq (a := nr) (b := 100) (by omega) (by omega)).mp c_5
            refine z_iconst (v := 0) h dX12_right_49 (by decide) ?_
            exact z_zret h dX12_right_50 hr rfl (z_f (fun q => by omega) ⟨rfl, rfl⟩)
set_option maxHeartbeats 4000000 in
set_option maxRecDepth 100000 in
theorem m_X12_furnace (G : z_G) {g : Nat} {w0 w : z_w} {c : r_c} {l : r_l} {r : r_r} (hR : r_p dM (TM g) w0 c l r w) (x : Int32) : z_M G yX12_furnace cX12_furnace 2 (some .int) 2 (0) (0) [vr (100, 0), vi x] w (fun q w1 => q = some (vi (n_sel x [(0, c (100, 0) 23), (1, c (100, 0) 25), (2, c (100, 0) 26), (3, z_sum (c (119, 0)) 12), (4, z_sum (c (120, 0)) 8 - c (100, 0) 22), (5, z_sum (c (121, 0)) 12), (6, c (100, 0) 24), (7, c (100, 0) 27), (8, c (100, 0) 28)] (-1))) ∧ w1 = w) := by
  refine z_met ym_X12_furnace (by decide) ⟨Nat.le_of_ble_eq_true rfl, Nat.le_of_ble_eq_true rfl⟩ (fun X hG hn hmc hms hin h hr => ?_)
  have he := hr.2.2.2.2.2.1
  refine z_iload_n h dX12_furnace_0 rfl ?_
  by_cases s_1_0 : x = 0
  · skip
    refine z_tblIn h dX12_furnace_1 52 (off := 51) (by rw [s_1_0]; decide) (by rw [s_1_0]; decide) (by rw [s_1_0]; rfl) (by decide) ?_
    refine z_aload_n h dX12_furnace_52 rfl ?_
    refine y_geti h dX12_furnace_53 hR flX12_209 (by first | assumption | exact Nat.le_of_ble_eq_true rfl) (by first | rfl | assumption | exact tx_2 (by first | assumption | omega) | exact tx_18 (by first | assumption | omega) | exact tx_19 (by first | assumption | omega) | exact tx_20 (by first | assumption | omega) | exact tx_27 (by first | assumption | omega) | exact tx_28 (by first | assumption | omega) | exact tx_30 (by first | assumption | omega) | exact tx_31 (by first | assumption | omega) | exact tx_32 (by first | assumption | omega) | exact tx_33 (by first | assumption | omega)) (by rfl) ?_
    exact z_iret h dX12_furnace_56 hr (⟨z_e1 (by rw [s_1_0]; rfl), rfl⟩)
  by_cases s_1_1 : x = 1
  · skip
    refine z_tblIn h dX12_furnace_1 57 (off := 56) (by rw [s_1_1]; decide) (by rw [s_1_1]; decide) (by rw [s_1_1]; rfl) (by decide) ?_
    refine z_aload_n h dX12_furnace_57 rfl ?_
    refine y_geti h dX12_furnace_58 hR flX12_212 (by first | assumption | exact Nat.le_of_ble_eq_true rfl) (by first | rfl | assumption | exact tx_2 (by first | assumption | omega) | exact tx_18 (by first | assumption | omega) | exact tx_19 (by first | assumption | omega) | exact tx_20 (by first | assumption | omega) | exact tx_27 (by first | assumption | omega) | exact tx_28 (by first | assumption | omega) | exact tx_30 (by first | assumption | omega) | exact tx_31 (by first | assumption | omega) | exact tx_32 (by first | assumption | omega) | exact tx_33 (by first | assumption | omega)) (by rfl) ?_
    exact z_iret h dX12_furnace_61 hr (⟨z_e1 (by rw [s_1_1]; rfl), rfl⟩)
  by_cases s_1_2 : x = 2
  · skip
    refine z_tblIn h dX12_furnace_1 62 (off := 61) (by rw [s_1_2]; decide) (by rw [s_1_2]; decide) (by rw [s_1_2]; rfl) (by decide) ?_
    refine z_aload_n h dX12_furnace_62 rfl ?_
    refine y_geti h dX12_furnace_63 hR flX12_221 (by first | assumption | exact Nat.le_of_ble_eq_true rfl) (by first | rfl | assumption | exact tx_2 (by first | assumption | omega) | exact tx_18 (by first | assumption | omega) | exact tx_19 (by first | assumption | omega) | exact tx_20 (by first | assumption | omega) | exact tx_27 (by first | assumption | omega) | exact tx_28 (by first | assumption | omega) | exact tx_30 (by first | assumption | omega) | exact tx_31 (by first | assumption | omega) | exact tx_32 (by first | assumption | omega) | exact tx_33 (by first | assumption | omega)) (by rfl) ?_
    exact z_iret h dX12_furnace_66 hr (⟨z_e1 (by rw [s_1_2]; rfl), rfl⟩)
  by_cases s_1_3 : x = 3
  · skip
    refine z_tblIn h dX12_furnace_1 67 (off := 66) (by rw [s_1_3]; decide) (by rw [s_1_3]; decide) (by rw [s_1_3]; rfl) (by decide) ?_
    refine z_aload_n h dX12_furnace_67 rfl ?_
    refine y_getr h dX12_furnace_68 hR flX12_45 (by first | assumption | exact Nat.le_of_ble_eq_true rfl) (by first | rfl | assumption | exact tx_2 (by first | assumption | omega) | exact tx_18 (by first | assumption | omega) | exact tx_19 (by first | assumption | omega) | exact tx_20 (by first | assumption | omega) | exact tx_27 (by first | assumption | omega) | exact tx_28 (by first | assumption | omega) | exact tx_30 (by first | assumption | omega) | exact tx_31 (by first | assumption | omega) | exact tx_32 (by first | assumption | omega) | exact tx_33 (by first | assumption | omega)) (by rfl) ?_
    refine z_callS h dX12_furnace_71 (fun _ _ q => z_okv_no he q) (fun _ _ _ t q => absurd q (he t)) (m_X12_sum _ _ (119, 0) 12 (c (119, 0)) (hR.ia (Nat.le_of_ble_eq_true rfl) rfl) (by decide)) ym_X12_sum mlX12_195 sm_X12_sum rfl (by decide) (Nat.le_of_ble_eq_true rfl) ?_
    rintro q1 w1 ⟨rfl, hw1⟩
    have hw1 := hw1.symm; subst hw1
    exact z_iret h dX12_furnace_74 hr (⟨z_e1 (by rw [s_1_3]; rfl), rfl⟩)
  by_cases s_1_4 : x = 4
  · skip
    refine z_tblIn h dX12_furnace_1 75 (off := 74) (by rw [s_1_4]; decide) (by rw [s_1_4]; decide) (by rw [s_1_4]; rfl) (by decide) ?_
    refine z_aload_n h dX12_furnace_75 rfl ?_
    refine y_getr h dX12_furnace_76 hR flX12_48 (by first | assumption | exact Nat.le_of_ble_eq_true rfl) (by first | rfl | assumption | exact tx_2 (by first | assumption | omega) | exact tx_18 (by first | assumption | omega) | exact tx_19 (by first | assumption | omega) | exact tx_20 (by first | assumption | omega) | exact tx_27 (by first | assumption | omega) | exact tx_28 (by first | assumption | omega) | exact tx_30 (by first | assumption | omega) | exact tx_31 (by first | assumption | omega) | exact tx_32 (by first | assumption | omega) | exact tx_33 (by first | assumption | omega)) (by rfl) ?_
    refine z_callS h dX12_furnace_79 (fun _ _ q => z_okv_no he q) (fun _ _ _ t q => absurd q (he t)) (m_X12_sum _ _ (120, 0) 8 (c (120, 0)) (hR.ia (Nat.le_of_ble_eq_true rfl) rfl) (by decide)) ym_X12_sum mlX12_195 sm_X12_sum rfl (by decide) (Nat.le_of_ble_eq_true rfl) ?_
    rintro q1 w1 ⟨rfl, hw1⟩
    have hw1 := hw1.symm; subst hw1
    refine z_aload_n h dX12_furnace_82 rfl ?_
    refine y_geti h dX12_furnace_83 hR flX12_199 (by first | assumption | exact Nat.le_of_ble_eq_true rfl) (by first | rfl | assumption | exact tx_2 (by first | assumption | omega) | exact tx_18 (by first | assumption | omega) | exact tx_19 (by first | assumption | omega) | exact tx_20 (by first | assumption | omega) | exact tx_27 (by first | assumption | omega) | exact tx_28 (by first | assumption | omega) | exact tx_30 (by first | assumption | omega) | exact tx_31 (by first | assumption | omega) | exact tx_32 (by first | assumption | omega) | exact tx_33 (by first | assumption | omega)) (by rfl) ?_
    refine z_isub h dX12_furnace_86 ?_
    exact z_iret h dX12_furnace_87 hr (⟨z_e1 (by rw [s_1_4]; rfl), rfl⟩)
  by_cases s_1_5 : x = 5
  · skip
    refine z_tblIn h dX12_furnace_1 88 (off := 87) (by rw [s_1_5]; decide) (by rw [s_1_5]; decide) (by rw [s_1_5]; rfl) (by decide) ?_
    refine z_aload_n h dX12_furnace_88 rfl ?_
    refine y_getr h dX12_furnace_89 hR flX12_51 (by first | assumption | exact Nat.le_of_ble_eq_true rfl) (by first | rfl | assumption | exact tx_2 (by first | assumption | omega) | exact tx_18 (by first | assumption | omega) | exact tx_19 (by first | assumption | omega) | exact tx_20 (by first | assumption | omega) | exact tx_27 (by first | assumption | omega) | exact tx_28 (by first | assumption | omega) | exact tx_30 (by first | assumption | omega) | exact tx_31 (by first | assumption | omega) | exact tx_32 (by first | assumption | omega) | exact tx_33 (by first | assumption | omega)) (by rfl) ?_
    refine z_callS h dX12_furnace_92 (fun _ _ q => z_okv_no he q) (fun _ _ _ t q => absurd q (he t)) (m_X12_sum _ _ (121, 0) 12 (c (121, 0)) (hR.ia (Nat.le_of_ble_eq_true rfl) rfl) (by decide)) ym_X12_sum mlX12_195 sm_X12_sum rfl (by decide) (Nat.le_of_ble_eq_true rfl) ?_
    rintro q1 w1 ⟨rfl, hw1⟩
    have hw1 := hw1.symm; subst hw1
    exact z_iret h dX12_furnace_95 hr (⟨z_e1 (by rw [s_1_5]; rfl), rfl⟩)
  by_cases s_1_6 : x = 6
  · skip
    refine z_tblIn h dX12_furnace_1 96 (off := 95) (by rw [s_1_6]; decide) (by rw [s_1_6]; decide) (by rw [s_1_6]; rfl) (by decide) ?_
    refine z_aload_n h dX12_furnace_96 rfl ?_
    refine y_geti h dX12_furnace_97 hR flX12_206 (by first | assumption | exact Nat.le_of_ble_eq_true rfl) (by first | rfl | assumption | exact tx_2 (by first | assumption | omega) | exact tx_18 (by first | assumption | omega) | exact tx_19 (by first | assumption | omega) | exact tx_20 (by first | assumption | omega) | exact tx_27 (by first | assumption | omega) | exact tx_28 (by first | assumption | omega) | exact tx_30 (by first | assumption | omega) | exact tx_31 (by first | assumption | omega) | exact tx_32 (by first | assumption | omega) | exact tx_33 (by first | assumption | omega)) (by rfl) ?_
    exact z_iret h dX12_furnace_100 hr (⟨z_e1 (by rw [s_1_6]; rfl), rfl⟩)
  by_cases s_1_7 : x = 7
  · skip
    refine z_tblIn h dX12_furnace_1 101 (off := 100) (by rw [s_1_7]; decide) (by rw [s_1_7]; decide) (by rw [s_1_7]; rfl) (by decide) ?_
    refine z_aload_n h dX12_furnace_101 rfl ?_
    refine y_geti h dX12_furnace_102 hR flX12_224 (by first | assumption | exact Nat.le_of_ble_eq_true rfl) (by first | rfl | assumption | exact tx_2 (by first | assumption | omega) | exact tx_18 (by first | assumption | omega) | exact tx_19 (by first | assumption | omega) | exact tx_20 (by first | assumption | omega) | exact tx_27 (by first | assumption | omega) | exact tx_28 (by first | assumption | omega) | exact tx_30 (by first | assumption | omega) | exact tx_31 (by first | assumption | omega) | exact tx_32 (by first | assumption | omega) | exact tx_33 (by first | assumption | omega)) (by rfl) ?_
    exact z_iret h dX12_furnace_105 hr (⟨z_e1 (by rw [s_1_7]; rfl), rfl⟩)
  by_cases s_1_8 : x = 8
  · skip
    refine z_tblIn h dX12_furnace_1 106 (off := 105) (by rw [s_1_8]; decide) (by rw [s_1_8]; decide) (by rw [s_1_8]; rfl) (by decide) ?_
    refine z_aload_n h dX12_furnace_106 rfl ?_
    refine y_geti h dX12_furnace_107 hR flX12_54 (by first | assumption | exact Nat.le_of_ble_eq_true rfl) (by first | rfl | assumption | exact tx_2 (by first | assumption | omega) | exact tx_18 (by first | assumption | omega) | exact tx_19 (by first | assumption | omega) | exact tx_20 (by first | assumption | omega) | exact tx_27 (by first | assumption | omega) | exact tx_28 (by first | assumption | omega) | exact tx_30 (by first | assumption | omega) | exact tx_31 (by first | assumption | omega) | exact tx_32 (by first | assumption | omega) | exact tx_33 (by first | assumption | omega)) (by rfl) ?_
    exact z_iret h dX12_furnace_110 hr (⟨z_e1 (by rw [s_1_8]; rfl), rfl⟩)
  refine z_tblOut h dX12_furnace_1 111 (by have a0 := lv_neT s_1_0 (a := 0) (by decide); have a1 := lv_neT s_1_1 (a := 1) (by decide); have a2 := lv_neT s_1_2 (a := 2) (by decide); have a3 := lv_neT s_1_3 (a := 3) (by decide); have a4 := lv_neT s_1_4 (a := 4) (by decide); have a5 := lv_neT s_1_5 (a := 5) (by decide); have a6 := lv_neT s_1_6 (a := 6) (by decide); have a7 := lv_neT s_1_7 (a := 7) (by decide); have a8 := lv_neT s_1_8 (a := 8) (by decide); omega) (by decide) ?_
  refine z_iconst (v := -1) h dX12_furnace_111 (by decide) ?_
  exact z_iret h dX12_furnace_112 hr (⟨z_e1 (by simp only [n_sel, s_1_0, s_1_1, s_1_2, s_1_3, s_1_4, s_1_5, s_1_6, s_1_7, s_1_8, if_false]), rfl⟩)
