/-! the reference: bogs, orders -/
set_option maxHeartbeats 4000000 in
set_option maxRecDepth 100000 in
theorem m_X12_bog (G : z_G) {g : Nat} {w0 w : z_w} {c : r_c} {l : r_l} {r : r_r} (hR : r_p dM (TM g) w0 c l r w) (nb : Nat) (hc1 : c (100, 0) 1 = nI nb) (hnb : nb ≤ 12) (o gr re : Int32) : z_M G yX12_bog cX12_bog 4 (some .int) 2 (0) (0) [vr (100, 0), vi o, vi gr, vi re] w (fun q w1 => if nb < 12 ∧ (0 ≤ o ∧ o ≤ 100000) ∧ (0 ≤ gr ∧ gr ≤ 5000) ∧ (0 ≤ re ∧ re ≤ 20) then q = some (vi (nI nb)) ∧ r_p dM (TM g) w0 (r_cs (r_cs (r_cs (r_cs (r_cs (r_cs (r_cs c (108, 0) nb o) (109, 0) nb gr) (110, 0) nb re) (111, 0) nb 0) (112, 0) nb 1000) (113, 0) nb (-1)) (100, 0) 1 (nI (nb + 1))) (l) (r) w1 else q = some (vi (-1)) ∧ w1 = w) := by
  refine z_met ym_X12_bog (by decide) ⟨Nat.le_of_ble_eq_true rfl, Nat.le_of_ble_eq_true rfl⟩ (fun X hG hn hmc hms hin h hr => ?_)
  have he := hr.2.2.2.2.2.1
  refine z_aload_n h dX12_bog_0 rfl ?_
  refine y_geti h dX12_bog_1 hR flX12_166 (by first | assumption | exact Nat.le_of_ble_eq_true rfl) (by first | rfl | assumption | exact tx_2 (by first | assumption | omega) | exact tx_18 (by first | assumption | omega) | exact tx_19 (by first | assumption | omega) | exact tx_20 (by first | assumption | omega) | exact tx_27 (by first | assumption | omega) | exact tx_28 (by first | assumption | omega) | exact tx_30 (by first | assumption | omega) | exact tx_31 (by first | assumption | omega) | exact tx_32 (by first | assumption | omega) | exact tx_33 (by first | assumption | omega)) (by rfl) ?_
  rw [hc1]
  refine z_bipush (v := 12) h dX12_bog_4 (by decide) ?_
  refine z_icmp_eq h dX12_bog_6 40 (by decide) (fun c_1 => ?_) (fun c_1 => ?_)
  · skip
    have e1 : nb = 12 := (nI_eq (a := nb) (b := 12) (by omega) (by omega)).mp c_1
    refine z_iconst (v := -1) h dX12_bog_40 (by decide) ?_
    exact z_iret h dX12_bog_41 hr (z_f (fun q => by omega) ⟨rfl, rfl⟩)
  · skip
    have e1 : ¬ nb = 12 := fun q => c_1 ((nI_eq (a := nb) (b := 12) (by omega) (by omega)).mpr q)
    refine z_iload_n h dX12_bog_9 rfl ?_
    refine z_iconst (v := 0) h dX12_bog_10 (by decide) ?_
    refine z_ldc h dX12_bog_11 kcX12_177 ?_
    refine z_callS h dX12_bog_13 (fun _ _ q => z_okv_no he q) (fun _ _ _ t q => absurd q (he t)) (m_X12_in _ _ _ _ _) ym_X12_in mlX12_169 sm_X12_in rfl (by decide) (Nat.le_of_ble_eq_true rfl) ?_
    rintro q1 w1 ⟨rfl, hw1⟩
    have hw1 := hw1.symm; subst hw1
    refine z_if_eq h dX12_bog_16 40 (by decide) (fun c_2 => ?_) (fun c_2 => ?_)
    · skip
      refine z_iconst (v := -1) h dX12_bog_40 (by decide) ?_
      exact z_iret h dX12_bog_41 hr (z_f (fun q => z_bf c_2 q.2.1) ⟨rfl, rfl⟩)
    · skip
      refine z_iload_n h dX12_bog_19 rfl ?_
      refine z_iconst (v := 0) h dX12_bog_20 (by decide) ?_
      refine z_sipush (v := 5000) h dX12_bog_21 (by decide) ?_
      refine z_callS h dX12_bog_24 (fun _ _ q => z_okv_no he q) (fun _ _ _ t q => absurd q (he t)) (m_X12_in _ _ _ _ _) ym_X12_in mlX12_169 sm_X12_in rfl (by decide) (Nat.le_of_ble_eq_true rfl) ?_
      rintro q1 w1 ⟨rfl, hw1⟩
      have hw1 := hw1.symm; subst hw1
      refine z_if_eq h dX12_bog_27 40 (by decide) (fun c_3 => ?_) (fun c_3 => ?_)
      · skip
        refine z_iconst (v := -1) h dX12_bog_40 (by decide) ?_
        exact z_iret h dX12_bog_41 hr (z_f (fun q => z_bf c_3 q.2.2.1) ⟨rfl, rfl⟩)
      · skip
        refine z_iload_n h dX12_bog_30 rfl ?_
        refine z_iconst (v := 0) h dX12_bog_31 (by decide) ?_
        refine z_bipush (v := 20) h dX12_bog_32 (by decide) ?_
        refine z_callS h dX12_bog_34 (fun _ _ q => z_okv_no he q) (fun _ _ _ t q => absurd q (he t)) (m_X12_in _ _ _ _ _) ym_X12_in mlX12_169 sm_X12_in rfl (by decide) (Nat.le_of_ble_eq_true rfl) ?_
        rintro q1 w1 ⟨rfl, hw1⟩
        have hw1 := hw1.symm; subst hw1
        refine z_if_ne h dX12_bog_37 42 (by decide) (fun c_4 => ?_) (fun c_4 => ?_)
        · skip
          refine z_aload_n h dX12_bog_42 rfl ?_
          refine y_getr h dX12_bog_43 hR flX12_9 (by first | assumption | exact Nat.le_of_ble_eq_true rfl) (by first | rfl | assumption | exact tx_2 (by first | assumption | omega) | exact tx_18 (by first | assumption | omega) | exact tx_19 (by first | assumption | omega) | exact tx_20 (by first | assumption | omega) | exact tx_27 (by first | assumption | omega) | exact tx_28 (by first | assumption | omega) | exact tx_30 (by first | assumption | omega) | exact tx_31 (by first | assumption | omega) | exact tx_32 (by first | assumption | omega) | exact tx_33 (by first | assumption | omega)) (by rfl) ?_
          refine z_aload_n h dX12_bog_46 rfl ?_
          refine y_geti h dX12_bog_47 hR flX12_166 (by first | assumption | exact Nat.le_of_ble_eq_true rfl) (by first | rfl | assumption | exact tx_2 (by first | assumption | omega) | exact tx_18 (by first | assumption | omega) | exact tx_19 (by first | assumption | omega) | exact tx_20 (by first | assumption | omega) | exact tx_27 (by first | assumption | omega) | exact tx_28 (by first | assumption | omega) | exact tx_30 (by first | assumption | omega) | exact tx_31 (by first | assumption | omega) | exact tx_32 (by first | assumption | omega) | exact tx_33 (by first | assumption | omega)) (by rfl) ?_
          refine z_iload_n h dX12_bog_50 rfl ?_
          refine y_iast h dX12_bog_51 hR (by first | assumption | exact Nat.le_of_ble_eq_true rfl) (by first | rfl | assumption | exact tx_2 (by first | assumption | omega) | exact tx_18 (by first | assumption | omega) | exact tx_19 (by first | assumption | omega) | exact tx_20 (by first | assumption | omega) | exact tx_27 (by first | assumption | omega) | exact tx_28 (by first | assumption | omega) | exact tx_30 (by first | assumption | omega) | exact tx_31 (by first | assumption | omega) | exact tx_32 (by first | assumption | omega) | exact tx_33 (by first | assumption | omega)) (z_ixe (show _ = nI nb from hc1) (by omega) (by omega)) (fun w hR => ?_)
          refine z_aload_n h dX12_bog_52 rfl ?_
          refine y_getr h dX12_bog_53 hR flX12_13 (by first | assumption | exact Nat.le_of_ble_eq_true rfl) (by first | rfl | assumption | exact tx_2 (by first | assumption | omega) | exact tx_18 (by first | assumption | omega) | exact tx_19 (by first | assumption | omega) | exact tx_20 (by first | assumption | omega) | exact tx_27 (by first | assumption | omega) | exact tx_28 (by first | assumption | omega) | exact tx_30 (by first | assumption | omega) | exact tx_31 (by first | assumption | omega) | exact tx_32 (by first | assumption | omega) | exact tx_33 (by first | assumption | omega)) (by rfl) ?_
          refine z_aload_n h dX12_bog_56 rfl ?_
          refine y_geti h dX12_bog_57 hR flX12_166 (by first | assumption | exact Nat.le_of_ble_eq_true rfl) (by first | rfl | assumption | exact tx_2 (by first | assumption | omega) | exact tx_18 (by first | assumption | omega) | exact tx_19 (by first | assumption | omega) | exact tx_20 (by first | assumption | omega) | exact tx_27 (by first | assumption | omega) | exact tx_28 (by first | assumption | omega) | exact tx_30 (by first | assumption | omega) | exact tx_31 (by first | assumption | omega) | exact tx_32 (by first | assumption | omega) | exact tx_33 (by first | assumption | omega)) (by rfl) ?_
          refine z_iload_n h dX12_bog_60 rfl ?_
          refine y_iast h dX12_bog_61 hR (by first | assumption | exact Nat.le_of_ble_eq_true rfl) (by first | rfl | assumption | exact tx_2 (by first | assumption | omega) | exact tx_18 (by first | assumption | omega) | exact tx_19 (by first | assumption | omega) | exact tx_20 (by first | assumption | omega) | exact tx_27 (by first | assumption | omega) | exact tx_28 (by first | assumption | omega) | exact tx_30 (by first | assumption | omega) | exact tx_31 (by first | assumption | omega) | exact tx_32 (by first | assumption | omega) | exact tx_33 (by first | assumption | omega)) (z_ixe (show _ = nI nb from hc1) (by omega) (by omega)) (fun w hR => ?_)
          refine z_aload_n h dX12_bog_62 rfl ?_
          refine y_getr h dX12_bog_63 hR flX12_16 (by first | assumption | exact Nat.le_of_ble_eq_true rfl) (by first | rfl | assumption | exact tx_2 (by first | assumption | omega) | exact tx_18 (by first | assumption | omega) | exact tx_19 (by first | assumption | omega) | exact tx_20 (by first | assumption | omega) | exact tx_27 (by first | assumption | omega) | exact tx_28 (by first | assumption | omega) | exact tx_30 (by first | assumption | omega) | exact tx_31 (by first | assumption | omega) | exact tx_32 (by first | assumption | omega) | exact tx_33 (by first | assumption | omega)) (by rfl) ?_
          refine z_aload_n h dX12_bog_66 rfl ?_
          refine y_geti h dX12_bog_67 hR flX12_166 (by first | assumption | exact Nat.le_of_ble_eq_true rfl) (by first | rfl | assumption | exact tx_2 (by first | assumption | omega) | exact tx_18 (by first | assumption | omega) | exact tx_19 (by first | assumption | omega) | exact tx_20 (by first | assumption | omega) | exact tx_27 (by first | assumption | omega) | exact tx_28 (by first | assumption | omega) | exact tx_30 (by first | assumption | omega) | exact tx_31 (by first | assumption | omega) | exact tx_32 (by first | assumption | omega) | exact tx_33 (by first | assumption | omega)) (by rfl) ?_
          refine z_iload_n h dX12_bog_70 rfl ?_
          refine y_iast h dX12_bog_71 hR (by first | assumption | exact Nat.le_of_ble_eq_true rfl) (by first | rfl | assumption | exact tx_2 (by first | assumption | omega) | exact tx_18 (by first | assumption | omega) | exact tx_19 (by first | assumption | omega) | exact tx_20 (by first | assumption | omega) | exact tx_27 (by first | assumption | omega) | exact tx_28 (by first | assumption | omega) | exact tx_30 (by first | assumption | omega) | exact tx_31 (by first | assumption | omega) | exact tx_32 (by first | assumption | omega) | exact tx_33 (by first | assumption | omega)) (z_ixe (show _ = nI nb from hc1) (by omega) (by omega)) (fun w hR => ?_)
          refine z_aload_n h dX12_bog_72 rfl ?_
          refine y_getr h dX12_bog_73 hR flX12_19 (by first | assumption | exact Nat.le_of_ble_eq_true rfl) (by first | rfl | assumption | exact tx_2 (by first | assumption | omega) | exact tx_18 (by first | assumption | omega) | exact tx_19 (by first | assumption | omega) | exact tx_20 (by first | assumption | omega) | exact tx_27 (by first | assumption | omega) | exact tx_28 (by first | assumption | omega) | exact tx_30 (by first | assumption | omega) | exact tx_31 (by first | assumption | omega) | exact tx_32 (by first | assumption | omega) | exact tx_33 (by first | assumption | omega)) (by rfl) ?_
          refine z_aload_n h dX12_bog_76 rfl ?_
          refine y_geti h dX12_bog_77 hR flX12_166 (by first | assumption | exact Nat.le_of_ble_eq_true rfl) (by first | rfl | assumption | exact tx_2 (by first | assumption | omega) | exact tx_18 (by first | assumption | omega) | exact tx_19 (by first | assumption | omega) | exact tx_20 (by first | assumption | omega) | exact tx_27 (by first | assumption | omega) | exact tx_28 (by first | assumption | omega) | exact tx_30 (by first | assumption | omega) | exact tx_31 (by first | assumption | omega) | exact tx_32 (by first | assumption | omega) | exact tx_33 (by first | assumption | omega)) (by rfl) ?_
          refine z_iconst (v := 0) h dX12_bog_80 (by decide) ?_
          refine y_iast h dX12_bog_81 hR (by first | assumption | exact Nat.le_of_ble_eq_true rfl) (by first | rfl | assumption | exact tx_2 (by first | assumption | omega) | exact tx_18 (by first | assumption | omega) | exact tx_19 (by first | assumption | omega) | exact tx_20 (by first | assumption | omega) | exact tx_27 (by first | assumption | omega) | exact tx_28 (by first | assumption | omega) | exact tx_30 (by first | assumption | omega) | exact tx_31 (by first | assumption | omega) | exact tx_32 (by first | assumption | omega) | exact tx_33 (by first | assumption | omega)) (z_ixe (show _ = nI nb from hc1) (by omega) (by omega)) (fun w hR => ?_)
          refine z_aload_n h dX12_bog_82 rfl ?_
          refine y_getr h dX12_bog_83 hR flX12_22 (by first | assumption | exact Nat.le_of_ble_eq_true rfl) (by first | rfl | assumption | exact tx_2 (by first | assumption | omega) | exact tx_18 (by first | assumption | omega) | exact tx_19 (by first | assumption | omega) | exact tx_20 (by first | assumption | omega) | exact tx_27 (by first | assumption | omega) | exact tx_28 (by first | assumption | omega) | exact tx_30 (by first | assumption | omega) | exact tx_31 (by first | assumption | omega) | exact tx_32 (by first | assumption | omega) | exact tx_33 (by first | assumption | omega)) (by rfl) ?_
          refine z_aload_n h dX12_bog_86 rfl ?_
          refine y_geti h dX12_bog_87 hR flX12_166 (by first | assumption | exact Nat.le_of_ble_eq_true rfl) (by first | rfl | assumption | exact tx_2 (by first | assumption | omega) | exact tx_18 (by first | assumption | omega) | exact tx_19 (by first | assumption | omega) | exact tx_20 (by first | assumption | omega) | exact tx_27 (by first | assumption | omega) | exact tx_28 (by first | assumption | omega) | exact tx_30 (by first | assumption | omega) | exact tx_31 (by first | assumption | omega) | exact tx_32 (by first | assumption | omega) | exact tx_33 (by first | assumption | omega)) (by rfl) ?_
          refine z_sipush (v := 1000) h dX12_bog_90 (by decide) ?_
          refine y_iast h dX12_bog_93 hR (by first | assumption | exact Nat.le_of_ble_eq_true rfl) (by first | rfl | assumption | exact tx_2 (by first | assumption | omega) | exact tx_18 (by first | assumption | omega) | exact tx_19 (by first | assumption | omega) | exact tx_20 (by first | assumption | omega) | exact tx_27 (by first | assumption | omega) | exact tx_28 (by first | assumption | omega) | exact tx_30 (by first | assumption | omega) | exact tx_31 (by first | assumption | omega) | exact tx_32 (by first | assumption | omega) | exact tx_33 (by first | assumption | omega)) (z_ixe (show _ = nI nb from hc1) (by omega) (by omega)) (fun w hR => ?_)
          refine z_aload_n h dX12_bog_94 rfl ?_
          refine y_getr h dX12_bog_95 hR flX12_25 (by first | assumption | exact Nat.le_of_ble_eq_true rfl) (by first | rfl | assumption | exact tx_2 (by first | assumption | omega) | exact tx_18 (by first | assumption | omega) | exact tx_19 (by first | assumption | omega) | exact tx_20 (by first | assumption | omega) | exact tx_27 (by first | assumption | omega) | exact tx_28 (by first | assumption | omega) | exact tx_30 (by first | assumption | omega) | exact tx_31 (by first | assumption | omega) | exact tx_32 (by first | assumption | omega) | exact tx_33 (by first | assumption | omega)) (by rfl) ?_
          refine z_aload_n h dX12_bog_98 rfl ?_
          refine y_geti h dX12_bog_99 hR flX12_166 (by first | assumption | exact Nat.le_of_ble_eq_true rfl) (by first | rfl | assumption | exact tx_2 (by first | assumption | omega) | exact tx_18 (by first | assumption | omega) | exact tx_19 (by first | assumption | omega) | exact tx_20 (by first | assumption | omega) | exact tx_27 (by first | assumption | omega) | exact tx_28 (by first | assumption | omega) | exact tx_30 (by first | assumption | omega) | exact tx_31 (by first | assumption | omega) | exact tx_32 (by first | assumption | omega) | exact tx_33 (by first | assumption | omega)) (by rfl) ?_
          refine z_iconst (v := -1) h dX12_bog_102 (by decide) ?_
          refine y_iast h dX12_bog_103 hR (by first | assumption | exact Nat.le_of_ble_eq_true rfl) (by first | rfl | assumption | exact tx_2 (by first | assumption | omega) | exact tx_18 (by first | assumption | omega) | exact tx_19 (by first | assumption | omega) | exact tx_20 (by first | assumption | omega) | exact tx_27 (by first | assumption | omega) | exact tx_28 (by first | assumption | omega) | exact tx_30 (by first | assumption | omega) | exact tx_31 (by first | assumption | omega) | exact tx_32 (by first | assumption | omega) | exact tx_33 (by first | assumption | omega)) (z_ixe (show _ = nI nb from hc1) (by omega) (by omega)) (fun w hR => ?_)
          refine z_aload_n h dX12_bog_104 rfl ?_
          refine z_dup_r h dX12_bog_105 ?_
          refine y_geti h dX12_bog_106 hR flX12_166 (by first | assumption | exact Nat.le_of_ble_eq_true rfl) (by first | rfl | assumption | exact tx_2 (by first | assumption | omega) | exact tx_18 (by first | assumption | omega) | exact tx_19 (by first | assumption | omega) | exact tx_20 (by first | assumption | omega) | exact tx_27 (by first | assumption | omega) | exact tx_28 (by first | assumption | omega) | exact tx_30 (by first | assumption | omega) | exact tx_31 (by first | assumption | omega) | exact tx_32 (by first | assumption | omega) | exact tx_33 (by first | assumption | omega)) (by rfl) ?_
          refine z_iconst (v := 1) h dX12_bog_109 (by decide) ?_
          refine z_iadd h dX12_bog_110 ?_
          refine z_toe (y := nI (nb + 1)) (by show c (100, 0) 1 + 1 = _; rw [hc1]; exact z_up nb) ?_
          refine y_put h dX12_bog_111 he hR flX12_166 rfl (by first | assumption | exact Nat.le_of_ble_eq_true rfl) (by first | rfl | assumption | exact tx_2 (by first | assumption | omega) | exact tx_18 (by first | assumption | omega) | exact tx_19 (by first | assumption | omega) | exact tx_20 (by first | assumption | omega) | exact tx_27 (by first | assumption | omega) | exact tx_28 (by first | assumption | omega) | exact tx_30 (by first | assumption | omega) | exact tx_31 (by first | assumption | omega) | exact tx_32 (by first | assumption | omega) | exact tx_33 (by first | assumption | omega)) (by rfl) (fun w hR => ?_)
          refine z_aload_n h dX12_bog_114 rfl ?_
          refine y_geti h dX12_bog_115 hR flX12_166 (by first | assumption | exact Nat.le_of_ble_eq_true rfl) (by first | rfl | assumption | exact tx_2 (by first | assumption | omega) | exact tx_18 (by first | assumption | omega) | exact tx_19 (by first | assumption | omega) | exact tx_20 (by first | assumption | omega) | exact tx_27 (by first | assumption | omega) | exact tx_28 (by first | assumption | omega) | exact tx_30 (by first | assumption | omega) | exact tx_31 (by first | assumption | omega) | exact tx_32 (by first | assumption | omega) | exact tx_33 (by first | assumption | omega)) (by rfl) ?_
          refine z_iconst (v := 1) h dX12_bog_118 (by decide) ?_
          refine z_isub h dX12_bog_119 ?_
          exact z_iret h dX12_bog_120 hr (z_t ⟨by omega, z_bt c_2, z_bt c_3, z_bt c_4⟩ ⟨by show some (vi (nI (nb + 1) - 1)) = _; rw [nI_pred], hR⟩)
        · skip
          refine z_iconst (v := -1) h dX12_bog_40 (by decide) ?_
          exact z_iret h dX12_bog_41 hr (z_f (fun q => z_bf c_4 q.2.2.2) ⟨rfl, rfl⟩)
set_option maxHeartbeats 4000000 in
set_option maxRecDepth 100000 in
theorem m_X12_order (G : z_G) {g : Nat} {w0 w : z_w} {c : r_c} {l : r_l} {r : r_r} (hR : r_p dM (TM g) w0 c l r w) (no : Nat) (hco : c (100, 0) 5 = nI no) (hno : no ≤ 8) (so le : Int32) : z_M G yX12_order cX12_order 3 (some .int) 2 (0) (0) [vr (100, 0), vi so, vi le] w (fun q w1 => if (0 ≤ so ∧ so ≤ 2) ∧ (0 ≤ le ∧ le ≤ 100000) ∧ no < 8 then q = some (vi (nI no)) ∧ r_p dM (TM g) w0 (r_cs (r_cs (r_cs c (164, 0) no so) (165, 0) no le) (100, 0) 5 (nI (no + 1))) (l) (r) w1 else q = some (vi (-1)) ∧ w1 = w) := by
  refine z_met ym_X12_order (by decide) ⟨Nat.le_of_ble_eq_true rfl, Nat.le_of_ble_eq_true rfl⟩ (fun X hG hn hmc hms hin h hr => ?_)
  have he := hr.2.2.2.2.2.1
  refine z_aload_n h dX12_order_0 rfl ?_
  refine y_geti h dX12_order_1 hR flX12_300 (by first | assumption | exact Nat.le_of_ble_eq_true rfl) (by first | rfl | assumption | exact tx_2 (by first | assumption | omega) | exact tx_18 (by first | assumption | omega) | exact tx_19 (by first | assumption | omega) | exact tx_20 (by first | assumption | omega) | exact tx_27 (by first | assumption | omega) | exact tx_28 (by first | assumption | omega) | exact tx_30 (by first | assumption | omega) | exact tx_31 (by first | assumption | omega) | exact tx_32 (by first | assumption | omega) | exact tx_33 (by first | assumption | omega)) (by rfl) ?_
  rw [hco]
  refine z_bipush (v := 8) h dX12_order_4 (by decide) ?_
  refine z_icmp_eq h dX12_order_6 28 (by decide) (fun c_1 => ?_) (fun c_1 => ?_)
  · skip
    have e1 : no = 8 := (nI_eq (a := no) (b := 8) (by omega) (by omega)).mp c_1
    refine z_iconst (v := -1) h dX12_order_28 (by decide) ?_
    exact z_iret h dX12_order_29 hr (z_f (fun q => by omega) ⟨rfl, rfl⟩)
  · skip
    have e1 : ¬ no = 8 := fun q => c_1 ((nI_eq (a := no) (b := 8) (by omega) (by omega)).mpr q)
    refine z_iload_n h dX12_order_9 rfl ?_
    refine z_iconst (v := 0) h dX12_order_10 (by decide) ?_
    refine z_iconst (v := 2) h dX12_order_11 (by decide) ?_
    refine z_callS h dX12_order_12 (fun _ _ q => z_okv_no he q) (fun _ _ _ t q => absurd q (he t)) (m_X12_in _ _ _ _ _) ym_X12_in mlX12_169 sm_X12_in rfl (by decide) (Nat.le_of_ble_eq_true rfl) ?_
    rintro q1 w1 ⟨rfl, hw1⟩
    have hw1 := hw1.symm; subst hw1
    refine z_if_eq h dX12_order_15 28 (by decide) (fun c_2 => ?_) (fun c_2 => ?_)
    · skip
      refine z_iconst (v := -1) h dX12_order_28 (by decide) ?_
      exact z_iret h dX12_order_29 hr (z_f (fun q => z_bf c_2 q.1) ⟨rfl, rfl⟩)
    · skip
      refine z_iload_n h dX12_order_18 rfl ?_
      refine z_iconst (v := 0) h dX12_order_19 (by decide) ?_
      refine z_ldc h dX12_order_20 kcX12_177 ?_
      refine z_callS h dX12_order_22 (fun _ _ q => z_okv_no he q) (fun _ _ _ t q => absurd q (he t)) (m_X12_in _ _ _ _ _) ym_X12_in mlX12_169 sm_X12_in rfl (by decide) (Nat.le_of_ble_eq_true rfl) ?_
      rintro q1 w1 ⟨rfl, hw1⟩
      have hw1 := hw1.symm; subst hw1
      refine z_if_ne h dX12_order_25 30 (by decide) (fun c_3 => ?_) (fun c_3 => ?_)
      · skip
        refine z_aload_n h dX12_order_30 rfl ?_
        refine y_getr h dX12_order_31 hR flX12_151 (by first | assumption | exact Nat.le_of_ble_eq_true rfl) (by first | rfl | assumption | exact tx_2 (by first | assumption | omega) | exact tx_18 (by first | assumption | omega) | exact tx_19 (by first | assumption | omega) | exact tx_20 (by first | assumption | omega) | exact tx_27 (by first | assumption | omega) | exact tx_28 (by first | assumption | omega) | exact tx_30 (by first | assumption | omega) | exact tx_31 (by first | assumption | omega) | exact tx_32 (by first | assumption | omega) | exact tx_33 (by first | assumption | omega)) (by rfl) ?_
        refine z_aload_n h dX12_order_34 rfl ?_
        refine y_geti h dX12_order_35 hR flX12_300 (by first | assumption | exact Nat.le_of_ble_eq_true rfl) (by first | rfl | assumption | exact tx_2 (by first | assumption | omega) | exact tx_18 (by first | assumption | omega) | exact tx_19 (by first | assumption | omega) | exact tx_20 (by first | assumption | omega) | exact tx_27 (by first | assumption | omega) | exact tx_28 (by first | assumption | omega) | exact tx_30 (by first | assumption | omega) | exact tx_31 (by first | assumption | omega) | exact tx_32 (by first | assumption | omega) | exact tx_33 (by first | assumption | omega)) (by rfl) ?_
        refine z_iload_n h dX12_order_38 rfl ?_
        refine y_iast h dX12_order_39 hR (by first | assumption | exact Nat.le_of_ble_eq_true rfl) (by first | rfl | assumption | exact tx_2 (by first | assumption | omega) | exact tx_18 (by first | assumption | omega) | exact tx_19 (by first | assumption | omega) | exact tx_20 (by first | assumption | omega) | exact tx_27 (by first | assumption | omega) | exact tx_28 (by first | assumption | omega) | exact tx_30 (by first | assumption | omega) | exact tx_31 (by first | assumption | omega) | exact tx_32 (by first | assumption | omega) | exact tx_33 (by first | assumption | omega)) (z_ixe (show _ = nI no from hco) (by omega) (by omega)) (fun w hR => ?_)
        refine z_aload_n h dX12_order_40 rfl ?_
        refine y_getr h dX12_order_41 hR flX12_154 (by first | assumption | exact Nat.le_of_ble_eq_true rfl) (by first | rfl | assumption | exact tx_2 (by first | assumption | omega) | exact tx_18 (by first | assumption | omega) | exact tx_19 (by first | assumption | omega) | exact tx_20 (by first | assumption | omega) | exact tx_27 (by first | assumption | omega) | exact tx_28 (by first | assumption | omega) | exact tx_30 (by first | assumption | omega) | exact tx_31 (by first | assumption | omega) | exact tx_32 (by first | assumption | omega) | exact tx_33 (by first | assumption | omega)) (by rfl) ?_
        refine z_aload_n h dX12_order_44 rfl ?_
        refine y_geti h dX12_order_45 hR flX12_300 (by first | assumption | exact Nat.le_of_ble_eq_true rfl) (by first | rfl | assumption | exact tx_2 (by first | assumption | omega) | exact tx_18 (by first | assumption | omega) | exact tx_19 (by first | assumption | omega) | exact tx_20 (by first | assumption | omega) | exact tx_27 (by first | assumption | omega) | exact tx_28 (by first | assumption | omega) | exact tx_30 (by first | assumption | omega) | exact tx_31 (by first | assumption | omega) | exact tx_32 (by first | assumption | omega) | exact tx_33 (by first | assumption | omega)) (by rfl) ?_
        refine z_iload_n h dX12_order_48 rfl ?_
        refine y_iast h dX12_order_49 hR (by first | assumption | exact Nat.le_of_ble_eq_true rfl) (by first | rfl | assumption | exact tx_2 (by first | assumption | omega) | exact tx_18 (by first | assumption | omega) | exact tx_19 (by first | assumption | omega) | exact tx_20 (by first | assumption | omega) | exact tx_27 (by first | assumption | omega) | exact tx_28 (by first | assumption | omega) | exact tx_30 (by first | assumption | omega) | exact tx_31 (by first | assumption | omega) | exact tx_32 (by first | assumption | omega) | exact tx_33 (by first | assumption | omega)) (z_ixe (show _ = nI no from hco) (by omega) (by omega)) (fun w hR => ?_)
        refine z_aload_n h dX12_order_50 rfl ?_
        refine z_dup_r h dX12_order_51 ?_
        refine y_geti h dX12_order_52 hR flX12_300 (by first | assumption | exact Nat.le_of_ble_eq_true rfl) (by first | rfl | assumption | exact tx_2 (by first | assumption | omega) | exact tx_18 (by first | assumption | omega) | exact tx_19 (by first | assumption | omega) | exact tx_20 (by first | assumption | omega) | exact tx_27 (by first | assumption | omega) | exact tx_28 (by first | assumption | omega) | exact tx_30 (by first | assumption | omega) | exact tx_31 (by first | assumption | omega) | exact tx_32 (by first | assumption | omega) | exact tx_33 (by first | assumption | omega)) (by rfl) ?_
        refine z_iconst (v := 1) h dX12_order_55 (by decide) ?_
        refine z_iadd h dX12_order_56 ?_
        refine z_toe (y := nI (no + 1)) (by show c (100, 0) 5 + 1 = _; rw [hco]; exact z_up no) ?_
        refine y_put h dX12_order_57 he hR flX12_300 rfl (by first | assumption | exact Nat.le_of_ble_eq_true rfl) (by first | rfl | assumption | exact tx_2 (by first | assumption | omega) | exact tx_18 (by first | assumption | omega) | exact tx_19 (by first | assumption | omega) | exact tx_20 (by first | assumption | omega) | exact tx_27 (by first | assumption | omega) | exact tx_28 (by first | assumption | omega) | exact tx_30 (by first | assumption | omega) | exact tx_31 (by first | assumption | omega) | exact tx_32 (by first | assumption | omega) | exact tx_33 (by first | assumption | omega)) (by rfl) (fun w hR => ?_)
        refine z_aload_n h dX12_order_60 rfl ?_
        refine y_geti h dX12_order_61 hR flX12_300 (by first | assumption | exact Nat.le_of_ble_eq_true rfl) (by first | rfl | assumption | exact tx_2 (by first | assumption | omega) | exact tx_18 (by first | assumption | omega) | exact tx_19 (by first | assumption | omega) | exact tx_20 (by first | assumption | omega) | exact tx_27 (by first | assumption | omega) | exact tx_28 (by first | assumption | omega) | exact tx_30 (by first | assumption | omega) | exact tx_31 (by first | assumption | omega) | exact tx_32 (by first | assumption | omega) | exact tx_33 (by first | assumption | omega)) (by rfl) ?_
        refine z_iconst (v := 1) h dX12_order_64 (by decide) ?_
        refine z_isub h dX12_order_65 ?_
        exact z_iret h dX12_order_66 hr (z_t ⟨z_bt c_2, z_bt c_3, by omega⟩ ⟨by show some (vi (nI (no + 1) - 1)) = _; rw [nI_pred], hR⟩)
      · skip
        refine z_iconst (v := -1) h dX12_order_28 (by decide) ?_
        exact z_iret h dX12_order_29 hr (z_f (fun q => z_bf c_3 q.2.1) ⟨rfl, rfl⟩)
set_option maxHeartbeats 4000000 in
set_option maxRecDepth 100000 in
theorem m_X12_clear (G : z_G) {g : Nat} {w0 w : z_w} {c : r_c} {l : r_l} {r : r_r} (hR : r_p dM (TM g) w0 c l r w) : z_M G yX12_clear cX12_clear 1 none 1 (0) (0) [vr (100, 0)] w (fun q w1 => q = none ∧ r_p dM (TM g) w0 (r_cs c (100, 0) 5 0) (l) (r) w1) := by
  refine z_met ym_X12_clear (by decide) ⟨Nat.le_of_ble_eq_true rfl, Nat.le_of_ble_eq_true rfl⟩ (fun X hG hn hmc hms hin h hr => ?_)
  have he := hr.2.2.2.2.2.1
  refine z_aload_n h dX12_clear_0 rfl ?_
  refine z_iconst (v := 0) h dX12_clear_1 (by decide) ?_
  refine y_put h dX12_clear_2 he hR flX12_300 rfl (by first | assumption | exact Nat.le_of_ble_eq_true rfl) (by first | rfl | assumption | exact tx_2 (by first | assumption | omega) | exact tx_18 (by first | assumption | omega) | exact tx_19 (by first | assumption | omega) | exact tx_20 (by first | assumption | omega) | exact tx_27 (by first | assumption | omega) | exact tx_28 (by first | assumption | omega) | exact tx_30 (by first | assumption | omega) | exact tx_31 (by first | assumption | omega) | exact tx_32 (by first | assumption | omega) | exact tx_33 (by first | assumption | omega)) (by rfl) (fun w hR => ?_)
  exact z_vret h dX12_clear_5 hr (⟨rfl, hR⟩)
set_option maxHeartbeats 4000000 in
set_option maxRecDepth 100000 in
theorem m_X12_test (G : z_G) {g : Nat} {w0 w : z_w} {c : r_c} {l : r_l} {r : r_r} (hR : r_p dM (TM g) w0 c l r w) (nb : Nat) (hc1 : c (100, 0) 1 = nI nb) (hnb : nb ≤ 12) (b a e : Int32) : z_M G yX12_test cX12_test 4 (some .boolean) 3 (0) (0) [vr (100, 0), vi b, vi a, vi e] w (fun q w1 => if ix_ok b nb ∧ (0 ≤ a ∧ a ≤ 1000) ∧ (a ≤ e ∧ e ≤ 1000) ∧ ¬ (c (112, 0) b.toNatClampNeg < a ∨ e < c (111, 0) b.toNatClampNeg) then q = some (vi 1) ∧ r_p dM (TM g) w0 (r_cs (r_cs c (111, 0) b.toNatClampNeg (if c (111, 0) b.toNatClampNeg < a then a else c (111, 0) b.toNatClampNeg)) (112, 0) b.toNatClampNeg (if e < c (112, 0) b.toNatClampNeg then e else c (112, 0) b.toNatClampNeg)) (l) (r) w1 else q = some (vi 0) ∧ w1 = w) := by
  refine z_met ym_X12_test (by decide) ⟨Nat.le_of_ble_eq_true rfl, Nat.le_of_ble_eq_true rfl⟩ (fun X hG hn hmc hms hin h hr => ?_)
  have he := hr.2.2.2.2.2.1
  refine z_aload_n h dX12_test_0 rfl ?_
  refine z_iload_n h dX12_test_1 rfl ?_
  refine z_callV h dX12_test_2 (fun _ _ q => z_okv_no he q) (fun _ _ _ t q => absurd q (he t)) (m_X12_isBog _ hR nb hc1 hnb b) ym_X12_isBog mlX12_178 im_X12_isBog (ci := 12) rfl se_X12_isBog icX12 rfl (r_p.ob hR (by first | assumption | exact Nat.le_of_ble_eq_true rfl) (by first | rfl | assumption | exact tx_2 (by first | assumption | omega) | exact tx_18 (by first | assumption | omega) | exact tx_19 (by first | assumption | omega) | exact tx_20 (by first | assumption | omega) | exact tx_27 (by first | assumption | omega) | exact tx_28 (by first | assumption | omega) | exact tx_30 (by first | assumption | omega) | exact tx_31 (by first | assumption | omega) | exact tx_32 (by first | assumption | omega) | exact tx_33 (by first | assumption | omega))) rfl (by decide) (Nat.le_of_ble_eq_true rfl) ?_
  rintro q1 w1 ⟨rfl, hw1⟩
  have hw1 := hw1.symm; subst hw1
  refine z_if_eq h dX12_test_5 50 (by decide) (fun c_1 => ?_) (fun c_1 => ?_)
  · skip
    refine z_iconst (v := 0) h dX12_test_50 (by decide) ?_
    exact z_zret h dX12_test_51 hr rfl (z_f (fun q => z_bf c_1 q.1) ⟨rfl, rfl⟩)
  · skip
    refine z_iload_n h dX12_test_8 rfl ?_
    refine z_iconst (v := 0) h dX12_test_9 (by decide) ?_
    refine z_sipush (v := 1000) h dX12_test_10 (by decide) ?_
    refine z_callS h dX12_test_13 (fun _ _ q => z_okv_no he q) (fun _ _ _ t q => absurd q (he t)) (m_X12_in _ _ _ _ _) ym_X12_in mlX12_169 sm_X12_in rfl (by decide) (Nat.le_of_ble_eq_true rfl) ?_
    rintro q1 w1 ⟨rfl, hw1⟩
    have hw1 := hw1.symm; subst hw1
    refine z_if_eq h dX12_test_16 50 (by decide) (fun c_2 => ?_) (fun c_2 => ?_)
    · skip
      refine z_iconst (v := 0) h dX12_test_50 (by decide) ?_
      exact z_zret h dX12_test_51 hr rfl (z_f (fun q => z_bf c_2 q.2.1) ⟨rfl, rfl⟩)
    · skip
      refine z_iload_n h dX12_test_19 rfl ?_
      refine z_iload_n h dX12_test_20 rfl ?_
      refine z_sipush (v := 1000) h dX12_test_21 (by decide) ?_
      refine z_callS h dX12_test_24 (fun _ _ q => z_okv_no he q) (fun _ _ _ t q => absurd q (he t)) (m_X12_in _ _ _ _ _) ym_X12_in mlX12_169 sm_X12_in rfl (by decide) (Nat.le_of_ble_eq_true rfl) ?_
      rintro q1 w1 ⟨rfl, hw1⟩
      have hw1 := hw1.symm; subst hw1
      refine z_if_eq h dX12_test_27 50 (by decide) (fun c_3 => ?_) (fun c_3 => ?_)
      · skip
        refine z_iconst (v := 0) h dX12_test_50 (by decide) ?_
        exact z_zret h dX12_test_51 hr rfl (z_f (fun q => z_bf c_3 q.2.2.1) ⟨rfl, rfl⟩)
      · skip
        refine z_iload_n h dX12_test_30 rfl ?_
        refine z_aload_n h dX12_test_31 rfl ?_
        refine y_getr h dX12_test_32 hR flX12_22 (by first | assumption | exact Nat.le_of_ble_eq_true rfl) (by first | rfl | assumption | exact tx_2 (by first | assumption | omega) | exact tx_18 (by first | assumption | omega) | exact tx_19 (by first | assumption | omega) | exact tx_20 (by first | assumption | omega) | exact tx_27 (by first | assumption | omega) | exact tx_28 (by first | assumption | omega) | exact tx_30 (by first | assumption | omega) | exact tx_31 (by first | assumption | omega) | exact tx_32 (by first | assumption | omega) | exact tx_33 (by first | assumption | omega)) (by rfl) ?_
        refine z_iload_n h dX12_test_35 rfl ?_
        refine y_iald h dX12_test_36 hR (by first | assumption | exact Nat.le_of_ble_eq_true rfl) (by first | rfl | assumption | exact tx_2 (by first | assumption | omega) | exact tx_18 (by first | assumption | omega) | exact tx_19 (by first | assumption | omega) | exact tx_20 (by first | assumption | omega) | exact tx_27 (by first | assumption | omega) | exact tx_28 (by first | assumption | omega) | exact tx_30 (by first | assumption | omega) | exact tx_31 (by first | assumption | omega) | exact tx_32 (by first | assumption | omega) | exact tx_33 (by first | assumption | omega)) (z_ixe (ix_eq (n := nb) (z_bt c_1)) (by have := ix_lt (n := nb) (z_bt c_1) (by omega); omega) (by decide)) ?_
        refine z_icmp_gt h dX12_test_37 50 (by decide) (fun c_4 => ?_) (fun c_4 => ?_)
        · skip
          refine z_iconst (v := 0) h dX12_test_50 (by decide) ?_
          exact z_zret h dX12_test_51 hr rfl (z_f (fun q => q.2.2.2 (Or.inl c_4)) ⟨rfl, rfl⟩)
        · skip
          refine z_iload_n h dX12_test_40 rfl ?_
          refine z_aload_n h dX12_test_41 rfl ?_
          refine y_getr h dX12_test_42 hR flX12_19 (by first | assumption | exact Nat.le_of_ble_eq_true rfl) (by first | rfl | assumption | exact tx_2 (by first | assumption | omega) | exact tx_18 (by first | assumption | omega) | exact tx_19 (by first | assumption | omega) | exact tx_20 (by first | assumption | omega) | exact tx_27 (by first | assumption | omega) | exact tx_28 (by first | assumption | omega) | exact tx_30 (by first | assumption | omega) | exact tx_31 (by first | assumption | omega) | exact tx_32 (by first | assumption | omega) | exact tx_33 (by first | assumption | omega)) (by rfl) ?_
          refine z_iload_n h dX12_test_45 rfl ?_
          refine y_iald h dX12_test_46 hR (by first | assumption | exact Nat.le_of_ble_eq_true rfl) (by first | rfl | assumption | exact tx_2 (by first | assumption | omega) | exact tx_18 (by first | assumption | omega) | exact tx_19 (by first | assumption | omega) | exact tx_20 (by first | assumption | omega) | exact tx_27 (by first | assumption | omega) | exact tx_28 (by first | assumption | omega) | exact tx_30 (by first | assumption | omega) | exact tx_31 (by first | assumption | omega) | exact tx_32 (by first | assumption | omega) | exact tx_33 (by first | assumption | omega)) (z_ixe (ix_eq (n := nb) (z_bt c_1)) (by have := ix_lt (n := nb) (z_bt c_1) (by omega); omega) (by decide)) ?_
          refine z_icmp_ge h dX12_test_47 52 (by decide) (fun c_5 => ?_) (fun c_5 => ?_)
          · skip
            refine z_aload_n h dX12_test_52 rfl ?_
            refine y_getr h dX12_test_53 hR flX12_19 (by first | assumption | exact Nat.le_of_ble_eq_true rfl) (by first | rfl | assumption | exact tx_2 (by first | assumption | omega) | exact tx_18 (by first | assumption | omega) | exact tx_19 (by first | assumption | omega) | exact tx_20 (by first | assumption | omega) | exact tx_27 (by first | assumption | omega) | exact tx_28 (by first | assumption | omega) | exact tx_30 (by first | assumption | omega) | exact tx_31 (by first | assumption | omega) | exact tx_32 (by first | assumption | omega) | exact tx_33 (by first | assumption | omega)) (by rfl) ?_
            refine z_iload_n h dX12_test_56 rfl ?_
            refine z_aload_n h dX12_test_57 rfl ?_
            refine y_getr h dX12_test_58 hR flX12_19 (by first | assumption | exact Nat.le_of_ble_eq_true rfl) (by first | rfl | assumption | exact tx_2 (by first | assumption | omega) | exact tx_18 (by first | assumption | omega) | exact tx_19 (by first | assumption | omega) | exact tx_20 (by first | assumption | omega) | exact tx_27 (by first | assumption | omega) | exact tx_28 (by first | assumption | omega) | exact tx_30 (by first | assumption | omega) | exact tx_31 (by first | assumption | omega) | exact tx_32 (by first | assumption | omega) | exact tx_33 (by first | assumption | omega)) (by rfl) ?_
            refine z_iload_n h dX12_test_61 rfl ?_
            refine y_iald h dX12_test_62 hR (by first | assumption | exact Nat.le_of_ble_eq_true rfl) (by first | rfl | assumption | exact tx_2 (by first | assumption | omega) | exact tx_18 (by first | assumption | omega) | exact tx_19 (by first | assumption | omega) | exact tx_20 (by first | assumption | omega) | exact tx_27 (by first | assumption | omega) | exact tx_28 (by first | assumption | omega) | exact tx_30 (by first | assumption | omega) | exact tx_31 (by first | assumption | omega) | exact tx_32 (by first | assumption | omega) | exact tx_33 (by first | assumption | omega)) (z_ixe (ix_eq (n := nb) (z_bt c_1)) (by have := ix_lt (n := nb) (z_bt c_1) (by omega); omega) (by decide)) ?_
            refine z_iload_n h dX12_test_63 rfl ?_
            refine z_max h dX12_test_64 mlX12_182 sm_Mmax ic_Math co_Mmax (Nat.le_of_ble_eq_true rfl) ?_
            refine y_iast h dX12_test_67 hR (by first | assumption | exact Nat.le_of_ble_eq_true rfl) (by first | rfl | assumption | exact tx_2 (by first | assumption | omega) | exact tx_18 (by first | assumption | omega) | exact tx_19 (by first | assumption | omega) | exact tx_20 (by first | assumption | omega) | exact tx_27 (by first | assumption | omega) | exact tx_28 (by first | assumption | omega) | exact tx_30 (by first | assumption | omega) | exact tx_31 (by first | assumption | omega) | exact tx_32 (by first | assumption | omega) | exact tx_33 (by first | assumption | omega)) (z_ixe (ix_eq (n := nb) (z_bt c_1)) (by have := ix_lt (n := nb) (z_bt c_1) (by omega); omega) (by decide)) (fun w hR => ?_)
            refine z_aload_n h dX12_test_68 rfl ?_
            refine y_getr h dX12_test_69 hR flX12_22 (by first | assumption | exact Nat.le_of_ble_eq_true rfl) (by first | rfl | assumption | exact tx_2 (by first | assumption | omega) | exact tx_18 (by first | assumption | omega) | exact tx_19 (by first | assumption | omega) | exact tx_20 (by first | assumption | omega) | exact tx_27 (by first | assumption | omega) | exact tx_28 (by first | assumption | omega) | exact tx_30 (by first | assumption | omega) | exact tx_31 (by first | assumption | omega) | exact tx_32 (by first | assumption | omega) | exact tx_33 (by first | assumption | omega)) (by rfl) ?_
            refine z_iload_n h dX12_test_72 rfl ?_
            refine z_aload_n h dX12_test_73 rfl ?_
            refine y_getr h dX12_test_74 hR flX12_22 (by first | assumption | exact Nat.le_of_ble_eq_true rfl) (by first | rfl | assumption | exact tx_2 (by first | assumption | omega) | exact tx_18 (by first | assumption | omega) | exact tx_19 (by first | assumption | omega) | exact tx_20 (by first | assumption | omega) | exact tx_27 (by first | assumption | omega) | exact tx_28 (by first | assumption | omega) | exact tx_30 (by first | assumption | omega) | exact tx_31 (by first | assumption | omega) | exact tx_32 (by first | assumption | omega) | exact tx_33 (by first | assumption | omega)) (by rfl) ?_
            refine z_iload_n h dX12_test_77 rfl ?_
            refine y_iald h dX12_test_78 hR (by first | assumption | exact Nat.le_of_ble_eq_true rfl) (by first | rfl | assumption | exact tx_2 (by first | assumption | omega) | exact tx_18 (by first | assumption | omega) | exact tx_19 (by first | assumption | omega) | exact tx_20 (by first | assumption | omega) | exact tx_27 (by first | assumption | omega) | exact tx_28 (by first | assumption | omega) | exact tx_30 (by first | assumption | omega) | exact tx_31 (by first | assumption | omega) | exact tx_32 (by first | assumption | omega) | exact tx_33 (by first | assumption | omega)) (z_ixe (ix_eq (n := nb) (z_bt c_1)) (by have := ix_lt (n := nb) (z_bt c_1) (by omega); omega) (by decide)) ?_
            refine z_iload_n h dX12_test_79 rfl ?_
            refine z_min h dX12_test_80 mlX12_188 sm_Mmin ic_Math co_Mmin (Nat.le_of_ble_eq_true rfl) ?_
            refine y_iast h dX12_test_83 hR (by first | assumption | exact Nat.le_of_ble_eq_true rfl) (by first | rfl | assumption | exact tx_2 (by first | assumption | omega) | exact tx_18 (by first | assumption | omega) | exact tx_19 (by first | assumption | omega) | exact tx_20 (by first | assumption | omega) | exact tx_27 (by first | assumption | omega) | exact tx_28 (by first | assumption | omega) | exact tx_30 (by first | assumption | omega) | exact tx_31 (by first | assumption | omega) | exact tx_32 (by first | assumption | omega) | exact tx_33 (by first | assumption | omega)) (z_ixe (ix_eq (n := nb) (z_bt c_1)) (by have := ix_lt (n := nb) (z_bt c_1) (by omega); omega) (by decide)) (fun w hR => ?_)
            refine z_iconst (v := 1) h dX12_test_84 (by decide) ?_
            exact z_zret h dX12_test_85 hr rfl (z_t ⟨z_bt c_1, z_bt c_2, z_bt c_3, fun q => q.elim c_4 (fun q => by clear c_4; simp only [z_lt, z_le, z_ie] at *; omega)⟩ ⟨rfl, hR⟩)
          · skip
            refine z_iconst (v := 0) h dX12_test_50 (by decide) ?_
            exact z_zret h dX12_test_51 hr rfl (z_f (fun q => q.2.2.2 (Or.inr (by clear q c_4; simp only [z_lt, z_le, z_ie] at *; omega))) ⟨rfl, rfl⟩)
set_option maxHeartbeats 4000000 in
set_option maxRecDepth 100000 in
theorem m_X12_dig (G : z_G) {g : Nat} {w0 w : z_w} {c : r_c} {l : r_l} {r : r_r} (hR : r_p dM (TM g) w0 c l r w) (nb : Nat) (hc1 : c (100, 0) 1 = nI nb) (hnb : nb ≤ 12) (b k : Int32) : z_M G yX12_dig cX12_dig 4 (some .int) 3 (0) (0) [vr (100, 0), vi b, vi k] w (fun q w1 => if ix_ok b nb ∧ (1 ≤ k ∧ k ≤ c (108, 0) b.toNatClampNeg) ∧ ¬ (¬ c (113, 0) b.toNatClampNeg = -1 ∧ ¬ c (113, 0) b.toNatClampNeg = c (100, 0) 0 ∧ c (100, 0) 0 - c (113, 0) b.toNatClampNeg < c (110, 0) b.toNatClampNeg) then q = some (vi (c (114, 0) b.toNatClampNeg + k)) ∧ r_p dM (TM g) w0 (r_cs (r_cs (r_cs c (108, 0) b.toNatClampNeg (c (108, 0) b.toNatClampNeg - k)) (114, 0) b.toNatClampNeg (c (114, 0) b.toNatClampNeg + k)) (113, 0) b.toNatClampNeg (c (100, 0) 0)) (l) (r) w1 else q = some (vi (-1)) ∧ w1 = w) := by
  refine z_met ym_X12_dig (by decide) ⟨Nat.le_of_ble_eq_true rfl, Nat.le_of_ble_eq_true rfl⟩ (fun X hG hn hmc hms hin h hr => ?_)
  have he := hr.2.2.2.2.2.1
  refine z_aload_n h dX12_dig_0 rfl ?_
  refine z_iload_n h dX12_dig_1 rfl ?_
  refine z_callV h dX12_dig_2 (fun _ _ q => z_okv_no he q) (fun _ _ _ t q => absurd q (he t)) (m_X12_isBog _ hR nb hc1 hnb b) ym_X12_isBog mlX12_178 im_X12_isBog (ci := 12) rfl se_X12_isBog icX12 rfl (r_p.ob hR (by first | assumption | exact Nat.le_of_ble_eq_true rfl) (by first | rfl | assumption | exact tx_2 (by first | assumption | omega) | exact tx_18 (by first | assumption | omega) | exact tx_19 (by first | assumption | omega) | exact tx_20 (by first | assumption | omega) | exact tx_27 (by first | assumption | omega) | exact tx_28 (by first | assumption | omega) | exact tx_30 (by first | assumption | omega) | exact tx_31 (by first | assumption | omega) | exact tx_32 (by first | assumption | omega) | exact tx_33 (by first | assumption | omega))) rfl (by decide) (Nat.le_of_ble_eq_true rfl) ?_
  rintro q1 w1 ⟨rfl, hw1⟩
  have hw1 := hw1.symm; subst hw1
  refine z_if_eq h dX12_dig_5 23 (by decide) (fun c_1 => ?_) (fun c_1 => ?_)
  · skip
    refine z_iconst (v := -1) h dX12_dig_23 (by decide) ?_
    exact z_iret h dX12_dig_24 hr (z_f (fun q => z_bf c_1 q.1) ⟨rfl, rfl⟩)
  · skip
    refine z_iload_n h dX12_dig_8 rfl ?_
    refine z_iconst (v := 1) h dX12_dig_9 (by decide) ?_
    refine z_icmp_lt h dX12_dig_10 23 (by decide) (fun c_2 => ?_) (fun c_2 => ?_)
    · skip
      refine z_iconst (v := -1) h dX12_dig_23 (by decide) ?_
      exact z_iret h dX12_dig_24 hr (z_f (fun q => by have q1 := q.2.1.1; clear q; simp only [z_lt, z_le, z_ie] at *; omega) ⟨rfl, rfl⟩)
    · skip
      refine z_iload_n h dX12_dig_13 rfl ?_
      refine z_aload_n h dX12_dig_14 rfl ?_
      refine y_getr h dX12_dig_15 hR flX12_9 (by first | assumption | exact Nat.le_of_ble_eq_true rfl) (by first | rfl | assumption | exact tx_2 (by first | assumption | omega) | exact tx_18 (by first | assumption | omega) | exact tx_19 (by first | assumption | omega) | exact tx_20 (by first | assumption | omega) | exact tx_27 (by first | assumption | omega) | exact tx_28 (by first | assumption | omega) | exact tx_30 (by first | assumption | omega) | exact tx_31 (by first | assumption | omega) | exact tx_32 (by first | assumption | omega) | exact tx_33 (by first | assumption | omega)) (by rfl) ?_
      refine z_iload_n h dX12_dig_18 rfl ?_
      refine y_iald h dX12_dig_19 hR (by first | assumption | exact Nat.le_of_ble_eq_true rfl) (by first | rfl | assumption | exact tx_2 (by first | assumption | omega) | exact tx_18 (by first | assumption | omega) | exact tx_19 (by first | assumption | omega) | exact tx_20 (by first | assumption | omega) | exact tx_27 (by first | assumption | omega) | exact tx_28 (by first | assumption | omega) | exact tx_30 (by first | assumption | omega) | exact tx_31 (by first | assumption | omega) | exact tx_32 (by first | assumption | omega) | exact tx_33 (by first | assumption | omega)) (z_ixe (ix_eq (n := nb) (z_bt c_1)) (by have := ix_lt (n := nb) (z_bt c_1) (by omega); omega) (by decide)) ?_
      refine z_icmp_le h dX12_dig_20 25 (by decide) (fun c_3 => ?_) (fun c_3 => ?_)
      · skip
        refine z_aload_n h dX12_dig_25 rfl ?_
        refine y_getr h dX12_dig_26 hR flX12_25 (by first | assumption | exact Nat.le_of_ble_eq_true rfl) (by first | rfl | assumption | exact tx_2 (by first | assumption | omega) | exact tx_18 (by first | assumption | omega) | exact tx_19 (by first | assumption | omega) | exact tx_20 (by first | assumption | omega) | exact tx_27 (by first | assumption | omega) | exact tx_28 (by first | assumption | omega) | exact tx_30 (by first | assumption | omega) | exact tx_31 (by first | assumption | omega) | exact tx_32 (by first | assumption | omega) | exact tx_33 (by first | assumption | omega)) (by rfl) ?_
        refine z_iload_n h dX12_dig_29 rfl ?_
        refine y_iald h dX12_dig_30 hR (by first | assumption | exact Nat.le_of_ble_eq_true rfl) (by first | rfl | assumption | exact tx_2 (by first | assumption | omega) | exact tx_18 (by first | assumption | omega) | exact tx_19 (by first | assumption | omega) | exact tx_20 (by first | assumption | omega) | exact tx_27 (by first | assumption | omega) | exact tx_28 (by first | assumption | omega) | exact tx_30 (by first | assumption | omega) | exact tx_31 (by first | assumption | omega) | exact tx_32 (by first | assumption | omega) | exact tx_33 (by first | assumption | omega)) (z_ixe (ix_eq (n := nb) (z_bt c_1)) (by have := ix_lt (n := nb) (z_bt c_1) (by omega); omega) (by decide)) ?_
        refine z_iconst (v := -1) h dX12_dig_31 (by decide) ?_
        refine z_icmp_eq h dX12_dig_32 68 (by decide) (fun c_4 => ?_) (fun c_4 => ?_)
        · skip
          refine z_iconst (v := 1) h dX12_dig_68 (by decide) ?_
          refine z_goto h dX12_dig_69 73 (by decide) ?_
          refine z_istore_n h dX12_dig_73 (by rw [hn]; decide) ?_
          refine z_iload_n h dX12_dig_74 rfl ?_
          refine z_if_ne h dX12_dig_75 80 (by decide) (fun c_7 => ?_) (fun c_7 => ?_)
          · skip
            refine z_aload_n h dX12_dig_80 rfl ?_
            refine y_getr h dX12_dig_81 hR flX12_9 (by first | assumption | exact Nat.le_of_ble_eq_true rfl) (by first | rfl | assumption | exact tx_2 (by first | assumption | omega) | exact tx_18 (by first | assumption | omega) | exact tx_19 (by first | assumption | omega) | exact tx_20 (by first | assumption | omega) | exact tx_27 (by first | assumption | omega) | exact tx_28 (by first | assumption | omega) | exact tx_30 (by first | assumption | omega) | exact tx_31 (by first | assumption | omega) | exact tx_32 (by first | assumption | omega) | exact tx_33 (by first | assumption | omega)) (by rfl) ?_
            refine z_iload_n h dX12_dig_84 rfl ?_
            refine z_dup2_ir h dX12_dig_85 ?_
            refine y_iald h dX12_dig_86 hR (by first | assumption | exact Nat.le_of_ble_eq_true rfl) (by first | rfl | assumption | exact tx_2 (by first | assumption | omega) | exact tx_18 (by first | assumption | omega) | exact tx_19 (by first | assumption | omega) | exact tx_20 (by first | assumption | omega) | exact tx_27 (by first | assumption | omega) | exact tx_28 (by first | assumption | omega) | exact tx_30 (by first | assumption | omega) | exact tx_31 (by first | assumption | omega) | exact tx_32 (by first | assumption | omega) | exact tx_33 (by first | assumption | omega)) (z_ixe (ix_eq (n := nb) (z_bt c_1)) (by have := ix_lt (n := nb) (z_bt c_1) (by omega); omega) (by decide)) ?_
            refine z_iload_n h dX12_dig_87 rfl ?_
            refine z_isub h dX12_dig_88 ?_
            refine y_iast h dX12_dig_89 hR (by first | assumption | exact Nat.le_of_ble_eq_true rfl) (by first | rfl | assumption | exact tx_2 (by first | assumption | omega) | exact tx_18 (by first | assumption | omega) | exact tx_19 (by first | assumption | omega) | exact tx_20 (by first | assumption | omega) | exact tx_27 (by first | assumption | omega) | exact tx_28 (by first | assumption | omega) | exact tx_30 (by first | assumption | omega) | exact tx_31 (by first | assumption | omega) | exact tx_32 (by first | assumption | omega) | exact tx_33 (by first | assumption | omega)) (z_ixe (ix_eq (n := nb) (z_bt c_1)) (by have := ix_lt (n := nb) (z_bt c_1) (by omega); omega) (by decide)) (fun w hR => ?_)
            refine z_aload_n h dX12_dig_90 rfl ?_
            refine y_getr h dX12_dig_91 hR flX12_28 (by first | assumption | exact Nat.le_of_ble_eq_true rfl) (by first | rfl | assumption | exact tx_2 (by first | assumption | omega) | exact tx_18 (by first | assumption | omega) | exact tx_19 (by first | assumption | omega) | exact tx_20 (by first | assumption | omega) | exact tx_27 (by first | assumption | omega) | exact tx_28 (by first | assumption | omega) | exact tx_30 (by first | assumption | omega) | exact tx_31 (by first | assumption | omega) | exact tx_32 (by first | assumption | omega) | exact tx_33 (by first | assumption | omega)) (by rfl) ?_
            refine z_iload_n h dX12_dig_94 rfl ?_
            refine z_dup2_ir h dX12_dig_95 ?_
            refine y_iald h dX12_dig_96 hR (by first | assumption | exact Nat.le_of_ble_eq_true rfl) (by first | rfl | assumption | exact tx_2 (by first | assumption | omega) | exact tx_18 (by first | assumption | omega) | exact tx_19 (by first | assumption | omega) | exact tx_20 (by first | assumption | omega) | exact tx_27 (by first | assumption | omega) | exact tx_28 (by first | assumption | omega) | exact tx_30 (by first | assumption | omega) | exact tx_31 (by first | assumption | omega) | exact tx_32 (by first | assumption | omega) | exact tx_33 (by first | assumption | omega)) (z_ixe (ix_eq (n := nb) (z_bt c_1)) (by have := ix_lt (n := nb) (z_bt c_1) (by omega); omega) (by decide)) ?_
            refine z_iload_n h dX12_dig_97 rfl ?_
            refine z_iadd h dX12_dig_98 ?_
            refine y_iast h dX12_dig_99 hR (by first | assumption | exact Nat.le_of_ble_eq_true rfl) (by first | rfl | assumption | exact tx_2 (by first | assumption | omega) | exact tx_18 (by first | assumption | omega) | exact tx_19 (by first | assumption | omega) | exact tx_20 (by first | assumption | omega) | exact tx_27 (by first | assumption | omega) | exact tx_28 (by first | assumption | omega) | exact tx_30 (by first | assumption | omega) | exact tx_31 (by first | assumption | omega) | exact tx_32 (by first | assumption | omega) | exact tx_33 (by first | assumption | omega)) (z_ixe (ix_eq (n := nb) (z_bt c_1)) (by have := ix_lt (n := nb) (z_bt c_1) (by omega); omega) (by decide)) (fun w hR => ?_)
            refine z_aload_n h dX12_dig_100 rfl ?_
            refine y_getr h dX12_dig_101 hR flX12_25 (by first | assumption | exact Nat.le_of_ble_eq_true rfl) (by first | rfl | assumption | exact tx_2 (by first | assumption | omega) | exact tx_18 (by first | assumption | omega) | exact tx_19 (by first | assumption | omega) | exact tx_20 (by first | assumption | omega) | exact tx_27 (by first | assumption | omega) | exact tx_28 (by first | assumption | omega) | exact tx_30 (by first | assumption | omega) | exact tx_31 (by first | assumption | omega) | exact tx_32 (by first | assumption | omega) | exact tx_33 (by first | assumption | omega)) (by rfl) ?_
            refine z_iload_n h dX12_dig_104 rfl ?_
            refine z_aload_n h dX12_dig_105 rfl ?_
            refine y_geti h dX12_dig_106 hR flX12_191 (by first | assumption | exact Nat.le_of_ble_eq_true rfl) (by first | rfl | assumption | exact tx_2 (by first | assumption | omega) | exact tx_18 (by first | assumption | omega) | exact tx_19 (by first | assumption | omega) | exact tx_20 (by first | assumption | omega) | exact tx_27 (by first | assumption | omega) | exact tx_28 (by first | assumption | omega) | exact tx_30 (by first | assumption | omega) | exact tx_31 (by first | assumption | omega) | exact tx_32 (by first | assumption | omega) | exact tx_33 (by first | assumption | omega)) (by rfl) ?_
            refine y_iast h dX12_dig_109 hR (by first | assumption | exact Nat.le_of_ble_eq_true rfl) (by first | rfl | assumption | exact tx_2 (by first | assumption | omega) | exact tx_18 (by first | assumption | omega) | exact tx_19 (by first | assumption | omega) | exact tx_20 (by first | assumption | omega) | exact tx_27 (by first | assumption | omega) | exact tx_28 (by first | assumption | omega) | exact tx_30 (by first | assumption | omega) | exact tx_31 (by first | assumption | omega) | exact tx_32 (by first | assumption | omega) | exact tx_33 (by first | assumption | omega)) (z_ixe (ix_eq (n := nb) (z_bt c_1)) (by have := ix_lt (n := nb) (z_bt c_1) (by omega); omega) (by decide)) (fun w hR => ?_)
            refine z_aload_n h dX12_dig_110 rfl ?_
            refine y_getr h dX12_dig_111 hR flX12_28 (by first | assumption | exact Nat.le_of_ble_eq_true rfl) (by first | rfl | assumption | exact tx_2 (by first | assumption | omega) | exact tx_18 (by first | assumption | omega) | exact tx_19 (by first | assumption | omega) | exact tx_20 (by first | assumption | omega) | exact tx_27 (by first | assumption | omega) | exact tx_28 (by first | assumption | omega) | exact tx_30 (by first | assumption | omega) | exact tx_31 (by first | assumption | omega) | exact tx_32 (by first | assumption | omega) | exact tx_33 (by first | assumption | omega)) (by rfl) ?_
            refine z_iload_n h dX12_dig_114 rfl ?_
            refine y_iald h dX12_dig_115 hR (by first | assumption | exact Nat.le_of_ble_eq_true rfl) (by first | rfl | assumption | exact tx_2 (by first | assumption | omega) | exact tx_18 (by first | assumption | omega) | exact tx_19 (by first | assumption | omega) | exact tx_20 (by first | assumption | omega) | exact tx_27 (by first | assumption | omega) | exact tx_28 (by first | assumption | omega) | exact tx_30 (by first | assumption | omega) | exact tx_31 (by first | assumption | omega) | exact tx_32 (by first | assumption | omega) | exact tx_33 (by first | assumption | omega)) (z_ixe (ix_eq (n := nb) (z_bt c_1)) (by have := ix_lt (n := nb) (z_bt c_1) (by omega); omega) (by decide)) ?_
            exact z_iret h dX12_dig_116 hr (z_t ⟨z_bt c_1, ⟨by simp only [z_lt, z_le, z_ie] at *; omega, by simp only [z_lt, z_le, z_ie] at *; omega⟩, fun q => q.1 c_4⟩ ⟨z_e1 (by simp only [r_cs, r_cf_self, pk_us, r_cf_ne (show ((114, 0) : z_T) ≠ (113, 0) by simp), r_cf_ne (show ((114, 0) : z_T) ≠ (108, 0) by simp)]), hR⟩)
          · skip
            exact absurd c_7 (by decide)
        · skip
          refine z_aload_n h dX12_dig_35 rfl ?_
          refine y_getr h dX12_dig_36 hR flX12_25 (by first | assumption | exact Nat.le_of_ble_eq_true rfl) (by first | rfl | assumption | exact tx_2 (by first | assumption | omega) | exact tx_18 (by first | assumption | omega) | exact tx_19 (by first | assumption | omega) | exact tx_20 (by first | assumption | omega) | exact tx_27 (by first | assumption | omega) | exact tx_28 (by first | assumption | omega) | exact tx_30 (by first | assumption | omega) | exact tx_31 (by first | assumption | omega) | exact tx_32 (by first | assumption | omega) | exact tx_33 (by first | assumption | omega)) (by rfl) ?_
          refine z_iload_n h dX12_dig_39 rfl ?_
          refine y_iald h dX12_dig_40 hR (by first | assumption | exact Nat.le_of_ble_eq_true rfl) (by first | rfl | assumption | exact tx_2 (by first | assumption | omega) | exact tx_18 (by first | assumption | omega) | exact tx_19 (by first | assumption | omega) | exact tx_20 (by first | assumption | omega) | exact tx_27 (by first | assumption | omega) | exact tx_28 (by first | assumption | omega) | exact tx_30 (by first | assumption | omega) | exact tx_31 (by first | assumption | omega) | exact tx_32 (by first | assumption | omega) | exact tx_33 (by first | assumption | omega)) (z_ixe (ix_eq (n := nb) (z_bt c_1)) (by have := ix_lt (n := nb) (z_bt c_1) (by omega); omega) (by decide)) ?_
          refine z_aload_n h dX12_dig_41 rfl ?_
          refine y_geti h dX12_dig_42 hR flX12_191 (by first | assumption | exact Nat.le_of_ble_eq_true rfl) (by first | rfl | assumption | exact tx_2 (by first | assumption | omega) | exact tx_18 (by first | assumption | omega) | exact tx_19 (by first | assumption | omega) | exact tx_20 (by first | assumption | omega) | exact tx_27 (by first | assumption | omega) | exact tx_28 (by first | assumption | omega) | exact tx_30 (by first | assumption | omega) | exact tx_31 (by first | assumption | omega) | exact tx_32 (by first | assumption | omega) | exact tx_33 (by first | assumption | omega)) (by rfl) ?_
          refine z_icmp_eq h dX12_dig_45 68 (by decide) (fun c_5 => ?_) (fun c_5 => ?_)
          · skip
            refine z_iconst (v := 1) h dX12_dig_68 (by decide) ?_
            refine z_goto h dX12_dig_69 73 (by decide) ?_
            refine z_istore_n h dX12_dig_73 (by rw [hn]; decide) ?_
            refine z_iload_n h dX12_dig_74 rfl ?_
            refine z_if_ne h dX12_dig_75 80 (by decide) (fun c_7 => ?_) (fun c_7 => ?_)
            · skip
              refine z_aload_n h dX12_dig_80 rfl ?_
              refine y_getr h dX12_dig_81 hR flX12_9 (by first | assumption | exact Nat.le_of_ble_eq_true rfl) (by first | rfl | assumption | exact tx_2 (by first | assumption | omega) | exact tx_18 (by first | assumption | omega) | exact tx_19 (by first | assumption | omega) | exact tx_20 (by first | assumption | omega) | exact tx_27 (by first | assumption | omega) | exact tx_28 (by first | assumption | omega) | exact tx_30 (by first | assumption | omega) | exact tx_31 (by first | assumption | omega) | exact tx_32 (by first | assumption | omega) | exact tx_33 (by first | assumption | omega)) (by rfl) ?_
              refine z_iload_n h dX12_dig_84 rfl ?_
              refine z_dup2_ir h dX12_dig_85 ?_
              refine y_iald h dX12_dig_86 hR (by first | assumption | exact Nat.le_of_ble_eq_true rfl) (by first | rfl | assumption | exact tx_2 (by first | assumption | omega) | exact tx_18 (by first | assumption | omega) | exact tx_19 (by first | assumption | omega) | exact tx_20 (by first | assumption | omega) | exact tx_27 (by first | assumption | omega) | exact tx_28 (by first | assumption | omega) | exact tx_30 (by first | assumption | omega) | exact tx_31 (by first | assumption | omega) | exact tx_32 (by first | assumption | omega) | exact tx_33 (by first | assumption | omega)) (z_ixe (ix_eq (n := nb) (z_bt c_1)) (by have := ix_lt (n := nb) (z_bt c_1) (by omega); omega) (by decide)) ?_
              refine z_iload_n h dX12_dig_87 rfl ?_
              refine z_isub h dX12_dig_88 ?_
              refine y_iast h dX12_dig_89 hR (by first | assumption | exact Nat.le_of_ble_eq_true rfl) (by first | rfl | assumption | exact tx_2 (by first | assumption | omega) | exact tx_18 (by first | assumption | omega) | exact tx_19 (by first | assumption | omega) | exact tx_20 (by first | assumption | omega) | exact tx_27 (by first | assumption | omega) | exact tx_28 (by first | assumption | omega) | exact tx_30 (by first | assumption | omega) | exact tx_31 (by first | assumption | omega) | exact tx_32 (by first | assumption | omega) | exact tx_33 (by first | assumption | omega)) (z_ixe (ix_eq (n := nb) (z_bt c_1)) (by have := ix_lt (n := nb) (z_bt c_1) (by omega); omega) (by decide)) (fun w hR => ?_)
              refine z_aload_n h dX12_dig_90 rfl ?_
              refine y_getr h dX12_dig_91 hR flX12_28 (by first | assumption | exact Nat.le_of_ble_eq_true rfl) (by first | rfl | assumption | exact tx_2 (by first | assumption | omega) | exact tx_18 (by first | assumption | omega) | exact tx_19 (by first | assumption | omega) | exact tx_20 (by first | assumption | omega) | exact tx_27 (by first | assumption | omega) | exact tx_28 (by first | assumption | omega) | exact tx_30 (by first | assumption | omega) | exact tx_31 (by first | assumption | omega) | exact tx_32 (by first | assumption | omega) | exact tx_33 (by first | assumption | omega)) (by rfl) ?_
              refine z_iload_n h dX12_dig_94 rfl ?_
              refine z_dup2_ir h dX12_dig_95 ?_
              refine y_iald h dX12_dig_96 hR (by first | assumption | exact Nat.le_of_ble_eq_true rfl) (by first | rfl | assumption | exact tx_2 (by first | assumption | omega) | exact tx_18 (by first | assumption | omega) | exact tx_19 (by first | assumption | omega) | exact tx_20 (by first | assumption | omega) | exact tx_27 (by first | assumption | omega) | exact tx_28 (by first | assumption | omega) | exact tx_30 (by first | assumption | omega) | exact tx_31 (by first | assumption | omega) | exact tx_32 (by first | assumption | omega) | exact tx_33 (by first | assumption | omega)) (z_ixe (ix_eq (n := nb) (z_bt c_1)) (by have := ix_lt (n := nb) (z_bt c_1) (by omega); omega) (by decide)) ?_
              refine z_iload_n h dX12_dig_97 rfl ?_
              refine z_iadd h dX12_dig_98 ?_
              refine y_iast h dX12_dig_99 hR (by first | assumption | exact Nat.le_of_ble_eq_true rfl) (by first | rfl | assumption | exact tx_2 (by first | assumption | omega) | exact tx_18 (by first | assumption | omega) | exact tx_19 (by first | assumption | omega) | exact tx_20 (by first | assumption | omega) | exact tx_27 (by first | assumption | omega) | exact tx_28 (by first | assumption | omega) | exact tx_30 (by first | assumption | omega) | exact tx_31 (by first | assumption | omega) | exact tx_32 (by first | assumption | omega) | exact tx_33 (by first | assumption | omega)) (z_ixe (ix_eq (n := nb) (z_bt c_1)) (by have := ix_lt (n := nb) (z_bt c_1) (by omega); omega) (by decide)) (fun w hR => ?_)
              refine z_aload_n h dX12_dig_100 rfl ?_
              refine y_getr h dX12_dig_101 hR flX12_25 (by first | assumption | exact Nat.le_of_ble_eq_true rfl) (by first | rfl | assumption | exact tx_2 (by first | assumption | omega) | exact tx_18 (by first | assumption | omega) | exact tx_19 (by first | assumption | omega) | exact tx_20 (by first | assumption | omega) | exact tx_27 (by first | assumption | omega) | exact tx_28 (by first | assumption | omega) | exact tx_30 (by first | assumption | omega) | exact tx_31 (by first | assumption | omega) | exact tx_32 (by first | assumption | omega) | exact tx_33 (by first | assumption | omega)) (by rfl) ?_
              refine z_iload_n h dX12_dig_104 rfl ?_
              refine z_aload_n h dX12_dig_105 rfl ?_
              refine y_geti h dX12_dig_106 hR flX12_191 (by first | assumption | exact Nat.le_of_ble_eq_true rfl) (by first | rfl | assumption | exact tx_2 (by first | assumption | omega) | exact tx_18 (by first | assumption | omega) | exact tx_19 (by first | assumption | omega) | exact tx_20 (by first | assumption | omega) | exact tx_27 (by first | assumption | omega) | exact tx_28 (by first | assumption | omega) | exact tx_30 (by first | assumption | omega) | exact tx_31 (by first | assumption | omega) | exact tx_32 (by first | assumption | omega) | exact tx_33 (by first | assumption | omega)) (by rfl) ?_
              refine y_iast h dX12_dig_109 hR (by first | assumption | exact Nat.le_of_ble_eq_true rfl) (by first | rfl | assumption | exact tx_2 (by first | assumption | omega) | exact tx_18 (by first | assumption | omega) | exact tx_19 (by first | assumption | omega) | exact tx_20 (by first | assumption | omega) | exact tx_27 (by first | assumption | omega) | exact tx_28 (by first | assumption | omega) | exact tx_30 (by first | assumption | omega) | exact tx_31 (by first | assumption | omega) | exact tx_32 (by first | assumption | omega) | exact tx_33 (by first | assumption | omega)) (z_ixe (ix_eq (n := nb) (z_bt c_1)) (by have := ix_lt (n := nb) (z_bt c_1) (by omega); omega) (by decide)) (fun w hR => ?_)
              refine z_aload_n h dX12_dig_110 rfl ?_
              refine y_getr h dX12_dig_111 hR flX12_28 (by first | assumption | exact Nat.le_of_ble_eq_true rfl) (by first | rfl | assumption | exact tx_2 (by first | assumption | omega) | exact tx_18 (by first | assumption | omega) | exact tx_19 (by first | assumption | omega) | exact tx_20 (by first | assumption | omega) | exact tx_27 (by first | assumption | omega) | exact tx_28 (by first | assumption | omega) | exact tx_30 (by first | assumption | omega) | exact tx_31 (by first | assumption | omega) | exact tx_32 (by first | assumption | omega) | exact tx_33 (by first | assumption | omega)) (by rfl) ?_
              refine z_iload_n h dX12_dig_114 rfl ?_
              refine y_iald h dX12_dig_115 hR (by first | assumption | exact Nat.le_of_ble_eq_true rfl) (by first | rfl | assumption | exact tx_2 (by first | assumption | omega) | exact tx_18 (by first | assumption | omega) | exact tx_19 (by first | assumption | omega) | exact tx_20 (by first | assumption | omega) | exact tx_27 (by first | assumption | omega) | exact tx_28 (by first | assumption | omega) | exact tx_30 (by first | assumption | omega) | exact tx_31 (by first | assumption | omega) | exact tx_32 (by first | assumption | omega) | exact tx_33 (by first | assumption | omega)) (z_ixe (ix_eq (n := nb) (z_bt c_1)) (by have := ix_lt (n := nb) (z_bt c_1) (by omega); omega) (by decide)) ?_
              exact z_iret h dX12_dig_116 hr (z_t ⟨z_bt c_1, ⟨by simp only [z_lt, z_le, z_ie] at *; omega, by simp only [z_lt, z_le, z_ie] at *; omega⟩, fun q => q.2.1 c_5⟩ ⟨z_e1 (by simp only [r_cs, r_cf_self, pk_us, r_cf_ne (show ((114, 0) : z_T) ≠ (113, 0) by simp), r_cf_ne (show ((114, 0) : z_T) ≠ (108, 0) by simp)]), hR⟩)
            · skip
              exact absurd c_7 (by decide)
          · skip
            refine z_aload_n h dX12_dig_48 rfl ?_
            refine y_geti h dX12_dig_49 hR flX12_191 (by first | assumption | exact Nat.le_of_ble_eq_true rfl) (by first | rfl | assumption | exact tx_2 (by first | assumption | omega) | exact tx_18 (by first | assumption | omega) | exact tx_19 (by first | assumption | omega) | exact tx_20 (by first | assumption | omega) | exact tx_27 (by first | assumption | omega) | exact tx_28 (by first | assumption | omega) | exact tx_30 (by first | assumption | omega) | exact tx_31 (by first | assumption | omega) | exact tx_32 (by first | assumption | omega) | exact tx_33 (by first | assumption | omega)) (by rfl) ?_
            refine z_aload_n h dX12_dig_52 rfl ?_
            refine y_getr h dX12_dig_53 hR flX12_25 (by first | assumption | exact Nat.le_of_ble_eq_true rfl) (by first | rfl | assumption | exact tx_2 (by first | assumption | omega) | exact tx_18 (by first | assumption | omega) | exact tx_19 (by first | assumption | omega) | exact tx_20 (by first | assumption | omega) | exact tx_27 (by first | assumption | omega) | exact tx_28 (by first | assumption | omega) | exact tx_30 (by first | assumption | omega) | exact tx_31 (by first | assumption | omega) | exact tx_32 (by first | assumption | omega) | exact tx_33 (by first | assumption | omega)) (by rfl) ?_
            refine z_iload_n h dX12_dig_56 rfl ?_
            refine y_iald h dX12_dig_57 hR (by first | assumption | exact Nat.le_of_ble_eq_true rfl) (by first | rfl | assumption | exact tx_2 (by first | assumption | omega) | exact tx_18 (by first | assumption | omega) | exact tx_19 (by first | assumption | omega) | exact tx_20 (by first | assumption | omega) | exact tx_27 (by first | assumption | omega) | exact tx_28 (by first | assumption | omega) | exact tx_30 (by first | assumption | omega) | exact tx_31 (by first | assumption | omega) | exact tx_32 (by first | assumption | omega) | exact tx_33 (by first | assumption | omega)) (z_ixe (ix_eq (n := nb) (z_bt c_1)) (by have := ix_lt (n := nb) (z_bt c_1) (by omega); omega) (by decide)) ?_
            refine z_isub h dX12_dig_58 ?_
            refine z_aload_n h dX12_dig_59 rfl ?_
            refine y_getr h dX12_dig_60 hR flX12_16 (by first | assumption | exact Nat.le_of_ble_eq_true rfl) (by first | rfl | assumption | exact tx_2 (by first | assumption | omega) | exact tx_18 (by first | assumption | omega) | exact tx_19 (by first | assumption | omega) | exact tx_20 (by first | assumption | omega) | exact tx_27 (by first | assumption | omega) | exact tx_28 (by first | assumption | omega) | exact tx_30 (by first | assumption | omega) | exact tx_31 (by first | assumption | omega) | exact tx_32 (by first | assumption | omega) | exact tx_33 (by first | assumption | omega)) (by rfl) ?_
            refine z_iload_n h dX12_dig_63 rfl ?_
            refine y_iald h dX12_dig_64 hR (by first | assumption | exact Nat.le_of_ble_eq_true rfl) (by first | rfl | assumption | exact tx_2 (by first | assumption | omega) | exact tx_18 (by first | assumption | omega) | exact tx_19 (by first | assumption | omega) | exact tx_20 (by first | assumption | omega) | exact tx_27 (by first | assumption | omega) | exact tx_28 (by first | assumption | omega) | exact tx_30 (by first | assumption | omega) | exact tx_31 (by first | assumption | omega) | exact tx_32 (by first | assumption | omega) | exact tx_33 (by first | assumption | omega)) (z_ixe (ix_eq (n := nb) (z_bt c_1)) (by have := ix_lt (n := nb) (z_bt c_1) (by omega); omega) (by decide)) ?_
            refine z_icmp_lt h dX12_dig_65 72 (by decide) (fun c_6 => ?_) (fun c_6 => ?_)
            · skip
              refine z_iconst (v := 0) h dX12_dig_72 (by decide) ?_
              refine z_istore_n h dX12_dig_73 (by rw [hn]; decide) ?_
              refine z_iload_n h dX12_dig_74 rfl ?_
              refine z_if_ne h dX12_dig_75 80 (by decide) (fun c_7 => ?_) (fun c_7 => ?_)
              · skip
                exact absurd rfl c_7
              · skip
                refine z_iconst (v := -1) h dX12_dig_78 (by decide) ?_
                exact z_iret h dX12_dig_79 hr (z_f (fun q => q.2.2 ⟨c_4, c_5, by clear q c_4 c_5 c_3; simp only [z_lt, z_le, z_ie] at *; omega⟩) ⟨rfl, rfl⟩)
            · skip
              refine z_iconst (v := 1) h dX12_dig_68 (by decide) ?_
              refine z_goto h dX12_dig_69 73 (by decide) ?_
              refine z_istore_n h dX12_dig_73 (by rw [hn]; decide) ?_
              refine z_iload_n h dX12_dig_74 rfl ?_
              refine z_if_ne h dX12_dig_75 80 (by decide) (fun c_7 => ?_) (fun c_7 => ?_)
              · skip
                refine z_aload_n h dX12_dig_80 rfl ?_
                refine y_getr h dX12_dig_81 hR flX12_9 (by first | assumption | exact Nat.le_of_ble_eq_true rfl) (by first | rfl | assumption | exact tx_2 (by first | assumption | omega) | exact tx_18 (by first | assumption | omega) | exact tx_19 (by first | assumption | omega) | exact tx_20 (by first | assumption | omega) | exact tx_27 (by first | assumption | omega) | exact tx_28 (by first | assumption | omega) | exact tx_30 (by first | assumption | omega) | exact tx_31 (by first | assumption | omega) | exact tx_32 (by first | assumption | omega) | exact tx_33 (by first | assumption | omega)) (by rfl) ?_
                refine z_iload_n h dX12_dig_84 rfl ?_
                refine z_dup2_ir h dX12_dig_85 ?_
                refine y_iald h dX12_dig_86 hR (by first | assumption | exact Nat.le_of_ble_eq_true rfl) (by first | rfl | assumption | exact tx_2 (by first | assumption | omega) | exact tx_18 (by first | assumption | omega) | exact tx_19 (by first | assumption | omega) | exact tx_20 (by first | assumption | omega) | exact tx_27 (by first | assumption | omega) | exact tx_28 (by first | assumption | omega) | exact tx_30 (by first | assumption | omega) | exact tx_31 (by first | assumption | omega) | exact tx_32 (by first | assumption | omega) | exact tx_33 (by first | assumption | omega)) (z_ixe (ix_eq (n := nb) (z_bt c_1)) (by have := ix_lt (n := nb) (z_bt c_1) (by omega); omega) (by decide)) ?_
                refine z_iload_n h dX12_dig_87 rfl ?_
                refine z_isub h dX12_dig_88 ?_
                refine y_iast h dX12_dig_89 hR (by first | assumption | exact Nat.le_of_ble_eq_true rfl) (by first | rfl | assumption | exact tx_2 (by first | assumption | omega) | exact tx_18 (by first | assumption | omega) | exact tx_19 (by first | assumption | omega) | exact tx_20 (by first | assumption | omega) | exact tx_27 (by first | assumption | omega) | exact tx_28 (by first | assumption | omega) | exact tx_30 (by first | assumption | omega) | exact tx_31 (by first | assumption | omega) | exact tx_32 (by first | assumption | omega) | exact tx_33 (by first | assumption | omega)) (z_ixe (ix_eq (n := nb) (z_bt c_1)) (by have := ix_lt (n := nb) (z_bt c_1) (by omega); omega) (by decide)) (fun w hR => ?_)
                refine z_aload_n h dX12_dig_90 rfl ?_
                refine y_getr h dX12_dig_91 hR flX12_28 (by first | assumption | exact Nat.le_of_ble_eq_true rfl) (by first | rfl | assumption | exact tx_2 (by first | assumption | omega) | exact tx_18 (by first | assumption | omega) | exact tx_19 (by first | assumption | omega) | exact tx_20 (by first | assumption | omega) | exact tx_27 (by first | assumption | omega) | exact tx_28 (by first | assumption | omega) | exact tx_30 (by first | assumption | omega) | exact tx_31 (by first | assumption | omega) | exact tx_32 (by first | assumption | omega) | exact tx_33 (by first | assumption | omega)) (by rfl) ?_
                refine z_iload_n h dX12_dig_94 rfl ?_
                refine z_dup2_ir h dX12_dig_95 ?_
                refine y_iald h dX12_dig_96 hR (by first | assumption | exact Nat.le_of_ble_eq_true rfl) (by first | rfl | assumption | exact tx_2 (by first | assumption | omega) | exact tx_18 (by first | assumption | omega) | exact tx_19 (by first | assumption | omega) | exact tx_20 (by first | assumption | omega) | exact tx_27 (by first | assumption | omega) | exact tx_28 (by first | assumption | omega) | exact tx_30 (by first | assumption | omega) | exact tx_31 (by first | assumption | omega) | exact tx_32 (by first | assumption | omega) | exact tx_33 (by first | assumption | omega)) (z_ixe (ix_eq (n := nb) (z_bt c_1)) (by have := ix_lt (n := nb) (z_bt c_1) (by omega); omega) (by decide)) ?_
                refine z_iload_n h dX12_dig_97 rfl ?_
                refine z_iadd h dX12_dig_98 ?_
                refine y_iast h dX12_dig_99 hR (by first | assumption | exact Nat.le_of_ble_eq_true rfl) (by first | rfl | assumption | exact tx_2 (by first | assumption | omega) | exact tx_18 (by first | assumption | omega) | exact tx_19 (by first | assumption | omega) | exact tx_20 (by first | assumption | omega) | exact tx_27 (by first | assumption | omega) | exact tx_28 (by first | assumption | omega) | exact tx_30 (by first | assumption | omega) | exact tx_31 (by first | assumption | omega) | exact tx_32 (by first | assumption | omega) | exact tx_33 (by first | assumption | omega)) (z_ixe (ix_eq (n := nb) (z_bt c_1)) (by have := ix_lt (n := nb) (z_bt c_1) (by omega); omega) (by decide)) (fun w hR => ?_)
                refine z_aload_n h dX12_dig_100 rfl ?_
                refine y_getr h dX12_dig_101 hR flX12_25 (by first | assumption | exact Nat.le_of_ble_eq_true rfl) (by first | rfl | assumption | exact tx_2 (by first | assumption | omega) | exact tx_18 (by first | assumption | omega) | exact tx_19 (by first | assumption | omega) | exact tx_20 (by first | assumption | omega) | exact tx_27 (by first | assumption | omega) | exact tx_28 (by first | assumption | omega) | exact tx_30 (by first | assumption | omega) | exact tx_31 (by first | assumption | omega) | exact tx_32 (by first | assumption | omega) | exact tx_33 (by first | assumption | omega)) (by rfl) ?_
                refine z_iload_n h dX12_dig_104 rfl ?_
                refine z_aload_n h dX12_dig_105 rfl ?_
                refine y_geti h dX12_dig_106 hR flX12_191 (by first | assumption | exact Nat.le_of_ble_eq_true rfl) (by first | rfl | assumption | exact tx_2 (by first | assumption | omega) | exact tx_18 (by first | assumption | omega) | exact tx_19 (by first | assumption | omega) | exact tx_20 (by first | assumption | omega) | exact tx_27 (by first | assumption | omega) | exact tx_28 (by first | assumption | omega) | exact tx_30 (by first | assumption | omega) | exact tx_31 (by first | assumption | omega) | exact tx_32 (by first | assumption | omega) | exact tx_33 (by first | assumption | omega)) (by rfl) ?_
                refine y_iast h dX12_dig_109 hR (by first | assumption | exact Nat.le_of_ble_eq_true rfl) (by first | rfl | assumption | exact tx_2 (by first | assumption | omega) | exact tx_18 (by first | assumption | omega) | exact tx_19 (by first | assumption | omega) | exact tx_20 (by first | assumption | omega) | exact tx_27 (by first | assumption | omega) | exact tx_28 (by first | assumption | omega) | exact tx_30 (by first | assumption | omega) | exact tx_31 (by first | assumption | omega) | exact tx_32 (by first | assumption | omega) | exact tx_33 (by first | assumption | omega)) (z_ixe (ix_eq (n := nb) (z_bt c_1)) (by have := ix_lt (n := nb) (z_bt c_1) (by omega); omega) (by decide)) (fun w hR => ?_)
                refine z_aload_n h dX12_dig_110 rfl ?_
                refine y_getr h dX12_dig_111 hR flX12_28 (by first | assumption | exact Nat.le_of_ble_eq_true rfl) (by first | rfl | assumption | exact tx_2 (by first | assumption | omega) | exact tx_18 (by first | assumption | omega) | exact tx_19 (by first | assumption | omega) | exact tx_20 (by first | assumption | omega) | exact tx_27 (by first | assumption | omega) | exact tx_28 (by first | assumption | omega) | exact tx_30 (by first | assumption | omega) | exact tx_31 (by first | assumption | omega) | exact tx_32 (by first | assumption | omega) | exact tx_33 (by first | assumption | omega)) (by rfl) ?_
                refine z_iload_n h dX12_dig_114 rfl ?_
                refine y_iald h dX12_dig_115 hR (by first | assumption | exact Nat.le_of_ble_eq_true rfl) (by first | rfl | assumption | exact tx_2 (by first | assumption | omega) | exact tx_18 (by first | assumption | omega) | exact tx_19 (by first | assumption | omega) | exact tx_20 (by first | assumption | omega) | exact tx_27 (by first | assumption | omega) | exact tx_28 (by first | assumption | omega) | exact tx_30 (by first | assumption | omega) | exact tx_31 (by first | assumption | omega) | exact tx_32 (by first | assumption | omega) | exact tx_33 (by first | assumption | omega)) (z_ixe (ix_eq (n := nb) (z_bt c_1)) (by have := ix_lt (n := nb) (z_bt c_1) (by omega); omega) (by decide)) ?_
                exact z_iret h dX12_dig_116 hr (z_t ⟨z_bt c_1, ⟨by simp only [z_lt, z_le, z_ie] at *; omega, by simp only [z_lt, z_le, z_ie] at *; omega⟩, fun q => by have q3 := q.2.2; clear q c_4 c_5 c_3; simp only [z_lt, z_le, z_ie] at *; omega⟩ ⟨z_e1 (by simp only [r_cs, r_cf_self, pk_us, r_cf_ne (show ((114, 0) : z_T) ≠ (113, 0) by simp), r_cf_ne (show ((114, 0) : z_T) ≠ (108, 0) by simp)]), hR⟩)
              · skip
                exact absurd c_7 (by decide)
      · skip
        refine z_iconst (v := -1) h dX12_dig_23 (by decide) ?_
        exact z_iret h dX12_dig_24 hr (z_f (fun q => by have q1 := q.2.1.2; clear q; simp only [z_lt, z_le, z_ie] at *; omega) ⟨rfl, rfl⟩)
set_option maxHeartbeats 4000000 in
set_option maxRecDepth 100000 in
theorem m_X12_ground (G : z_G) {g : Nat} {w0 w : z_w} {c : r_c} {l : r_l} {r : r_r} (hR : r_p dM (TM g) w0 c l r w) (nb : Nat) (hc1 : c (100, 0) 1 = nI nb) (hnb : nb ≤ 12) (b x : Int32) : z_M G yX12_ground cX12_ground 3 (some .int) 3 (0) (0) [vr (100, 0), vi b, vi x] w (fun q w1 => q = some (vi (if ix_ok b nb then n_sel x [(0, (c (108, 0) b.toNatClampNeg)), (1, (c (109, 0) b.toNatClampNeg)), (2, (c (110, 0) b.toNatClampNeg)), (3, (c (111, 0) b.toNatClampNeg)), (4, (c (112, 0) b.toNatClampNeg)), (5, (c (113, 0) b.toNatClampNeg)), (6, (c (114, 0) b.toNatClampNeg))] (-1) else -1)) ∧ w1 = w) := by
  refine z_met ym_X12_ground (by decide) ⟨Nat.le_of_ble_eq_true rfl, Nat.le_of_ble_eq_true rfl⟩ (fun X hG hn hmc hms hin h hr => ?_)
  have he := hr.2.2.2.2.2.1
  refine z_aload_n h dX12_ground_0 rfl ?_
  refine z_iload_n h dX12_ground_1 rfl ?_
  refine z_callV h dX12_ground_2 (fun _ _ q => z_okv_no he q) (fun _ _ _ t q => absurd q (he t)) (m_X12_isBog _ hR nb hc1 hnb b) ym_X12_isBog mlX12_178 im_X12_isBog (ci := 12) rfl se_X12_isBog icX12 rfl (r_p.ob hR (by first | assumption | exact Nat.le_of_ble_eq_true rfl) (by first | rfl | assumption | exact tx_2 (by first | assumption | omega) | exact tx_18 (by first | assumption | omega) | exact tx_19 (by first | assumption | omega) | exact tx_20 (by first | assumption | omega) | exact tx_27 (by first | assumption | omega) | exact tx_28 (by first | assumption | omega) | exact tx_30 (by first | assumption | omega) | exact tx_31 (by first | assumption | omega) | exact tx_32 (by first | assumption | omega) | exact tx_33 (by first | assumption | omega))) rfl (by decide) (Nat.le_of_ble_eq_true rfl) ?_
  rintro q1 w1 ⟨rfl, hw1⟩
  have hw1 := hw1.symm; subst hw1
  refine z_if_ne h dX12_ground_5 10 (by decide) (fun c_1 => ?_) (fun c_1 => ?_)
  · skip
    refine z_iload_n h dX12_ground_10 rfl ?_
    by_cases s_1_0 : x = 0
    · skip
      refine z_tblIn h dX12_ground_11 52 (off := 41) (by rw [s_1_0]; decide) (by rw [s_1_0]; decide) (by rw [s_1_0]; rfl) (by decide) ?_
      refine z_aload_n h dX12_ground_52 rfl ?_
      refine y_getr h dX12_ground_53 hR flX12_9 (by first | assumption | exact Nat.le_of_ble_eq_true rfl) (by first | rfl | assumption | exact tx_2 (by first | assumption | omega) | exact tx_18 (by first | assumption | omega) | exact tx_19 (by first | assumption | omega) | exact tx_20 (by first | assumption | omega) | exact tx_27 (by first | assumption | omega) | exact tx_28 (by first | assumption | omega) | exact tx_30 (by first | assumption | omega) | exact tx_31 (by first | assumption | omega) | exact tx_32 (by first | assumption | omega) | exact tx_33 (by first | assumption | omega)) (by rfl) ?_
      refine z_iload_n h dX12_ground_56 rfl ?_
      refine y_iald h dX12_ground_57 hR (by first | assumption | exact Nat.le_of_ble_eq_true rfl) (by first | rfl | assumption | exact tx_2 (by first | assumption | omega) | exact tx_18 (by first | assumption | omega) | exact tx_19 (by first | assumption | omega) | exact tx_20 (by first | assumption | omega) | exact tx_27 (by first | assumption | omega) | exact tx_28 (by first | assumption | omega) | exact tx_30 (by first | assumption | omega) | exact tx_31 (by first | assumption | omega) | exact tx_32 (by first | assumption | omega) | exact tx_33 (by first | assumption | omega)) (z_ixe (ix_eq (n := nb) (z_bt c_1)) (by have := ix_lt (n := nb) (z_bt c_1) (by omega); omega) (by decide)) ?_
      exact z_iret h dX12_ground_58 hr (⟨z_e1 (by rw [if_pos (z_bt c_1), s_1_0]; rfl), rfl⟩)
    by_cases s_1_1 : x = 1
    · skip
      refine z_tblIn h dX12_ground_11 59 (off := 48) (by rw [s_1_1]; decide) (by rw [s_1_1]; decide) (by rw [s_1_1]; rfl) (by decide) ?_
      refine z_aload_n h dX12_ground_59 rfl ?_
      refine y_getr h dX12_ground_60 hR flX12_13 (by first | assumption | exact Nat.le_of_ble_eq_true rfl) (by first | rfl | assumption | exact tx_2 (by first | assumption | omega) | exact tx_18 (by first | assumption | omega) | exact tx_19 (by first | assumption | omega) | exact tx_20 (by first | assumption | omega) | exact tx_27 (by first | assumption | omega) | exact tx_28 (by first | assumption | omega) | exact tx_30 (by first | assumption | omega) | exact tx_31 (by first | assumption | omega) | exact tx_32 (by first | assumption | omega) | exact tx_33 (by first | assumption | omega)) (by rfl) ?_
      refine z_iload_n h dX12_ground_63 rfl ?_
      refine y_iald h dX12_ground_64 hR (by first | assumption | exact Nat.le_of_ble_eq_true rfl) (by first | rfl | assumption | exact tx_2 (by first | assumption | omega) | exact tx_18 (by first | assumption | omega) | exact tx_19 (by first | assumption | omega) | exact tx_20 (by first | assumption | omega) | exact tx_27 (by first | assumption | omega) | exact tx_28 (by first | assumption | omega) | exact tx_30 (by first | assumption | omega) | exact tx_31 (by first | assumption | omega) | exact tx_32 (by first | assumption | omega) | exact tx_33 (by first | assumption | omega)) (z_ixe (ix_eq (n := nb) (z_bt c_1)) (by have := ix_lt (n := nb) (z_bt c_1) (by omega); omega) (by decide)) ?_
      exact z_iret h dX12_ground_65 hr (⟨z_e1 (by rw [if_pos (z_bt c_1), s_1_1]; rfl), rfl⟩)
    by_cases s_1_2 : x = 2
    · skip
      refine z_tblIn h dX12_ground_11 66 (off := 55) (by rw [s_1_2]; decide) (by rw [s_1_2]; decide) (by rw [s_1_2]; rfl) (by decide) ?_
      refine z_aload_n h dX12_ground_66 rfl ?_
      refine y_getr h dX12_ground_67 hR flX12_16 (by first | assumption | exact Nat.le_of_ble_eq_true rfl) (by first | rfl | assumption | exact tx_2 (by first | assumption | omega) | exact tx_18 (by first | assumption | omega) | exact tx_19 (by first | assumption | omega) | exact tx_20 (by first | assumption | omega) | exact tx_27 (by first | assumption | omega) | exact tx_28 (by first | assumption | omega) | exact tx_30 (by first | assumption | omega) | exact tx_31 (by first | assumption | omega) | exact tx_32 (by first | assumption | omega) | exact tx_33 (by first | assumption | omega)) (by rfl) ?_
      refine z_iload_n h dX12_ground_70 rfl ?_
      refine y_iald h dX12_ground_71 hR (by first | assumption | exact Nat.le_of_ble_eq_true rfl) (by first | rfl | assumption | exact tx_2 (by first | assumption | omega) | exact tx_18 (by first | assumption | omega) | exact tx_19 (by first | assumption | omega) | exact tx_20 (by first | assumption | omega) | exact tx_27 (by first | assumption | omega) | exact tx_28 (by first | assumption | omega) | exact tx_30 (by first | assumption | omega) | exact tx_31 (by first | assumption | omega) | exact tx_32 (by first | assumption | omega) | exact tx_33 (by first | assumption | omega)) (z_ixe (ix_eq (n := nb) (z_bt c_1)) (by have := ix_lt (n := nb) (z_bt c_1) (by omega); omega) (by decide)) ?_
      exact z_iret h dX12_ground_72 hr (⟨z_e1 (by rw [if_pos (z_bt c_1), s_1_2]; rfl), rfl⟩)
    by_cases s_1_3 : x = 3
    · skip
      refine z_tblIn h dX12_ground_11 73 (off := 62) (by rw [s_1_3]; decide) (by rw [s_1_3]; decide) (by rw [s_1_3]; rfl) (by decide) ?_
      refine z_aload_n h dX12_ground_73 rfl ?_
      refine y_getr h dX12_ground_74 hR flX12_19 (by first | assumption | exact Nat.le_of_ble_eq_true rfl) (by first | rfl | assumption | exact tx_2 (by first | assumption | omega) | exact tx_18 (by first | assumption | omega) | exact tx_19 (by first | assumption | omega) | exact tx_20 (by first | assumption | omega) | exact tx_27 (by first | assumption | omega) | exact tx_28 (by first | assumption | omega) | exact tx_30 (by first | assumption | omega) | exact tx_31 (by first | assumption | omega) | exact tx_32 (by first | assumption | omega) | exact tx_33 (by first | assumption | omega)) (by rfl) ?_
      refine z_iload_n h dX12_ground_77 rfl ?_
      refine y_iald h dX12_ground_78 hR (by first | assumption | exact Nat.le_of_ble_eq_true rfl) (by first | rfl | assumption | exact tx_2 (by first | assumption | omega) | exact tx_18 (by first | assumption | omega) | exact tx_19 (by first | assumption | omega) | exact tx_20 (by first | assumption | omega) | exact tx_27 (by first | assumption | omega) | exact tx_28 (by first | assumption | omega) | exact tx_30 (by first | assumption | omega) | exact tx_31 (by first | assumption | omega) | exact tx_32 (by first | assumption | omega) | exact tx_33 (by first | assumption | omega)) (z_ixe (ix_eq (n := nb) (z_bt c_1)) (by have := ix_lt (n := nb) (z_bt c_1) (by omega); omega) (by decide)) ?_
      exact z_iret h dX12_ground_79 hr (⟨z_e1 (by rw [if_pos (z_bt c_1), s_1_3]; rfl), rfl⟩)
    by_cases s_1_4 : x = 4
    · skip
      refine z_tblIn h dX12_ground_11 80 (off := 69) (by rw [s_1_4]; decide) (by rw [s_1_4]; decide) (by rw [s_1_4]; rfl) (by decide) ?_
      refine z_aload_n h dX12_ground_80 rfl ?_
      refine y_getr h dX12_ground_81 hR flX12_22 (by first | assumption | exact Nat.le_of_ble_eq_true rfl) (by first | rfl | assumption | exact tx_2 (by first | assumption | omega) | exact tx_18 (by first | assumption | omega) | exact tx_19 (by first | assumption | omega) | exact tx_20 (by first | assumption | omega) | exact tx_27 (by first | assumption | omega) | exact tx_28 (by first | assumption | omega) | exact tx_30 (by first | assumption | omega) | exact tx_31 (by first | assumption | omega) | exact tx_32 (by first | assumption | omega) | exact tx_33 (by first | assumption | omega)) (by rfl) ?_
      refine z_iload_n h dX12_ground_84 rfl ?_
      refine y_iald h dX12_ground_85 hR (by first | assumption | exact Nat.le_of_ble_eq_true rfl) (by first | rfl | assumption | exact tx_2 (by first | assumption | omega) | exact tx_18 (by first | assumption | omega) | exact tx_19 (by first | assumption | omega) | exact tx_20 (by first | assumption | omega) | exact tx_27 (by first | assumption | omega) | exact tx_28 (by first | assumption | omega) | exact tx_30 (by first | assumption | omega) | exact tx_31 (by first | assumption | omega) | exact tx_32 (by first | assumption | omega) | exact tx_33 (by first | assumption | omega)) (z_ixe (ix_eq (n := nb) (z_bt c_1)) (by have := ix_lt (n := nb) (z_bt c_1) (by omega); omega) (by decide)) ?_
      exact z_iret h dX12_ground_86 hr (⟨z_e1 (by rw [if_pos (z_bt c_1), s_1_4]; rfl), rfl⟩)
    by_cases s_1_5 : x = 5
    · skip
      refine z_tblIn h dX12_ground_11 87 (off := 76) (by rw [s_1_5]; decide) (by rw [s_1_5]; decide) (by rw [s_1_5]; rfl) (by decide) ?_
      refine z_aload_n h dX12_ground_87 rfl ?_
      refine y_getr h dX12_ground_88 hR flX12_25 (by first | assumption | exact Nat.le_of_ble_eq_true rfl) (by first | rfl | assumption | exact tx_2 (by first | assumption | omega) | exact tx_18 (by first | assumption | omega) | exact tx_19 (by first | assumption | omega) | exact tx_20 (by first | assumption | omega) | exact tx_27 (by first | assumption | omega) | exact tx_28 (by first | assumption | omega) | exact tx_30 (by first | assumption | omega) | exact tx_31 (by first | assumption | omega) | exact tx_32 (by first | assumption | omega) | exact tx_33 (by first | assumption | omega)) (by rfl) ?_
      refine z_iload_n h dX12_ground_91 rfl ?_
      refine y_iald h dX12_ground_92 hR (by first | assumption | exact Nat.le_of_ble_eq_true rfl) (by first | rfl | assumption | exact tx_2 (by first | assumption | omega) | exact tx_18 (by first | assumption | omega) | exact tx_19 (by first | assumption | omega) | exact tx_20 (by first | assumption | omega) | exact tx_27 (by first | assumption | omega) | exact tx_28 (by first | assumption | omega) | exact tx_30 (by first | assumption | omega) | exact tx_31 (by first | assumption | omega) | exact tx_32 (by first | assumption | omega) | exact tx_33 (by first | assumption | omega)) (z_ixe (ix_eq (n := nb) (z_bt c_1)) (by have := ix_lt (n := nb) (z_bt c_1) (by omega); omega) (by decide)) ?_
      exact z_iret h dX12_ground_93 hr (⟨z_e1 (by rw [if_pos (z_bt c_1), s_1_5]; rfl), rfl⟩)
    by_cases s_1_6 : x = 6
    · skip
      refine z_tblIn h dX12_ground_11 94 (off := 83) (by rw [s_1_6]; decide) (by rw [s_1_6]; decide) (by rw [s_1_6]; rfl) (by decide) ?_
      refine z_aload_n h dX12_ground_94 rfl ?_
      refine y_getr h dX12_ground_95 hR flX12_28 (by first | assumption | exact Nat.le_of_ble_eq_true rfl) (by first | rfl | assumption | exact tx_2 (by first | assumption | omega) | exact tx_18 (by first | assumption | omega) | exact tx_19 (by first | assumption | omega) | exact tx_20 (by first | assumption | omega) | exact tx_27 (by first | assumption | omega) | exact tx_28 (by first | assumption | omega) | exact tx_30 (by first | assumption | omega) | exact tx_31 (by first | assumption | omega) | exact tx_32 (by first | assumption | omega) | exact tx_33 (by first | assumption | omega)) (by rfl) ?_
      refine z_iload_n h dX12_ground_98 rfl ?_
      refine y_iald h dX12_ground_99 hR (by first | assumption | exact Nat.le_of_ble_eq_true rfl) (by first | rfl | assumption | exact tx_2 (by first | assumption | omega) | exact tx_18 (by first | assumption | omega) | exact tx_19 (by first | assumption | omega) | exact tx_20 (by first | assumption | omega) | exact tx_27 (by first | assumption | omega) | exact tx_28 (by first | assumption | omega) | exact tx_30 (by first | assumption | omega) | exact tx_31 (by first | assumption | omega) | exact tx_32 (by first | assumption | omega) | exact tx_33 (by first | assumption | omega)) (z_ixe (ix_eq (n := nb) (z_bt c_1)) (by have := ix_lt (n := nb) (z_bt c_1) (by omega); omega) (by decide)) ?_
      exact z_iret h dX12_ground_100 hr (⟨z_e1 (by rw [if_pos (z_bt c_1), s_1_6]; rfl), rfl⟩)
    refine z_tblOut h dX12_ground_11 101 (by have a0 := lv_neT s_1_0 (a := 0) (by decide); have a1 := lv_neT s_1_1 (a := 1) (by decide); have a2 := lv_neT s_1_2 (a := 2) (by decide); have a3 := lv_neT s_1_3 (a := 3) (by decide); have a4 := lv_neT s_1_4 (a := 4) (by decide); have a5 := lv_neT s_1_5 (a := 5) (by decide); have a6 := lv_neT s_1_6 (a := 6) (by decide); omega) (by decide) ?_
    refine z_iconst (v := -1) h dX12_ground_101 (by decide) ?_
    exact z_iret h dX12_ground_102 hr (⟨z_e1 (by rw [if_pos (z_bt c_1)]; simp only [n_sel, s_1_0, s_1_1, s_1_2, s_1_3, s_1_4, s_1_5, s_1_6, if_false]), rfl⟩)
  · skip
    refine z_iconst (v := -1) h dX12_ground_8 (by decide) ?_
    exact z_iret h dX12_ground_9 hr (⟨z_e1 (if_neg (z_bf c_1)).symm, rfl⟩)
