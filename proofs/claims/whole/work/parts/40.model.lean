/-! the reference: its short methods -/
theorem z_b_congr {p q : Prop} [Decidable p] [Decidable q] (h : p ↔ q) : z_b p = z_b q := by
  unfold z_b
  by_cases hp : p
  · rw [if_pos hp, if_pos (h.mp hp)]
  · rw [if_neg hp, if_neg (fun hq => hp (h.mpr hq))]
theorem ix8 {x : Int32} (h : 0 ≤ x ∧ x ≤ 7) : ix_ok x 8 := (ix_in (n := 8) (by decide)).mp h
theorem z_b_narrow {p : Prop} [Decidable p] : narrow .boolean (.int (z_b p)) = .int (z_b p) := by unfold z_b; split <;> rfl
set_option maxHeartbeats 4000000 in
set_option maxRecDepth 100000 in
theorem m_X12_isBog (G : z_G) {g : Nat} {w0 w : z_w} {c : r_c} {l : r_l} {r : r_r} (hR : r_p dM (TM g) w0 c l r w) (nb : Nat) (hc : c (100, 0) 1 = nI nb) (hnb : nb ≤ 12) (x : Int32) : z_M G yX12_isBog cX12_isBog 2 (some .boolean) 2 (0) (0) [vr (100, 0), vi x] w (fun q w1 => q = some (vi (z_b (ix_ok x nb))) ∧ w1 = w) := by
  refine z_met ym_X12_isBog (by decide) ⟨Nat.le_of_ble_eq_true rfl, Nat.le_of_ble_eq_true rfl⟩ (fun X hG hn hmc hms hin h hr => ?_)
  have he := hr.2.2.2.2.2.1
  refine z_iload_n h dX12_isBog_0 rfl ?_
  refine z_iconst (v := 0) h dX12_isBog_1 (by decide) ?_
  refine z_aload_n h dX12_isBog_2 rfl ?_
  refine y_geti h dX12_isBog_3 hR flX12_166 (by first | assumption | exact Nat.le_of_ble_eq_true rfl) (by first | rfl | assumption | exact tx_2 (by first | assumption | omega) | exact tx_18 (by first | assumption | omega) | exact tx_19 (by first | assumption | omega) | exact tx_20 (by first | assumption | omega) | exact tx_27 (by first | assumption | omega) | exact tx_28 (by first | assumption | omega) | exact tx_30 (by first | assumption | omega) | exact tx_31 (by first | assumption | omega) | exact tx_32 (by first | assumption | omega) | exact tx_33 (by first | assumption | omega)) (by rfl) ?_
  refine z_iconst (v := 1) h dX12_isBog_6 (by decide) ?_
  rw [hc]
  refine z_isub h dX12_isBog_7 ?_
  refine z_callS h dX12_isBog_8 (fun _ _ q => z_okv_no he q) (fun _ _ _ t q => absurd q (he t)) (m_X12_in _ _ _ _ _) ym_X12_in mlX12_169 sm_X12_in rfl (by decide) (Nat.le_of_ble_eq_true rfl) ?_
  rintro q1 w1 ⟨rfl, hw1⟩
  have hw1 := hw1.symm; subst hw1
  exact z_zret h dX12_isBog_11 hr z_b_narrow (⟨z_e1 (z_b_congr (ix_in (by omega))), rfl⟩)
set_option maxHeartbeats 4000000 in
set_option maxRecDepth 100000 in
theorem m_X12_isBar (G : z_G) {g : Nat} {w0 w : z_w} {c : r_c} {l : r_l} {r : r_r} (hR : r_p dM (TM g) w0 c l r w) (na : Nat) (hc : c (100, 0) 2 = nI na) (hna : na ≤ 100) (x : Int32) : z_M G yX12_isBar cX12_isBar 2 (some .boolean) 2 (0) (0) [vr (100, 0), vi x] w (fun q w1 => q = some (vi (z_b (ix_ok x na))) ∧ w1 = w) := by
  refine z_met ym_X12_isBar (by decide) ⟨Nat.le_of_ble_eq_true rfl, Nat.le_of_ble_eq_true rfl⟩ (fun X hG hn hmc hms hin h hr => ?_)
  have he := hr.2.2.2.2.2.1
  refine z_iload_n h dX12_isBar_0 rfl ?_
  refine z_iconst (v := 0) h dX12_isBar_1 (by decide) ?_
  refine z_aload_n h dX12_isBar_2 rfl ?_
  refine y_geti h dX12_isBar_3 hR flX12_257 (by first | assumption | exact Nat.le_of_ble_eq_true rfl) (by first | rfl | assumption | exact tx_2 (by first | assumption | omega) | exact tx_18 (by first | assumption | omega) | exact tx_19 (by first | assumption | omega) | exact tx_20 (by first | assumption | omega) | exact tx_27 (by first | assumption | omega) | exact tx_28 (by first | assumption | omega) | exact tx_30 (by first | assumption | omega) | exact tx_31 (by first | assumption | omega) | exact tx_32 (by first | assumption | omega) | exact tx_33 (by first | assumption | omega)) (by rfl) ?_
  refine z_iconst (v := 1) h dX12_isBar_6 (by decide) ?_
  rw [hc]
  refine z_isub h dX12_isBar_7 ?_
  refine z_callS h dX12_isBar_8 (fun _ _ q => z_okv_no he q) (fun _ _ _ t q => absurd q (he t)) (m_X12_in _ _ _ _ _) ym_X12_in mlX12_169 sm_X12_in rfl (by decide) (Nat.le_of_ble_eq_true rfl) ?_
  rintro q1 w1 ⟨rfl, hw1⟩
  have hw1 := hw1.symm; subst hw1
  exact z_zret h dX12_isBar_11 hr z_b_narrow (⟨z_e1 (z_b_congr (ix_in (by omega))), rfl⟩)
set_option maxHeartbeats 4000000 in
set_option maxRecDepth 100000 in
theorem m_X12_water (G : z_G) {g : Nat} {w0 w : z_w} {c : r_c} {l : r_l} {r : r_r} (hR : r_p dM (TM g) w0 c l r w) (x : Int32) : z_M G yX12_water cX12_water 2 (some .boolean) 2 (0) (0) [vr (100, 0), vi x] w (fun q w1 => if (0 ≤ x ∧ x ≤ 9) then q = some (vi 1) ∧ r_p dM (TM g) w0 (r_cs c (100, 0) 29 x) (l) (r) w1 else q = some (vi 0) ∧ w1 = w) := by
  refine z_met ym_X12_water (by decide) ⟨Nat.le_of_ble_eq_true rfl, Nat.le_of_ble_eq_true rfl⟩ (fun X hG hn hmc hms hin h hr => ?_)
  have he := hr.2.2.2.2.2.1
  refine z_iload_n h dX12_water_0 rfl ?_
  refine z_iconst (v := 0) h dX12_water_1 (by decide) ?_
  refine z_bipush (v := 9) h dX12_water_2 (by decide) ?_
  refine z_callS h dX12_water_4 (fun _ _ q => z_okv_no he q) (fun _ _ _ t q => absurd q (he t)) (m_X12_in _ _ _ _ _) ym_X12_in mlX12_169 sm_X12_in rfl (by decide) (Nat.le_of_ble_eq_true rfl) ?_
  rintro q1 w1 ⟨rfl, hw1⟩
  have hw1 := hw1.symm; subst hw1
  refine z_if_ne h dX12_water_7 12 (by decide) (fun c_1 => ?_) (fun c_1 => ?_)
  · skip
    refine z_aload_n h dX12_water_12 rfl ?_
    refine z_iload_n h dX12_water_13 rfl ?_
    refine y_put h dX12_water_14 he hR flX12_58 rfl (by first | assumption | exact Nat.le_of_ble_eq_true rfl) (by first | rfl | assumption | exact tx_2 (by first | assumption | omega) | exact tx_18 (by first | assumption | omega) | exact tx_19 (by first | assumption | omega) | exact tx_20 (by first | assumption | omega) | exact tx_27 (by first | assumption | omega) | exact tx_28 (by first | assumption | omega) | exact tx_30 (by first | assumption | omega) | exact tx_31 (by first | assumption | omega) | exact tx_32 (by first | assumption | omega) | exact tx_33 (by first | assumption | omega)) (by rfl) (fun w hR => ?_)
    refine z_iconst (v := 1) h dX12_water_17 (by decide) ?_
    exact z_zret h dX12_water_18 hr rfl (z_t (z_bt c_1) ⟨rfl, hR⟩)
  · skip
    refine z_iconst (v := 0) h dX12_water_10 (by decide) ?_
    exact z_zret h dX12_water_11 hr rfl (z_f (z_bf c_1) ⟨rfl, rfl⟩)
set_option maxHeartbeats 4000000 in
set_option maxRecDepth 100000 in
theorem m_X12_gap (G : z_G) {g : Nat} {w0 w : z_w} {c : r_c} {l : r_l} {r : r_r} (hR : r_p dM (TM g) w0 c l r w) (x : Int32) : z_M G yX12_gap cX12_gap 2 (some .boolean) 2 (0) (0) [vr (100, 0), vi x] w (fun q w1 => if (1 ≤ x ∧ x ≤ 30) then q = some (vi 1) ∧ r_p dM (TM g) w0 (r_cs c (100, 0) 30 x) (l) (r) w1 else q = some (vi 0) ∧ w1 = w) := by
  refine z_met ym_X12_gap (by decide) ⟨Nat.le_of_ble_eq_true rfl, Nat.le_of_ble_eq_true rfl⟩ (fun X hG hn hmc hms hin h hr => ?_)
  have he := hr.2.2.2.2.2.1
  refine z_iload_n h dX12_gap_0 rfl ?_
  refine z_iconst (v := 1) h dX12_gap_1 (by decide) ?_
  refine z_bipush (v := 30) h dX12_gap_2 (by decide) ?_
  refine z_callS h dX12_gap_4 (fun _ _ q => z_okv_no he q) (fun _ _ _ t q => absurd q (he t)) (m_X12_in _ _ _ _ _) ym_X12_in mlX12_169 sm_X12_in rfl (by decide) (Nat.le_of_ble_eq_true rfl) ?_
  rintro q1 w1 ⟨rfl, hw1⟩
  have hw1 := hw1.symm; subst hw1
  refine z_if_ne h dX12_gap_7 12 (by decide) (fun c_1 => ?_) (fun c_1 => ?_)
  · skip
    refine z_aload_n h dX12_gap_12 rfl ?_
    refine z_iload_n h dX12_gap_13 rfl ?_
    refine y_put h dX12_gap_14 he hR flX12_61 rfl (by first | assumption | exact Nat.le_of_ble_eq_true rfl) (by first | rfl | assumption | exact tx_2 (by first | assumption | omega) | exact tx_18 (by first | assumption | omega) | exact tx_19 (by first | assumption | omega) | exact tx_20 (by first | assumption | omega) | exact tx_27 (by first | assumption | omega) | exact tx_28 (by first | assumption | omega) | exact tx_30 (by first | assumption | omega) | exact tx_31 (by first | assumption | omega) | exact tx_32 (by first | assumption | omega) | exact tx_33 (by first | assumption | omega)) (by rfl) (fun w hR => ?_)
    refine z_iconst (v := 1) h dX12_gap_17 (by decide) ?_
    exact z_zret h dX12_gap_18 hr rfl (z_t (z_bt c_1) ⟨rfl, hR⟩)
  · skip
    refine z_iconst (v := 0) h dX12_gap_10 (by decide) ?_
    exact z_zret h dX12_gap_11 hr rfl (z_f (z_bf c_1) ⟨rfl, rfl⟩)
set_option maxHeartbeats 4000000 in
set_option maxRecDepth 100000 in
theorem m_X12_end (G : z_G) {g : Nat} {w0 w : z_w} {c : r_c} {l : r_l} {r : r_r} (hR : r_p dM (TM g) w0 c l r w) (x : Int32) : z_M G yX12_end cX12_end 2 (some .boolean) 1 (0) (0) [vr (100, 0), vi x] w (fun q w1 => if 0 ≤ x ∧ x ≤ c (100, 0) 32 then q = some (vi 1) ∧ r_p dM (TM g) w0 (r_cs c (100, 0) 32 x) (l) (r) w1 else q = some (vi 0) ∧ w1 = w) := by
  refine z_met ym_X12_end (by decide) ⟨Nat.le_of_ble_eq_true rfl, Nat.le_of_ble_eq_true rfl⟩ (fun X hG hn hmc hms hin h hr => ?_)
  have he := hr.2.2.2.2.2.1
  refine z_iload_n h dX12_end_0 rfl ?_
  refine z_if_lt h dX12_end_1 12 (by decide) (fun c_1 => ?_) (fun c_1 => ?_)
  · skip
    refine z_iconst (v := 0) h dX12_end_12 (by decide) ?_
    exact z_zret h dX12_end_13 hr rfl (z_f (fun q => by have q1 := q.1; clear q; simp only [z_lt, z_le, z_ie] at *; omega) ⟨rfl, rfl⟩)
  · skip
    refine z_iload_n h dX12_end_4 rfl ?_
    refine z_aload_n h dX12_end_5 rfl ?_
    refine y_geti h dX12_end_6 hR flX12_234 (by first | assumption | exact Nat.le_of_ble_eq_true rfl) (by first | rfl | assumption | exact tx_2 (by first | assumption | omega) | exact tx_18 (by first | assumption | omega) | exact tx_19 (by first | assumption | omega) | exact tx_20 (by first | assumption | omega) | exact tx_27 (by first | assumption | omega) | exact tx_28 (by first | assumption | omega) | exact tx_30 (by first | assumption | omega) | exact tx_31 (by first | assumption | omega) | exact tx_32 (by first | assumption | omega) | exact tx_33 (by first | assumption | omega)) (by rfl) ?_
    refine z_icmp_le h dX12_end_9 14 (by decide) (fun c_2 => ?_) (fun c_2 => ?_)
    · skip
      refine z_aload_n h dX12_end_14 rfl ?_
      refine z_iload_n h dX12_end_15 rfl ?_
      refine y_put h dX12_end_16 he hR flX12_234 rfl (by first | assumption | exact Nat.le_of_ble_eq_true rfl) (by first | rfl | assumption | exact tx_2 (by first | assumption | omega) | exact tx_18 (by first | assumption | omega) | exact tx_19 (by first | assumption | omega) | exact tx_20 (by first | assumption | omega) | exact tx_27 (by first | assumption | omega) | exact tx_28 (by first | assumption | omega) | exact tx_30 (by first | assumption | omega) | exact tx_31 (by first | assumption | omega) | exact tx_32 (by first | assumption | omega) | exact tx_33 (by first | assumption | omega)) (by rfl) (fun w hR => ?_)
      refine z_iconst (v := 1) h dX12_end_19 (by decide) ?_
      exact z_zret h dX12_end_20 hr rfl (z_t ⟨by simp only [z_lt, z_le, z_ie] at *; omega, by simp only [z_lt, z_le, z_ie] at *; omega⟩ ⟨rfl, hR⟩)
    · skip
      refine z_iconst (v := 0) h dX12_end_12 (by decide) ?_
      exact z_zret h dX12_end_13 hr rfl (z_f (fun q => by have q2 := q.2; clear q; simp only [z_lt, z_le, z_ie] at *; omega) ⟨rfl, rfl⟩)
set_option maxHeartbeats 4000000 in
set_option maxRecDepth 100000 in
theorem m_X12_coal (G : z_G) {g : Nat} {w0 w : z_w} {c : r_c} {l : r_l} {r : r_r} (hR : r_p dM (TM g) w0 c l r w) (x k : Int32) : z_M G yX12_coal cX12_coal 3 (some .int) 2 (0) (0) [vr (100, 0), vi x, vi k] w (fun q w1 => if ix_ok x 8 ∧ (1 ≤ k ∧ k ≤ 10000) ∧ c (115, 0) x.toNatClampNeg + k ≤ 1000000 then q = some (vi (c (115, 0) x.toNatClampNeg + k)) ∧ r_p dM (TM g) w0 (r_cs c (115, 0) x.toNatClampNeg (c (115, 0) x.toNatClampNeg + k)) (l) (r) w1 else q = some (vi (-1)) ∧ w1 = w) := by
  refine z_met ym_X12_coal (by decide) ⟨Nat.le_of_ble_eq_true rfl, Nat.le_of_ble_eq_true rfl⟩ (fun X hG hn hmc hms hin h hr => ?_)
  have he := hr.2.2.2.2.2.1
  refine z_iload_n h dX12_coal_0 rfl ?_
  refine z_iconst (v := 0) h dX12_coal_1 (by decide) ?_
  refine z_bipush (v := 7) h dX12_coal_2 (by decide) ?_
  refine z_callS h dX12_coal_4 (fun _ _ q => z_okv_no he q) (fun _ _ _ t q => absurd q (he t)) (m_X12_in _ _ _ _ _) ym_X12_in mlX12_169 sm_X12_in rfl (by decide) (Nat.le_of_ble_eq_true rfl) ?_
  rintro q1 w1 ⟨rfl, hw1⟩
  have hw1 := hw1.symm; subst hw1
  refine z_if_eq h dX12_coal_7 34 (by decide) (fun c_1 => ?_) (fun c_1 => ?_)
  · skip
    refine z_iconst (v := -1) h dX12_coal_34 (by decide) ?_
    exact z_iret h dX12_coal_35 hr (z_f (fun q => z_bf c_1 ((ix_in (n := 8) (by decide)).mpr q.1)) ⟨rfl, rfl⟩)
  · skip
    refine z_iload_n h dX12_coal_10 rfl ?_
    refine z_iconst (v := 1) h dX12_coal_11 (by decide) ?_
    refine z_sipush (v := 10000) h dX12_coal_12 (by decide) ?_
    refine z_callS h dX12_coal_15 (fun _ _ q => z_okv_no he q) (fun _ _ _ t q => absurd q (he t)) (m_X12_in _ _ _ _ _) ym_X12_in mlX12_169 sm_X12_in rfl (by decide) (Nat.le_of_ble_eq_true rfl) ?_
    rintro q1 w1 ⟨rfl, hw1⟩
    have hw1 := hw1.symm; subst hw1
    refine z_if_eq h dX12_coal_18 34 (by decide) (fun c_2 => ?_) (fun c_2 => ?_)
    · skip
      refine z_iconst (v := -1) h dX12_coal_34 (by decide) ?_
      exact z_iret h dX12_coal_35 hr (z_f (fun q => z_bf c_2 q.2.1) ⟨rfl, rfl⟩)
    · skip
      refine z_aload_n h dX12_coal_21 rfl ?_
      refine y_getr h dX12_coal_22 hR flX12_31 (by first | assumption | exact Nat.le_of_ble_eq_true rfl) (by first | rfl | assumption | exact tx_2 (by first | assumption | omega) | exact tx_18 (by first | assumption | omega) | exact tx_19 (by first | assumption | omega) | exact tx_20 (by first | assumption | omega) | exact tx_27 (by first | assumption | omega) | exact tx_28 (by first | assumption | omega) | exact tx_30 (by first | assumption | omega) | exact tx_31 (by first | assumption | omega) | exact tx_32 (by first | assumption | omega) | exact tx_33 (by first | assumption | omega)) (by rfl) ?_
      refine z_iload_n h dX12_coal_25 rfl ?_
      refine y_iald h dX12_coal_26 hR (by first | assumption | exact Nat.le_of_ble_eq_true rfl) (by first | rfl | assumption | exact tx_2 (by first | assumption | omega) | exact tx_18 (by first | assumption | omega) | exact tx_19 (by first | assumption | omega) | exact tx_20 (by first | assumption | omega) | exact tx_27 (by first | assumption | omega) | exact tx_28 (by first | assumption | omega) | exact tx_30 (by first | assumption | omega) | exact tx_31 (by first | assumption | omega) | exact tx_32 (by first | assumption | omega) | exact tx_33 (by first | assumption | omega)) (z_ixc (ix8 (z_bt c_1)).1 (ix8 (z_bt c_1)).2 (by decide)) ?_
      refine z_iload_n h dX12_coal_27 rfl ?_
      refine z_iadd h dX12_coal_28 ?_
      refine z_ldc h dX12_coal_29 kcX12_194 ?_
      refine z_icmp_le h dX12_coal_31 36 (by decide) (fun c_3 => ?_) (fun c_3 => ?_)
      · skip
        refine z_aload_n h dX12_coal_36 rfl ?_
        refine y_getr h dX12_coal_37 hR flX12_31 (by first | assumption | exact Nat.le_of_ble_eq_true rfl) (by first | rfl | assumption | exact tx_2 (by first | assumption | omega) | exact tx_18 (by first | assumption | omega) | exact tx_19 (by first | assumption | omega) | exact tx_20 (by first | assumption | omega) | exact tx_27 (by first | assumption | omega) | exact tx_28 (by first | assumption | omega) | exact tx_30 (by first | assumption | omega) | exact tx_31 (by first | assumption | omega) | exact tx_32 (by first | assumption | omega) | exact tx_33 (by first | assumption | omega)) (by rfl) ?_
        refine z_iload_n h dX12_coal_40 rfl ?_
        refine z_dup2_ir h dX12_coal_41 ?_
        refine y_iald h dX12_coal_42 hR (by first | assumption | exact Nat.le_of_ble_eq_true rfl) (by first | rfl | assumption | exact tx_2 (by first | assumption | omega) | exact tx_18 (by first | assumption | omega) | exact tx_19 (by first | assumption | omega) | exact tx_20 (by first | assumption | omega) | exact tx_27 (by first | assumption | omega) | exact tx_28 (by first | assumption | omega) | exact tx_30 (by first | assumption | omega) | exact tx_31 (by first | assumption | omega) | exact tx_32 (by first | assumption | omega) | exact tx_33 (by first | assumption | omega)) (z_ixc (ix8 (z_bt c_1)).1 (ix8 (z_bt c_1)).2 (by decide)) ?_
        refine z_iload_n h dX12_coal_43 rfl ?_
        refine z_iadd h dX12_coal_44 ?_
        refine y_iast h dX12_coal_45 hR (by first | assumption | exact Nat.le_of_ble_eq_true rfl) (by first | rfl | assumption | exact tx_2 (by first | assumption | omega) | exact tx_18 (by first | assumption | omega) | exact tx_19 (by first | assumption | omega) | exact tx_20 (by first | assumption | omega) | exact tx_27 (by first | assumption | omega) | exact tx_28 (by first | assumption | omega) | exact tx_30 (by first | assumption | omega) | exact tx_31 (by first | assumption | omega) | exact tx_32 (by first | assumption | omega) | exact tx_33 (by first | assumption | omega)) (z_ixc (ix8 (z_bt c_1)).1 (ix8 (z_bt c_1)).2 (by decide)) (fun w hR => ?_)
        refine z_aload_n h dX12_coal_46 rfl ?_
        refine y_getr h dX12_coal_47 hR flX12_31 (by first | assumption | exact Nat.le_of_ble_eq_true rfl) (by first | rfl | assumption | exact tx_2 (by first | assumption | omega) | exact tx_18 (by first | assumption | omega) | exact tx_19 (by first | assumption | omega) | exact tx_20 (by first | assumption | omega) | exact tx_27 (by first | assumption | omega) | exact tx_28 (by first | assumption | omega) | exact tx_30 (by first | assumption | omega) | exact tx_31 (by first | assumption | omega) | exact tx_32 (by first | assumption | omega) | exact tx_33 (by first | assumption | omega)) (by rfl) ?_
        refine z_iload_n h dX12_coal_50 rfl ?_
        refine y_iald h dX12_coal_51 hR (by first | assumption | exact Nat.le_of_ble_eq_true rfl) (by first | rfl | assumption | exact tx_2 (by first | assumption | omega) | exact tx_18 (by first | assumption | omega) | exact tx_19 (by first | assumption | omega) | exact tx_20 (by first | assumption | omega) | exact tx_27 (by first | assumption | omega) | exact tx_28 (by first | assumption | omega) | exact tx_30 (by first | assumption | omega) | exact tx_31 (by first | assumption | omega) | exact tx_32 (by first | assumption | omega) | exact tx_33 (by first | assumption | omega)) (z_ixc (ix8 (z_bt c_1)).1 (ix8 (z_bt c_1)).2 (by decide)) ?_
        exact z_iret h dX12_coal_52 hr (z_t ⟨ix8 (z_bt c_1), z_bt c_2, c_3⟩ ⟨z_e1 (by simp only [r_cs, r_cf_self, pk_us]), hR⟩)
      · skip
        refine z_iconst (v := -1) h dX12_coal_34 (by decide) ?_
        exact z_iret h dX12_coal_35 hr (z_f (fun q => c_3 q.2.2) ⟨rfl, rfl⟩)
