/-! the class: its own methods, the short ones -/
set_option maxHeartbeats 4000000 in
set_option maxRecDepth 100000 in
theorem y_X1_narrow (G : z_G) {nb na np g : Nat} {w0 w : z_w} {c : r_c} {l : r_l} {r : r_r} (hR : r_p dX (TX nb na np g) w0 c l r w) (b : Nat) (hb : b < nb) (a e : Int32) : z_M G yX1_narrow cX1_narrow 3 (some .boolean) 2 (0) (0) [vr (2, b), vi a, vi e] w (fun q w1 => if c (2, b) 4 < a ∨ e < c (2, b) 3 then q = some (vi 0) ∧ w1 = w else q = some (vi 1) ∧ r_p dX (TX nb na np g) w0 (r_cs (r_cs c (2, b) 3 (if c (2, b) 3 < a then a else c (2, b) 3)) (2, b) 4 (if e < c (2, b) 4 then e else c (2, b) 4)) (l) (r) w1) := by
  refine z_met ym_X1_narrow (by decide) ⟨Nat.le_of_ble_eq_true rfl, Nat.le_of_ble_eq_true rfl⟩ (fun X hG hn hmc hms hin h hr => ?_)
  have he := hr.2.2.2.2.2.1
  refine z_iload_n h dX1_narrow_0 rfl ?_
  refine z_aload_n h dX1_narrow_1 rfl ?_
  refine y_geti h dX1_narrow_2 hR flX1_9 (by first | assumption | exact Nat.le_of_ble_eq_true rfl) (by first | rfl | assumption | exact tx_2 (by first | assumption | omega) | exact tx_18 (by first | assumption | omega) | exact tx_19 (by first | assumption | omega) | exact tx_20 (by first | assumption | omega) | exact tx_27 (by first | assumption | omega) | exact tx_28 (by first | assumption | omega) | exact tx_30 (by first | assumption | omega) | exact tx_31 (by first | assumption | omega) | exact tx_32 (by first | assumption | omega) | exact tx_33 (by first | assumption | omega)) (by rfl) ?_
  refine z_icmp_gt h dX1_narrow_5 16 (by decide) (fun c_1 => ?_) (fun c_1 => ?_)
  · skip
    refine z_iconst (v := 0) h dX1_narrow_16 (by decide) ?_
    exact z_zret h dX1_narrow_17 hr rfl (z_t (Or.inl c_1) ⟨rfl, rfl⟩)
  · skip
    refine z_iload_n h dX1_narrow_8 rfl ?_
    refine z_aload_n h dX1_narrow_9 rfl ?_
    refine y_geti h dX1_narrow_10 hR flX1_27 (by first | assumption | exact Nat.le_of_ble_eq_true rfl) (by first | rfl | assumption | exact tx_2 (by first | assumption | omega) | exact tx_18 (by first | assumption | omega) | exact tx_19 (by first | assumption | omega) | exact tx_20 (by first | assumption | omega) | exact tx_27 (by first | assumption | omega) | exact tx_28 (by first | assumption | omega) | exact tx_30 (by first | assumption | omega) | exact tx_31 (by first | assumption | omega) | exact tx_32 (by first | assumption | omega) | exact tx_33 (by first | assumption | omega)) (by rfl) ?_
    refine z_icmp_ge h dX1_narrow_13 18 (by decide) (fun c_2 => ?_) (fun c_2 => ?_)
    · skip
      refine z_aload_n h dX1_narrow_18 rfl ?_
      refine z_aload_n h dX1_narrow_19 rfl ?_
      refine y_geti h dX1_narrow_20 hR flX1_27 (by first | assumption | exact Nat.le_of_ble_eq_true rfl) (by first | rfl | assumption | exact tx_2 (by first | assumption | omega) | exact tx_18 (by first | assumption | omega) | exact tx_19 (by first | assumption | omega) | exact tx_20 (by first | assumption | omega) | exact tx_27 (by first | assumption | omega) | exact tx_28 (by first | assumption | omega) | exact tx_30 (by first | assumption | omega) | exact tx_31 (by first | assumption | omega) | exact tx_32 (by first | assumption | omega) | exact tx_33 (by first | assumption | omega)) (by rfl) ?_
      refine z_iload_n h dX1_narrow_23 rfl ?_
      refine z_max h dX1_narrow_24 mlX1_30 sm_Mmax ic_Math co_Mmax (Nat.le_of_ble_eq_true rfl) ?_
      refine y_put h dX1_narrow_27 he hR flX1_27 rfl (by first | assumption | exact Nat.le_of_ble_eq_true rfl) (by first | rfl | assumption | exact tx_2 (by first | assumption | omega) | exact tx_18 (by first | assumption | omega) | exact tx_19 (by first | assumption | omega) | exact tx_20 (by first | assumption | omega) | exact tx_27 (by first | assumption | omega) | exact tx_28 (by first | assumption | omega) | exact tx_30 (by first | assumption | omega) | exact tx_31 (by first | assumption | omega) | exact tx_32 (by first | assumption | omega) | exact tx_33 (by first | assumption | omega)) (by rfl) (fun w hR => ?_)
      refine z_aload_n h dX1_narrow_30 rfl ?_
      refine z_aload_n h dX1_narrow_31 rfl ?_
      refine y_geti h dX1_narrow_32 hR flX1_9 (by first | assumption | exact Nat.le_of_ble_eq_true rfl) (by first | rfl | assumption | exact tx_2 (by first | assumption | omega) | exact tx_18 (by first | assumption | omega) | exact tx_19 (by first | assumption | omega) | exact tx_20 (by first | assumption | omega) | exact tx_27 (by first | assumption | omega) | exact tx_28 (by first | assumption | omega) | exact tx_30 (by first | assumption | omega) | exact tx_31 (by first | assumption | omega) | exact tx_32 (by first | assumption | omega) | exact tx_33 (by first | assumption | omega)) (by rfl) ?_
      refine z_iload_n h dX1_narrow_35 rfl ?_
      refine z_min h dX1_narrow_36 mlX1_36 sm_Mmin ic_Math co_Mmin (Nat.le_of_ble_eq_true rfl) ?_
      refine z_toe (y := if e < c (2, b) 4 then e else c (2, b) 4) (by simp only [r_cs, r_cf_self]; rfl) ?_
      refine y_put h dX1_narrow_39 he hR flX1_9 rfl (by first | assumption | exact Nat.le_of_ble_eq_true rfl) (by first | rfl | assumption | exact tx_2 (by first | assumption | omega) | exact tx_18 (by first | assumption | omega) | exact tx_19 (by first | assumption | omega) | exact tx_20 (by first | assumption | omega) | exact tx_27 (by first | assumption | omega) | exact tx_28 (by first | assumption | omega) | exact tx_30 (by first | assumption | omega) | exact tx_31 (by first | assumption | omega) | exact tx_32 (by first | assumption | omega) | exact tx_33 (by first | assumption | omega)) (by rfl) (fun w hR => ?_)
      refine z_iconst (v := 1) h dX1_narrow_42 (by decide) ?_
      exact z_zret h dX1_narrow_43 hr rfl (z_f (fun q => q.elim c_1 (fun q => by simp only [z_lt, z_le, z_ie] at *; omega)) ⟨rfl, hR⟩)
    · skip
      refine z_iconst (v := 0) h dX1_narrow_16 (by decide) ?_
      exact z_zret h dX1_narrow_17 hr rfl (z_t (Or.inr (by simp only [z_lt, z_le, z_ie] at *; omega)) ⟨rfl, rfl⟩)
set_option maxHeartbeats 4000000 in
set_option maxRecDepth 100000 in
theorem y_X1_restsIn (G : z_G) {nb na np g : Nat} {w0 w : z_w} {c : r_c} {l : r_l} {r : r_r} (hR : r_p dX (TX nb na np g) w0 c l r w) (b : Nat) (hb : b < nb) (y : Int32) : z_M G yX1_restsIn cX1_restsIn 2 (some .boolean) 1 (0) (0) [vr (2, b), vi y] w (fun q w1 => q = some (vi (z_b (¬ c (2, b) 5 = -1 ∧ ¬ c (2, b) 5 = y ∧ y - c (2, b) 5 < c (2, b) 2))) ∧ w1 = w) := by
  refine z_met ym_X1_restsIn (by decide) ⟨Nat.le_of_ble_eq_true rfl, Nat.le_of_ble_eq_true rfl⟩ (fun X hG hn hmc hms hin h hr => ?_)
  have he := hr.2.2.2.2.2.1
  refine z_aload_n h dX1_restsIn_0 rfl ?_
  refine y_geti h dX1_restsIn_1 hR flX1_15 (by first | assumption | exact Nat.le_of_ble_eq_true rfl) (by first | rfl | assumption | exact tx_2 (by first | assumption | omega) | exact tx_18 (by first | assumption | omega) | exact tx_19 (by first | assumption | omega) | exact tx_20 (by first | assumption | omega) | exact tx_27 (by first | assumption | omega) | exact tx_28 (by first | assumption | omega) | exact tx_30 (by first | assumption | omega) | exact tx_31 (by first | assumption | omega) | exact tx_32 (by first | assumption | omega) | exact tx_33 (by first | assumption | omega)) (by rfl) ?_
  refine z_iconst (v := -1) h dX1_restsIn_4 (by decide) ?_
  refine z_icmp_eq h dX1_restsIn_5 33 (by decide) (fun c_1 => ?_) (fun c_1 => ?_)
  · skip
    refine z_iconst (v := 0) h dX1_restsIn_33 (by decide) ?_
    exact z_zret h dX1_restsIn_34 hr rfl (⟨z_ret0 (fun q => q.1 c_1), rfl⟩)
  · skip
    refine z_aload_n h dX1_restsIn_8 rfl ?_
    refine y_geti h dX1_restsIn_9 hR flX1_15 (by first | assumption | exact Nat.le_of_ble_eq_true rfl) (by first | rfl | assumption | exact tx_2 (by first | assumption | omega) | exact tx_18 (by first | assumption | omega) | exact tx_19 (by first | assumption | omega) | exact tx_20 (by first | assumption | omega) | exact tx_27 (by first | assumption | omega) | exact tx_28 (by first | assumption | omega) | exact tx_30 (by first | assumption | omega) | exact tx_31 (by first | assumption | omega) | exact tx_32 (by first | assumption | omega) | exact tx_33 (by first | assumption | omega)) (by rfl) ?_
    refine z_iload_n h dX1_restsIn_12 rfl ?_
    refine z_icmp_eq h dX1_restsIn_13 33 (by decide) (fun c_2 => ?_) (fun c_2 => ?_)
    · skip
      refine z_iconst (v := 0) h dX1_restsIn_33 (by decide) ?_
      exact z_zret h dX1_restsIn_34 hr rfl (⟨z_ret0 (fun q => q.2.1 c_2), rfl⟩)
    · skip
      refine z_iload_n h dX1_restsIn_16 rfl ?_
      refine z_aload_n h dX1_restsIn_17 rfl ?_
      refine y_geti h dX1_restsIn_18 hR flX1_15 (by first | assumption | exact Nat.le_of_ble_eq_true rfl) (by first | rfl | assumption | exact tx_2 (by first | assumption | omega) | exact tx_18 (by first | assumption | omega) | exact tx_19 (by first | assumption | omega) | exact tx_20 (by first | assumption | omega) | exact tx_27 (by first | assumption | omega) | exact tx_28 (by first | assumption | omega) | exact tx_30 (by first | assumption | omega) | exact tx_31 (by first | assumption | omega) | exact tx_32 (by first | assumption | omega) | exact tx_33 (by first | assumption | omega)) (by rfl) ?_
      refine z_isub h dX1_restsIn_21 ?_
      refine z_aload_n h dX1_restsIn_22 rfl ?_
      refine y_geti h dX1_restsIn_23 hR flX1_24 (by first | assumption | exact Nat.le_of_ble_eq_true rfl) (by first | rfl | assumption | exact tx_2 (by first | assumption | omega) | exact tx_18 (by first | assumption | omega) | exact tx_19 (by first | assumption | omega) | exact tx_20 (by first | assumption | omega) | exact tx_27 (by first | assumption | omega) | exact tx_28 (by first | assumption | omega) | exact tx_30 (by first | assumption | omega) | exact tx_31 (by first | assumption | omega) | exact tx_32 (by first | assumption | omega) | exact tx_33 (by first | assumption | omega)) (by rfl) ?_
      refine z_icmp_ge h dX1_restsIn_26 33 (by decide) (fun c_3 => ?_) (fun c_3 => ?_)
      · skip
        refine z_iconst (v := 0) h dX1_restsIn_33 (by decide) ?_
        exact z_zret h dX1_restsIn_34 hr rfl (⟨z_ret0 (fun q => by have q3 := q.2.2; clear c_1 c_2 q; simp only [z_lt, z_le, z_ie] at *; omega), rfl⟩)
      · skip
        refine z_iconst (v := 1) h dX1_restsIn_29 (by decide) ?_
        refine z_goto h dX1_restsIn_30 34 (by decide) ?_
        exact z_zret h dX1_restsIn_34 hr rfl (⟨z_ret1 ⟨c_1, c_2, by clear c_1 c_2; simp only [z_lt, z_le, z_ie] at *; omega⟩, rfl⟩)
set_option maxHeartbeats 4000000 in
set_option maxRecDepth 100000 in
theorem y_X1_grow (G : z_G) {nb na np g : Nat} {w0 w : z_w} {c : r_c} {l : r_l} {r : r_r} (hR : r_p dX (TX nb na np g) w0 c l r w) (b : Nat) (hb : b < nb) : z_M G yX1_grow cX1_grow 1 none 2 (0) (0) [vr (2, b)] w (fun q w1 => q = none ∧ r_p dX (TX nb na np g) w0 (r_cs c (2, b) 0 (if c (2, b) 0 + c (2, b) 1 < 100000 then c (2, b) 0 + c (2, b) 1 else 100000)) (l) (r) w1) := by
  refine z_met ym_X1_grow (by decide) ⟨Nat.le_of_ble_eq_true rfl, Nat.le_of_ble_eq_true rfl⟩ (fun X hG hn hmc hms hin h hr => ?_)
  have he := hr.2.2.2.2.2.1
  refine z_aload_n h dX1_grow_0 rfl ?_
  refine z_ldc h dX1_grow_1 kcX1_39 ?_
  refine z_aload_n h dX1_grow_3 rfl ?_
  refine y_geti h dX1_grow_4 hR flX1_18 (by first | assumption | exact Nat.le_of_ble_eq_true rfl) (by first | rfl | assumption | exact tx_2 (by first | assumption | omega) | exact tx_18 (by first | assumption | omega) | exact tx_19 (by first | assumption | omega) | exact tx_20 (by first | assumption | omega) | exact tx_27 (by first | assumption | omega) | exact tx_28 (by first | assumption | omega) | exact tx_30 (by first | assumption | omega) | exact tx_31 (by first | assumption | omega) | exact tx_32 (by first | assumption | omega) | exact tx_33 (by first | assumption | omega)) (by rfl) ?_
  refine z_aload_n h dX1_grow_7 rfl ?_
  refine y_geti h dX1_grow_8 hR flX1_21 (by first | assumption | exact Nat.le_of_ble_eq_true rfl) (by first | rfl | assumption | exact tx_2 (by first | assumption | omega) | exact tx_18 (by first | assumption | omega) | exact tx_19 (by first | assumption | omega) | exact tx_20 (by first | assumption | omega) | exact tx_27 (by first | assumption | omega) | exact tx_28 (by first | assumption | omega) | exact tx_30 (by first | assumption | omega) | exact tx_31 (by first | assumption | omega) | exact tx_32 (by first | assumption | omega) | exact tx_33 (by first | assumption | omega)) (by rfl) ?_
  refine z_iadd h dX1_grow_11 ?_
  refine z_min h dX1_grow_12 mlX1_36 sm_Mmin ic_Math co_Mmin (Nat.le_of_ble_eq_true rfl) ?_
  refine y_put h dX1_grow_15 he hR flX1_18 rfl (by first | assumption | exact Nat.le_of_ble_eq_true rfl) (by first | rfl | assumption | exact tx_2 (by first | assumption | omega) | exact tx_18 (by first | assumption | omega) | exact tx_19 (by first | assumption | omega) | exact tx_20 (by first | assumption | omega) | exact tx_27 (by first | assumption | omega) | exact tx_28 (by first | assumption | omega) | exact tx_30 (by first | assumption | omega) | exact tx_31 (by first | assumption | omega) | exact tx_32 (by first | assumption | omega) | exact tx_33 (by first | assumption | omega)) (by rfl) (fun w hR => ?_)
  exact z_vret h dX1_grow_18 hr (⟨rfl, hR⟩)
set_option maxHeartbeats 4000000 in
set_option maxRecDepth 100000 in
theorem y_X1_init (G : z_G) {nb na np g : Nat} {w0 w : z_w} {c : r_c} {l : r_l} {r : r_r} (hR : r_p dX (TX nb na np g) w0 c l r w) (b : Nat) (hb : b < nb) (h0 : c (2, b) = fun _ => 0) (o gr re : Int32) : z_M G yX1_init cX1_init 4 none 2 (0) (0) [vr (2, b), vi o, vi gr, vi re] w (fun q w1 => q = none ∧ r_p dX (TX nb na np g) w0 (r_cf c (2, b) (fun k => if k = 0 then o else if k = 1 then gr else if k = 2 then re else if k = 3 then 0 else if k = 4 then 1000 else if k = 5 then -1 else 0)) (l) (r) w1) := by
  refine z_met ym_X1_init (by decide) ⟨Nat.le_of_ble_eq_true rfl, Nat.le_of_ble_eq_true rfl⟩ (fun X hG hn hmc hms hin h hr => ?_)
  have he := hr.2.2.2.2.2.1
  have hw : w (2, b) = some (z_ob 1 [vi 0, vi 0, vi 0, vi 0, vi 0, vi 0]) := by
    have := hR.ob (Nat.le_of_ble_eq_true rfl) (tx_2 hb)
    rw [h0] at this
    exact this
  refine z_aload_n h dX1_init_0 rfl ?_
  refine z_obj h dX1_init_1 mlX1_3 im_objectInit co_objectInit (Nat.le_of_ble_eq_true rfl) ?_
  refine z_aload_n h dX1_init_4 rfl ?_
  refine z_sipush (v := 1000) h dX1_init_5 (by decide) ?_
  refine z_put h dX1_init_8 he flX1_9 (by first | assumption | rfl | (repeat (first | exact z_set_self _ _ _ | assumption | refine z_skip rfl ?_))) (Nat.le_of_ble_eq_true rfl) (z_fit_i _) ?_
  refine z_aload_n h dX1_init_11 rfl ?_
  refine z_iconst (v := -1) h dX1_init_12 (by decide) ?_
  refine z_put h dX1_init_13 he flX1_15 (by first | assumption | rfl | (repeat (first | exact z_set_self _ _ _ | assumption | refine z_skip rfl ?_))) (Nat.le_of_ble_eq_true rfl) (z_fit_i _) ?_
  refine z_aload_n h dX1_init_16 rfl ?_
  refine z_iload_n h dX1_init_17 rfl ?_
  refine z_put h dX1_init_18 he flX1_18 (by first | assumption | rfl | (repeat (first | exact z_set_self _ _ _ | assumption | refine z_skip rfl ?_))) (Nat.le_of_ble_eq_true rfl) (z_fit_i _) ?_
  refine z_aload_n h dX1_init_21 rfl ?_
  refine z_iload_n h dX1_init_22 rfl ?_
  refine z_putF h dX1_init_23 he hin flX1_21 (by first | assumption | rfl | (repeat (first | exact z_set_self _ _ _ | assumption | refine z_skip rfl ?_))) (Nat.le_of_ble_eq_true rfl) (z_fit_i _) ?_
  refine z_aload_n h dX1_init_26 rfl ?_
  refine z_iload_n h dX1_init_27 rfl ?_
  refine z_putF h dX1_init_28 he hin flX1_24 (by first | assumption | rfl | (repeat (first | exact z_set_self _ _ _ | assumption | refine z_skip rfl ?_))) (Nat.le_of_ble_eq_true rfl) (z_fit_i _) ?_
  exact z_vret h dX1_init_31 hr (⟨rfl, by
        have e := hR.setf (Nat.le_of_ble_eq_true rfl) (tx_2 hb) (fun k => if k = 0 then o else if k = 1 then gr else if k = 2 then re else if k = 3 then 0 else if k = 4 then 1000 else if k = 5 then -1 else 0) (l (2, b)) (r (2, b))
        rw [r_cf_same, r_cf_same] at e
        simp only [z_set_set]
        exact e⟩)
set_option maxHeartbeats 4000000 in
set_option maxRecDepth 100000 in
theorem y_X0_heatOnce (G : z_G) {nb na np g : Nat} {w0 w : z_w} {c : r_c} {l : r_l} {r : r_r} (hR : r_p dX (TX nb na np g) w0 c l r w) (b : Nat) (hb : b < na) : z_M G yX0_heatOnce cX0_heatOnce 1 none 1 (0) (0) [vr (18, b)] w (fun q w1 => q = none ∧ r_p dX (TX nb na np g) w0 (r_cs (r_cs (r_cs c (18, b) 4 ((c (18, b) 4).toInt64 * 97 / 100).toInt32) (18, b) 5 (((c (18, b) 5).toInt64 * 99 + 99) / 100).toInt32) (18, b) 6 (c (18, b) 6 + 1)) (l) (r) w1) := by
  refine z_met ym_X0_heatOnce (by decide) ⟨Nat.le_of_ble_eq_true rfl, Nat.le_of_ble_eq_true rfl⟩ (fun X hG hn hmc hms hin h hr => ?_)
  have he := hr.2.2.2.2.2.1
  refine z_aload_n h dX0_heatOnce_0 rfl ?_
  refine z_aload_n h dX0_heatOnce_1 rfl ?_
  refine y_geti h dX0_heatOnce_2 hR flX0_25 (by first | assumption | exact Nat.le_of_ble_eq_true rfl) (by first | rfl | assumption | exact tx_2 (by first | assumption | omega) | exact tx_18 (by first | assumption | omega) | exact tx_19 (by first | assumption | omega) | exact tx_20 (by first | assumption | omega) | exact tx_27 (by first | assumption | omega) | exact tx_28 (by first | assumption | omega) | exact tx_30 (by first | assumption | omega) | exact tx_31 (by first | assumption | omega) | exact tx_32 (by first | assumption | omega) | exact tx_33 (by first | assumption | omega)) (by rfl) ?_
  refine z_i2l h dX0_heatOnce_5 ?_
  refine z_ldc2 h dX0_heatOnce_6 klX0_31 ?_
  refine z_lmul h dX0_heatOnce_9 ?_
  refine z_ldc2 h dX0_heatOnce_10 klX0_33 ?_
  refine z_ldiv h dX0_heatOnce_13 (by first | assumption | decide) ?_
  refine z_l2i h dX0_heatOnce_14 ?_
  refine y_put h dX0_heatOnce_15 he hR flX0_25 rfl (by first | assumption | exact Nat.le_of_ble_eq_true rfl) (by first | rfl | assumption | exact tx_2 (by first | assumption | omega) | exact tx_18 (by first | assumption | omega) | exact tx_19 (by first | assumption | omega) | exact tx_20 (by first | assumption | omega) | exact tx_27 (by first | assumption | omega) | exact tx_28 (by first | assumption | omega) | exact tx_30 (by first | assumption | omega) | exact tx_31 (by first | assumption | omega) | exact tx_32 (by first | assumption | omega) | exact tx_33 (by first | assumption | omega)) (by rfl) (fun w hR => ?_)
  refine z_aload_n h dX0_heatOnce_18 rfl ?_
  refine z_aload_n h dX0_heatOnce_19 rfl ?_
  refine y_geti h dX0_heatOnce_20 hR flX0_28 (by first | assumption | exact Nat.le_of_ble_eq_true rfl) (by first | rfl | assumption | exact tx_2 (by first | assumption | omega) | exact tx_18 (by first | assumption | omega) | exact tx_19 (by first | assumption | omega) | exact tx_20 (by first | assumption | omega) | exact tx_27 (by first | assumption | omega) | exact tx_28 (by first | assumption | omega) | exact tx_30 (by first | assumption | omega) | exact tx_31 (by first | assumption | omega) | exact tx_32 (by first | assumption | omega) | exact tx_33 (by first | assumption | omega)) (by rfl) ?_
  refine z_i2l h dX0_heatOnce_23 ?_
  refine z_ldc2 h dX0_heatOnce_24 klX0_35 ?_
  refine z_lmul h dX0_heatOnce_27 ?_
  refine z_ldc2 h dX0_heatOnce_28 klX0_35 ?_
  refine z_ladd h dX0_heatOnce_31 ?_
  refine z_ldc2 h dX0_heatOnce_32 klX0_33 ?_
  refine z_ldiv h dX0_heatOnce_35 (by first | assumption | decide) ?_
  refine z_l2i h dX0_heatOnce_36 ?_
  refine y_put h dX0_heatOnce_37 he hR flX0_28 rfl (by first | assumption | exact Nat.le_of_ble_eq_true rfl) (by first | rfl | assumption | exact tx_2 (by first | assumption | omega) | exact tx_18 (by first | assumption | omega) | exact tx_19 (by first | assumption | omega) | exact tx_20 (by first | assumption | omega) | exact tx_27 (by first | assumption | omega) | exact tx_28 (by first | assumption | omega) | exact tx_30 (by first | assumption | omega) | exact tx_31 (by first | assumption | omega) | exact tx_32 (by first | assumption | omega) | exact tx_33 (by first | assumption | omega)) (by rfl) (fun w hR => ?_)
  refine z_aload_n h dX0_heatOnce_40 rfl ?_
  refine z_dup_r h dX0_heatOnce_41 ?_
  refine y_geti h dX0_heatOnce_42 hR flX0_37 (by first | assumption | exact Nat.le_of_ble_eq_true rfl) (by first | rfl | assumption | exact tx_2 (by first | assumption | omega) | exact tx_18 (by first | assumption | omega) | exact tx_19 (by first | assumption | omega) | exact tx_20 (by first | assumption | omega) | exact tx_27 (by first | assumption | omega) | exact tx_28 (by first | assumption | omega) | exact tx_30 (by first | assumption | omega) | exact tx_31 (by first | assumption | omega) | exact tx_32 (by first | assumption | omega) | exact tx_33 (by first | assumption | omega)) (by rfl) ?_
  refine z_iconst (v := 1) h dX0_heatOnce_45 (by decide) ?_
  refine z_iadd h dX0_heatOnce_46 ?_
  refine y_put h dX0_heatOnce_47 he hR flX0_37 rfl (by first | assumption | exact Nat.le_of_ble_eq_true rfl) (by first | rfl | assumption | exact tx_2 (by first | assumption | omega) | exact tx_18 (by first | assumption | omega) | exact tx_19 (by first | assumption | omega) | exact tx_20 (by first | assumption | omega) | exact tx_27 (by first | assumption | omega) | exact tx_28 (by first | assumption | omega) | exact tx_30 (by first | assumption | omega) | exact tx_31 (by first | assumption | omega) | exact tx_32 (by first | assumption | omega) | exact tx_33 (by first | assumption | omega)) (by rfl) (fun w hR => ?_)
  exact z_vret h dX0_heatOnce_50 hr (⟨rfl, by simp only [r_cs, r_cf_self, r_cf_cf] at hR ⊢; exact hR⟩)
set_option maxHeartbeats 4000000 in
set_option maxRecDepth 100000 in
theorem y_X0_sortNow (G : z_G) {nb na np g : Nat} {w0 w : z_w} {c : r_c} {l : r_l} {r : r_r} (hR : r_p dX (TX nb na np g) w0 c l r w) (b : Nat) (hb : b < na) : z_M G yX0_sortNow cX0_sortNow 1 (some .int) 2 (0) (0) [vr (18, b)] w (fun q w1 => q = some (vi (if 0 < c (18, b) 2 - c (18, b) 6 / 2 then c (18, b) 2 - c (18, b) 6 / 2 else 0)) ∧ w1 = w) := by
  refine z_met ym_X0_sortNow (by decide) ⟨Nat.le_of_ble_eq_true rfl, Nat.le_of_ble_eq_true rfl⟩ (fun X hG hn hmc hms hin h hr => ?_)
  have he := hr.2.2.2.2.2.1
  refine z_iconst (v := 0) h dX0_sortNow_0 (by decide) ?_
  refine z_aload_n h dX0_sortNow_1 rfl ?_
  refine y_geti h dX0_sortNow_2 hR flX0_18 (by first | assumption | exact Nat.le_of_ble_eq_true rfl) (by first | rfl | assumption | exact tx_2 (by first | assumption | omega) | exact tx_18 (by first | assumption | omega) | exact tx_19 (by first | assumption | omega) | exact tx_20 (by first | assumption | omega) | exact tx_27 (by first | assumption | omega) | exact tx_28 (by first | assumption | omega) | exact tx_30 (by first | assumption | omega) | exact tx_31 (by first | assumption | omega) | exact tx_32 (by first | assumption | omega) | exact tx_33 (by first | assumption | omega)) (by rfl) ?_
  refine z_aload_n h dX0_sortNow_5 rfl ?_
  refine y_geti h dX0_sortNow_6 hR flX0_37 (by first | assumption | exact Nat.le_of_ble_eq_true rfl) (by first | rfl | assumption | exact tx_2 (by first | assumption | omega) | exact tx_18 (by first | assumption | omega) | exact tx_19 (by first | assumption | omega) | exact tx_20 (by first | assumption | omega) | exact tx_27 (by first | assumption | omega) | exact tx_28 (by first | assumption | omega) | exact tx_30 (by first | assumption | omega) | exact tx_31 (by first | assumption | omega) | exact tx_32 (by first | assumption | omega) | exact tx_33 (by first | assumption | omega)) (by rfl) ?_
  refine z_iconst (v := 2) h dX0_sortNow_9 (by decide) ?_
  refine z_idiv h dX0_sortNow_10 (by first | assumption | decide) ?_
  refine z_isub h dX0_sortNow_11 ?_
  refine z_max h dX0_sortNow_12 mlX0_40 sm_Mmax ic_Math co_Mmax (Nat.le_of_ble_eq_true rfl) ?_
  exact z_iret h dX0_sortNow_15 hr (⟨rfl, rfl⟩)
set_option maxHeartbeats 4000000 in
set_option maxRecDepth 100000 in
theorem y_X10_addOre (G : z_G) {nb na np g : Nat} {w0 w : z_w} {c : r_c} {l : r_l} {r : r_r} (hR : r_p dX (TX nb na np g) w0 c l r w) (b : Nat) (k : Int32) (hb : b < 12) : z_M G yX10_addOre cX10_addOre 3 (some .int) 1 (0) (0) [vr (3, 0), vi (nI b), vi k] w (fun q w1 => q = some (vi (c (4, 0) b + k)) ∧ r_p dX (TX nb na np g) w0 (r_cs c (4, 0) b (c (4, 0) b + k)) (l) (r) w1) := by
  refine z_met ym_X10_addOre (by decide) ⟨Nat.le_of_ble_eq_true rfl, Nat.le_of_ble_eq_true rfl⟩ (fun X hG hn hmc hms hin h hr => ?_)
  have he := hr.2.2.2.2.2.1
  refine z_iload_n h dX10_addOre_0 rfl ?_
  refine z_if_lt h dX10_addOre_1 13 (by decide) (fun c_1 => ?_) (fun c_1 => ?_)
  · skip
    exact absurd c_1 (nI_pos (by omega))
  · skip
    refine z_iload_n h dX10_addOre_4 rfl ?_
    refine z_aload_n h dX10_addOre_5 rfl ?_
    refine y_getr h dX10_addOre_6 hR flX10_9 (by first | assumption | exact Nat.le_of_ble_eq_true rfl) (by first | rfl | assumption | exact tx_2 (by first | assumption | omega) | exact tx_18 (by first | assumption | omega) | exact tx_19 (by first | assumption | omega) | exact tx_20 (by first | assumption | omega) | exact tx_27 (by first | assumption | omega) | exact tx_28 (by first | assumption | omega) | exact tx_30 (by first | assumption | omega) | exact tx_31 (by first | assumption | omega) | exact tx_32 (by first | assumption | omega) | exact tx_33 (by first | assumption | omega)) (by rfl) ?_
    refine y_len h dX10_addOre_9 hR (by first | assumption | exact Nat.le_of_ble_eq_true rfl) (by first | rfl | assumption | exact tx_2 (by first | assumption | omega) | exact tx_18 (by first | assumption | omega) | exact tx_19 (by first | assumption | omega) | exact tx_20 (by first | assumption | omega) | exact tx_27 (by first | assumption | omega) | exact tx_28 (by first | assumption | omega) | exact tx_30 (by first | assumption | omega) | exact tx_31 (by first | assumption | omega) | exact tx_32 (by first | assumption | omega) | exact tx_33 (by first | assumption | omega)) (by rfl) ?_
    refine z_icmp_lt h dX10_addOre_10 15 (by decide) (fun c_2 => ?_) (fun c_2 => ?_)
    · skip
      refine z_aload_n h dX10_addOre_15 rfl ?_
      refine y_getr h dX10_addOre_16 hR flX10_9 (by first | assumption | exact Nat.le_of_ble_eq_true rfl) (by first | rfl | assumption | exact tx_2 (by first | assumption | omega) | exact tx_18 (by first | assumption | omega) | exact tx_19 (by first | assumption | omega) | exact tx_20 (by first | assumption | omega) | exact tx_27 (by first | assumption | omega) | exact tx_28 (by first | assumption | omega) | exact tx_30 (by first | assumption | omega) | exact tx_31 (by first | assumption | omega) | exact tx_32 (by first | assumption | omega) | exact tx_33 (by first | assumption | omega)) (by rfl) ?_
      refine z_iload_n h dX10_addOre_19 rfl ?_
      refine z_dup2_ir h dX10_addOre_20 ?_
      refine y_iald h dX10_addOre_21 hR (by first | assumption | exact Nat.le_of_ble_eq_true rfl) (by first | rfl | assumption | exact tx_2 (by first | assumption | omega) | exact tx_18 (by first | assumption | omega) | exact tx_19 (by first | assumption | omega) | exact tx_20 (by first | assumption | omega) | exact tx_27 (by first | assumption | omega) | exact tx_28 (by first | assumption | omega) | exact tx_30 (by first | assumption | omega) | exact tx_31 (by first | assumption | omega) | exact tx_32 (by first | assumption | omega) | exact tx_33 (by first | assumption | omega)) (by first | assumption | exact z_ixn (by omega) (by omega)) ?_
      refine z_iload_n h dX10_addOre_22 rfl ?_
      refine z_iadd h dX10_addOre_23 ?_
      refine y_iast h dX10_addOre_24 hR (by first | assumption | exact Nat.le_of_ble_eq_true rfl) (by first | rfl | assumption | exact tx_2 (by first | assumption | omega) | exact tx_18 (by first | assumption | omega) | exact tx_19 (by first | assumption | omega) | exact tx_20 (by first | assumption | omega) | exact tx_27 (by first | assumption | omega) | exact tx_28 (by first | assumption | omega) | exact tx_30 (by first | assumption | omega) | exact tx_31 (by first | assumption | omega) | exact tx_32 (by first | assumption | omega) | exact tx_33 (by first | assumption | omega)) (by first | assumption | exact z_ixn (by omega) (by omega)) (fun w hR => ?_)
      refine z_aload_n h dX10_addOre_25 rfl ?_
      refine y_getr h dX10_addOre_26 hR flX10_9 (by first | assumption | exact Nat.le_of_ble_eq_true rfl) (by first | rfl | assumption | exact tx_2 (by first | assumption | omega) | exact tx_18 (by first | assumption | omega) | exact tx_19 (by first | assumption | omega) | exact tx_20 (by first | assumption | omega) | exact tx_27 (by first | assumption | omega) | exact tx_28 (by first | assumption | omega) | exact tx_30 (by first | assumption | omega) | exact tx_31 (by first | assumption | omega) | exact tx_32 (by first | assumption | omega) | exact tx_33 (by first | assumption | omega)) (by rfl) ?_
      refine z_iload_n h dX10_addOre_29 rfl ?_
      refine y_iald h dX10_addOre_30 hR (by first | assumption | exact Nat.le_of_ble_eq_true rfl) (by first | rfl | assumption | exact tx_2 (by first | assumption | omega) | exact tx_18 (by first | assumption | omega) | exact tx_19 (by first | assumption | omega) | exact tx_20 (by first | assumption | omega) | exact tx_27 (by first | assumption | omega) | exact tx_28 (by first | assumption | omega) | exact tx_30 (by first | assumption | omega) | exact tx_31 (by first | assumption | omega) | exact tx_32 (by first | assumption | omega) | exact tx_33 (by first | assumption | omega)) (by first | assumption | exact z_ixn (by omega) (by omega)) ?_
      exact z_iret h dX10_addOre_31 hr (⟨z_e1 (by simp only [r_cs, r_cf_self, pk_us]), hR⟩)
    · skip
      exact absurd (nI_lt hb (by omega)) c_2
set_option maxHeartbeats 4000000 in
set_option maxRecDepth 100000 in
theorem y_X10_addCoal (G : z_G) {nb na np g : Nat} {w0 w : z_w} {c : r_c} {l : r_l} {r : r_r} (hR : r_p dX (TX nb na np g) w0 c l r w) (x k : Int32) : z_M G yX10_addCoal cX10_addCoal 3 (some .int) 1 (0) (0) [vr (3, 0), vi x, vi k] w (fun q w1 => if ix_ok x 8 ∧ c (5, 0) x.toNatClampNeg + k ≤ 1000000 then q = some (vi (c (5, 0) x.toNatClampNeg + k)) ∧ r_p dX (TX nb na np g) w0 (r_cs c (5, 0) x.toNatClampNeg (c (5, 0) x.toNatClampNeg + k)) (l) (r) w1 else q = some (vi (-1)) ∧ w1 = w) := by
  refine z_met ym_X10_addCoal (by decide) ⟨Nat.le_of_ble_eq_true rfl, Nat.le_of_ble_eq_true rfl⟩ (fun X hG hn hmc hms hin h hr => ?_)
  have he := hr.2.2.2.2.2.1
  refine z_iload_n h dX10_addCoal_0 rfl ?_
  refine z_if_lt h dX10_addCoal_1 26 (by decide) (fun c_1 => ?_) (fun c_1 => ?_)
  · skip
    refine z_iconst (v := -1) h dX10_addCoal_26 (by decide) ?_
    exact z_iret h dX10_addCoal_27 hr (z_f (fun q => q.1.1 c_1) ⟨rfl, rfl⟩)
  · skip
    refine z_iload_n h dX10_addCoal_4 rfl ?_
    refine z_aload_n h dX10_addCoal_5 rfl ?_
    refine y_getr h dX10_addCoal_6 hR flX10_15 (by first | assumption | exact Nat.le_of_ble_eq_true rfl) (by first | rfl | assumption | exact tx_2 (by first | assumption | omega) | exact tx_18 (by first | assumption | omega) | exact tx_19 (by first | assumption | omega) | exact tx_20 (by first | assumption | omega) | exact tx_27 (by first | assumption | omega) | exact tx_28 (by first | assumption | omega) | exact tx_30 (by first | assumption | omega) | exact tx_31 (by first | assumption | omega) | exact tx_32 (by first | assumption | omega) | exact tx_33 (by first | assumption | omega)) (by rfl) ?_
    refine y_len h dX10_addCoal_9 hR (by first | assumption | exact Nat.le_of_ble_eq_true rfl) (by first | rfl | assumption | exact tx_2 (by first | assumption | omega) | exact tx_18 (by first | assumption | omega) | exact tx_19 (by first | assumption | omega) | exact tx_20 (by first | assumption | omega) | exact tx_27 (by first | assumption | omega) | exact tx_28 (by first | assumption | omega) | exact tx_30 (by first | assumption | omega) | exact tx_31 (by first | assumption | omega) | exact tx_32 (by first | assumption | omega) | exact tx_33 (by first | assumption | omega)) (by rfl) ?_
    refine z_icmp_ge h dX10_addCoal_10 26 (by decide) (fun c_2 => ?_) (fun c_2 => ?_)
    · skip
      refine z_iconst (v := -1) h dX10_addCoal_26 (by decide) ?_
      exact z_iret h dX10_addCoal_27 hr (z_f (fun q => q.1.2 c_2) ⟨rfl, rfl⟩)
    · skip
      refine z_aload_n h dX10_addCoal_13 rfl ?_
      refine y_getr h dX10_addCoal_14 hR flX10_15 (by first | assumption | exact Nat.le_of_ble_eq_true rfl) (by first | rfl | assumption | exact tx_2 (by first | assumption | omega) | exact tx_18 (by first | assumption | omega) | exact tx_19 (by first | assumption | omega) | exact tx_20 (by first | assumption | omega) | exact tx_27 (by first | assumption | omega) | exact tx_28 (by first | assumption | omega) | exact tx_30 (by first | assumption | omega) | exact tx_31 (by first | assumption | omega) | exact tx_32 (by first | assumption | omega) | exact tx_33 (by first | assumption | omega)) (by rfl) ?_
      refine z_iload_n h dX10_addCoal_17 rfl ?_
      refine y_iald h dX10_addCoal_18 hR (by first | assumption | exact Nat.le_of_ble_eq_true rfl) (by first | rfl | assumption | exact tx_2 (by first | assumption | omega) | exact tx_18 (by first | assumption | omega) | exact tx_19 (by first | assumption | omega) | exact tx_20 (by first | assumption | omega) | exact tx_27 (by first | assumption | omega) | exact tx_28 (by first | assumption | omega) | exact tx_30 (by first | assumption | omega) | exact tx_31 (by first | assumption | omega) | exact tx_32 (by first | assumption | omega) | exact tx_33 (by first | assumption | omega)) (z_ixc c_1 c_2 (by decide)) ?_
      refine z_iload_n h dX10_addCoal_19 rfl ?_
      refine z_iadd h dX10_addCoal_20 ?_
      refine z_ldc h dX10_addCoal_21 kcX10_18 ?_
      refine z_icmp_le h dX10_addCoal_23 28 (by decide) (fun c_3 => ?_) (fun c_3 => ?_)
      · skip
        refine z_aload_n h dX10_addCoal_28 rfl ?_
        refine y_getr h dX10_addCoal_29 hR flX10_15 (by first | assumption | exact Nat.le_of_ble_eq_true rfl) (by first | rfl | assumption | exact tx_2 (by first | assumption | omega) | exact tx_18 (by first | assumption | omega) | exact tx_19 (by first | assumption | omega) | exact tx_20 (by first | assumption | omega) | exact tx_27 (by first | assumption | omega) | exact tx_28 (by first | assumption | omega) | exact tx_30 (by first | assumption | omega) | exact tx_31 (by first | assumption | omega) | exact tx_32 (by first | assumption | omega) | exact tx_33 (by first | assumption | omega)) (by rfl) ?_
        refine z_iload_n h dX10_addCoal_32 rfl ?_
        refine z_dup2_ir h dX10_addCoal_33 ?_
        refine y_iald h dX10_addCoal_34 hR (by first | assumption | exact Nat.le_of_ble_eq_true rfl) (by first | rfl | assumption | exact tx_2 (by first | assumption | omega) | exact tx_18 (by first | assumption | omega) | exact tx_19 (by first | assumption | omega) | exact tx_20 (by first | assumption | omega) | exact tx_27 (by first | assumption | omega) | exact tx_28 (by first | assumption | omega) | exact tx_30 (by first | assumption | omega) | exact tx_31 (by first | assumption | omega) | exact tx_32 (by first | assumption | omega) | exact tx_33 (by first | assumption | omega)) (z_ixc c_1 c_2 (by decide)) ?_
        refine z_iload_n h dX10_addCoal_35 rfl ?_
        refine z_iadd h dX10_addCoal_36 ?_
        refine y_iast h dX10_addCoal_37 hR (by first | assumption | exact Nat.le_of_ble_eq_true rfl) (by first | rfl | assumption | exact tx_2 (by first | assumption | omega) | exact tx_18 (by first | assumption | omega) | exact tx_19 (by first | assumption | omega) | exact tx_20 (by first | assumption | omega) | exact tx_27 (by first | assumption | omega) | exact tx_28 (by first | assumption | omega) | exact tx_30 (by first | assumption | omega) | exact tx_31 (by first | assumption | omega) | exact tx_32 (by first | assumption | omega) | exact tx_33 (by first | assumption | omega)) (z_ixc c_1 c_2 (by decide)) (fun w hR => ?_)
        refine z_aload_n h dX10_addCoal_38 rfl ?_
        refine y_getr h dX10_addCoal_39 hR flX10_15 (by first | assumption | exact Nat.le_of_ble_eq_true rfl) (by first | rfl | assumption | exact tx_2 (by first | assumption | omega) | exact tx_18 (by first | assumption | omega) | exact tx_19 (by first | assumption | omega) | exact tx_20 (by first | assumption | omega) | exact tx_27 (by first | assumption | omega) | exact tx_28 (by first | assumption | omega) | exact tx_30 (by first | assumption | omega) | exact tx_31 (by first | assumption | omega) | exact tx_32 (by first | assumption | omega) | exact tx_33 (by first | assumption | omega)) (by rfl) ?_
        refine z_iload_n h dX10_addCoal_42 rfl ?_
        refine y_iald h dX10_addCoal_43 hR (by first | assumption | exact Nat.le_of_ble_eq_true rfl) (by first | rfl | assumption | exact tx_2 (by first | assumption | omega) | exact tx_18 (by first | assumption | omega) | exact tx_19 (by first | assumption | omega) | exact tx_20 (by first | assumption | omega) | exact tx_27 (by first | assumption | omega) | exact tx_28 (by first | assumption | omega) | exact tx_30 (by first | assumption | omega) | exact tx_31 (by first | assumption | omega) | exact tx_32 (by first | assumption | omega) | exact tx_33 (by first | assumption | omega)) (z_ixc c_1 c_2 (by decide)) ?_
        exact z_iret h dX10_addCoal_44 hr (z_t ⟨⟨c_1, c_2⟩, c_3⟩ ⟨z_e1 (by simp only [r_cs, r_cf_self, pk_us]), hR⟩)
      · skip
        refine z_iconst (v := -1) h dX10_addCoal_26 (by decide) ?_
        exact z_iret h dX10_addCoal_27 hr (z_f (fun q => c_3 q.2) ⟨rfl, rfl⟩)
set_option maxHeartbeats 4000000 in
set_option maxRecDepth 100000 in
theorem m_X11_bogAt (G : z_G) {nb na np g : Nat} {w0 w : z_w} {c : r_c} {l : r_l} {r : r_r} (hR : r_p dX (TX nb na np g) w0 c l r w) (x : Int32) (hc : c (0, 0) 2 = nI nb) (hcap : nb ≤ 12) (hr1 : ∀ i, i < nb → r (1, 0) i = some (2, i)) : z_M G yX11_bogAt cX11_bogAt 2 (some (.object "BogForge$Bog")) 1 (0) (0) [vr (0, 0), vi x] w (fun q w1 => w1 = w ∧ if ix_ok x nb then q = some (vr (2, x.toNatClampNeg)) else q = some vn) := by
  refine z_met ym_X11_bogAt (by decide) ⟨Nat.le_of_ble_eq_true rfl, Nat.le_of_ble_eq_true rfl⟩ (fun X hG hn hmc hms hin h hr => ?_)
  have he := hr.2.2.2.2.2.1
  refine z_iload_n h dX11_bogAt_0 rfl ?_
  refine z_if_lt h dX11_bogAt_1 30 (by decide) (fun c_1 => ?_) (fun c_1 => ?_)
  · skip
    refine z_null h dX11_bogAt_30 ?_
    exact z_aret h dX11_bogAt_31 hr (Or.inl ⟨_, rfl⟩) (⟨rfl, z_f (fun q => q.1 c_1) rfl⟩)
  · skip
    refine z_iload_n h dX11_bogAt_4 rfl ?_
    refine z_aload_n h dX11_bogAt_5 rfl ?_
    refine y_geti h dX11_bogAt_6 hR flX11_87 (by first | assumption | exact Nat.le_of_ble_eq_true rfl) (by first | rfl | assumption | exact tx_2 (by first | assumption | omega) | exact tx_18 (by first | assumption | omega) | exact tx_19 (by first | assumption | omega) | exact tx_20 (by first | assumption | omega) | exact tx_27 (by first | assumption | omega) | exact tx_28 (by first | assumption | omega) | exact tx_30 (by first | assumption | omega) | exact tx_31 (by first | assumption | omega) | exact tx_32 (by first | assumption | omega) | exact tx_33 (by first | assumption | omega)) (by rfl) ?_
    rw [hc]
    refine z_icmp_ge h dX11_bogAt_9 30 (by decide) (fun c_2 => ?_) (fun c_2 => ?_)
    · skip
      refine z_null h dX11_bogAt_30 ?_
      exact z_aret h dX11_bogAt_31 hr (Or.inl ⟨_, rfl⟩) (⟨rfl, z_f (fun q => q.2 c_2) rfl⟩)
    · skip
      refine z_iload_n h dX11_bogAt_12 rfl ?_
      refine z_aload_n h dX11_bogAt_13 rfl ?_
      refine y_getr h dX11_bogAt_14 hR flX11_11 (by first | assumption | exact Nat.le_of_ble_eq_true rfl) (by first | rfl | assumption | exact tx_2 (by first | assumption | omega) | exact tx_18 (by first | assumption | omega) | exact tx_19 (by first | assumption | omega) | exact tx_20 (by first | assumption | omega) | exact tx_27 (by first | assumption | omega) | exact tx_28 (by first | assumption | omega) | exact tx_30 (by first | assumption | omega) | exact tx_31 (by first | assumption | omega) | exact tx_32 (by first | assumption | omega) | exact tx_33 (by first | assumption | omega)) (by rfl) ?_
      refine y_len h dX11_bogAt_17 hR (by first | assumption | exact Nat.le_of_ble_eq_true rfl) (by first | rfl | assumption | exact tx_2 (by first | assumption | omega) | exact tx_18 (by first | assumption | omega) | exact tx_19 (by first | assumption | omega) | exact tx_20 (by first | assumption | omega) | exact tx_27 (by first | assumption | omega) | exact tx_28 (by first | assumption | omega) | exact tx_30 (by first | assumption | omega) | exact tx_31 (by first | assumption | omega) | exact tx_32 (by first | assumption | omega) | exact tx_33 (by first | assumption | omega)) (by rfl) ?_
      refine z_icmp_ge h dX11_bogAt_18 30 (by decide) (fun c_3 => ?_) (fun c_3 => ?_)
      · skip
        exact absurd c_3 (by have h5 := ix_lt ⟨c_1, c_2⟩ (by omega); rw [ix_eq (n := nb) ⟨c_1, c_2⟩]; exact nI_ge (b := 12) (by omega) (by decide))
      · skip
        refine z_aload_n h dX11_bogAt_21 rfl ?_
        refine y_getr h dX11_bogAt_22 hR flX11_11 (by first | assumption | exact Nat.le_of_ble_eq_true rfl) (by first | rfl | assumption | exact tx_2 (by first | assumption | omega) | exact tx_18 (by first | assumption | omega) | exact tx_19 (by first | assumption | omega) | exact tx_20 (by first | assumption | omega) | exact tx_27 (by first | assumption | omega) | exact tx_28 (by first | assumption | omega) | exact tx_30 (by first | assumption | omega) | exact tx_31 (by first | assumption | omega) | exact tx_32 (by first | assumption | omega) | exact tx_33 (by first | assumption | omega)) (by rfl) ?_
        refine z_iload_n h dX11_bogAt_25 rfl ?_
        refine y_aald h dX11_bogAt_26 hR (by first | assumption | exact Nat.le_of_ble_eq_true rfl) (by first | rfl | assumption | exact tx_2 (by first | assumption | omega) | exact tx_18 (by first | assumption | omega) | exact tx_19 (by first | assumption | omega) | exact tx_20 (by first | assumption | omega) | exact tx_27 (by first | assumption | omega) | exact tx_28 (by first | assumption | omega) | exact tx_30 (by first | assumption | omega) | exact tx_31 (by first | assumption | omega) | exact tx_32 (by first | assumption | omega) | exact tx_33 (by first | assumption | omega)) rfl (show z_ix x x.toNatClampNeg 12 from z_ixc c_1 c_3 (by decide)) (hr1 _ (ix_lt ⟨c_1, c_2⟩ (by omega))) ?_
        refine z_goto h dX11_bogAt_27 31 (by decide) ?_
        exact z_aret h dX11_bogAt_31 hr (Or.inl ⟨_, rfl⟩) (⟨rfl, z_t ⟨c_1, c_2⟩ rfl⟩)
set_option maxHeartbeats 4000000 in
set_option maxRecDepth 100000 in
theorem m_X11_barAt (G : z_G) {nb na np g : Nat} {w0 w : z_w} {c : r_c} {l : r_l} {r : r_r} (hR : r_p dX (TX nb na np g) w0 c l r w) (x : Int32) (hc : c (0, 0) 8 = nI na) (hcap : na ≤ 100) (hr1 : ∀ i, i < na → r (17, 0) i = some (18, i)) : z_M G yX11_barAt cX11_barAt 2 (some (.object "BogForge$Bar")) 1 (0) (0) [vr (0, 0), vi x] w (fun q w1 => w1 = w ∧ if ix_ok x na then q = some (vr (18, x.toNatClampNeg)) else q = some vn) := by
  refine z_met ym_X11_barAt (by decide) ⟨Nat.le_of_ble_eq_true rfl, Nat.le_of_ble_eq_true rfl⟩ (fun X hG hn hmc hms hin h hr => ?_)
  have he := hr.2.2.2.2.2.1
  refine z_iload_n h dX11_barAt_0 rfl ?_
  refine z_if_lt h dX11_barAt_1 30 (by decide) (fun c_1 => ?_) (fun c_1 => ?_)
  · skip
    refine z_null h dX11_barAt_30 ?_
    exact z_aret h dX11_barAt_31 hr (Or.inl ⟨_, rfl⟩) (⟨rfl, z_f (fun q => q.1 c_1) rfl⟩)
  · skip
    refine z_iload_n h dX11_barAt_4 rfl ?_
    refine z_aload_n h dX11_barAt_5 rfl ?_
    refine y_geti h dX11_barAt_6 hR flX11_223 (by first | assumption | exact Nat.le_of_ble_eq_true rfl) (by first | rfl | assumption | exact tx_2 (by first | assumption | omega) | exact tx_18 (by first | assumption | omega) | exact tx_19 (by first | assumption | omega) | exact tx_20 (by first | assumption | omega) | exact tx_27 (by first | assumption | omega) | exact tx_28 (by first | assumption | omega) | exact tx_30 (by first | assumption | omega) | exact tx_31 (by first | assumption | omega) | exact tx_32 (by first | assumption | omega) | exact tx_33 (by first | assumption | omega)) (by rfl) ?_
    rw [hc]
    refine z_icmp_ge h dX11_barAt_9 30 (by decide) (fun c_2 => ?_) (fun c_2 => ?_)
    · skip
      refine z_null h dX11_barAt_30 ?_
      exact z_aret h dX11_barAt_31 hr (Or.inl ⟨_, rfl⟩) (⟨rfl, z_f (fun q => q.2 c_2) rfl⟩)
    · skip
      refine z_iload_n h dX11_barAt_12 rfl ?_
      refine z_aload_n h dX11_barAt_13 rfl ?_
      refine y_getr h dX11_barAt_14 hR flX11_45 (by first | assumption | exact Nat.le_of_ble_eq_true rfl) (by first | rfl | assumption | exact tx_2 (by first | assumption | omega) | exact tx_18 (by first | assumption | omega) | exact tx_19 (by first | assumption | omega) | exact tx_20 (by first | assumption | omega) | exact tx_27 (by first | assumption | omega) | exact tx_28 (by first | assumption | omega) | exact tx_30 (by first | assumption | omega) | exact tx_31 (by first | assumption | omega) | exact tx_32 (by first | assumption | omega) | exact tx_33 (by first | assumption | omega)) (by rfl) ?_
      refine y_len h dX11_barAt_17 hR (by first | assumption | exact Nat.le_of_ble_eq_true rfl) (by first | rfl | assumption | exact tx_2 (by first | assumption | omega) | exact tx_18 (by first | assumption | omega) | exact tx_19 (by first | assumption | omega) | exact tx_20 (by first | assumption | omega) | exact tx_27 (by first | assumption | omega) | exact tx_28 (by first | assumption | omega) | exact tx_30 (by first | assumption | omega) | exact tx_31 (by first | assumption | omega) | exact tx_32 (by first | assumption | omega) | exact tx_33 (by first | assumption | omega)) (by rfl) ?_
      refine z_icmp_ge h dX11_barAt_18 30 (by decide) (fun c_3 => ?_) (fun c_3 => ?_)
      · skip
        exact absurd c_3 (by have h5 := ix_lt ⟨c_1, c_2⟩ (by omega); rw [ix_eq (n := na) ⟨c_1, c_2⟩]; exact nI_ge (b := 100) (by omega) (by decide))
      · skip
        refine z_aload_n h dX11_barAt_21 rfl ?_
        refine y_getr h dX11_barAt_22 hR flX11_45 (by first | assumption | exact Nat.le_of_ble_eq_true rfl) (by first | rfl | assumption | exact tx_2 (by first | assumption | omega) | exact tx_18 (by first | assumption | omega) | exact tx_19 (by first | assumption | omega) | exact tx_20 (by first | assumption | omega) | exact tx_27 (by first | assumption | omega) | exact tx_28 (by first | assumption | omega) | exact tx_30 (by first | assumption | omega) | exact tx_31 (by first | assumption | omega) | exact tx_32 (by first | assumption | omega) | exact tx_33 (by first | assumption | omega)) (by rfl) ?_
        refine z_iload_n h dX11_barAt_25 rfl ?_
        refine y_aald h dX11_barAt_26 hR (by first | assumption | exact Nat.le_of_ble_eq_true rfl) (by first | rfl | assumption | exact tx_2 (by first | assumption | omega) | exact tx_18 (by first | assumption | omega) | exact tx_19 (by first | assumption | omega) | exact tx_20 (by first | assumption | omega) | exact tx_27 (by first | assumption | omega) | exact tx_28 (by first | assumption | omega) | exact tx_30 (by first | assumption | omega) | exact tx_31 (by first | assumption | omega) | exact tx_32 (by first | assumption | omega) | exact tx_33 (by first | assumption | omega)) rfl (show z_ix x x.toNatClampNeg 100 from z_ixc c_1 c_3 (by decide)) (hr1 _ (ix_lt ⟨c_1, c_2⟩ (by omega))) ?_
        refine z_goto h dX11_barAt_27 31 (by decide) ?_
        exact z_aret h dX11_barAt_31 hr (Or.inl ⟨_, rfl⟩) (⟨rfl, z_t ⟨c_1, c_2⟩ rfl⟩)
