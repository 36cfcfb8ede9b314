/-! the constructors -/
set_option maxHeartbeats 4000000 in
set_option maxRecDepth 100000 in
theorem m_X10_init (G : z_G) (w : z_w) (hw : w (3, 0) = some (z_ob 10 [vn, vn])) (h4_0 : w (4, 0) = none) (h5_0 : w (5, 0) = none) : z_M G yX10_init cX10_init 1 none 2 (2) (20) [vr (3, 0)] w (fun q w1 => q = none ∧ w1 = (z_set (z_set (z_set (z_set w (4, 0) (z_ia 12 (fun _ => 0))) (3, 0) (z_ob 10 [vr (4, 0), vn])) (5, 0) (z_ia 8 (fun _ => 0))) (3, 0) (z_ob 10 [vr (4, 0), vr (5, 0)]))) := by
  refine z_met ym_X10_init (by decide) ⟨Nat.le_of_ble_eq_true rfl, Nat.le_of_ble_eq_true rfl⟩ (fun X hG hn hmc hms hin h hr => ?_)
  have he := hr.2.2.2.2.2.1
  refine z_less (kC' := 0 + 1 + 1) (kS' := 0 + 8 + 12) (by decide) (by decide) ?_
  refine z_aload_n h dX10_init_0 rfl ?_
  refine z_obj h dX10_init_1 mlX10_3 im_objectInit co_objectInit (Nat.le_of_ble_eq_true rfl) ?_
  refine z_aload_n h dX10_init_4 rfl ?_
  refine z_bipush (v := 12) h dX10_init_5 (by decide) ?_
  refine z_newarr h dX10_init_7 he 0 (.inl (fun _ => 0)) ⟨by decide, rfl, ac_int, fun _ _ _ => ⟨(_, .inl (fun _ => 0)), rfl, rfl⟩⟩ trivial rfl (by decide) (4, 0) h4_0 ?_
  refine z_putF h dX10_init_9 he hin flX10_9 (z_skip rfl hw) (Nat.le_of_ble_eq_true rfl) (z_fit_r (Or.inr ⟨_, rfl⟩) _) ?_
  refine z_aload_n h dX10_init_12 rfl ?_
  refine z_bipush (v := 8) h dX10_init_13 (by decide) ?_
  refine z_newarr h dX10_init_15 he 0 (.inl (fun _ => 0)) ⟨by decide, rfl, ac_int, fun _ _ _ => ⟨(_, .inl (fun _ => 0)), rfl, rfl⟩⟩ trivial rfl (by decide) (5, 0) h5_0 ?_
  refine z_putF h dX10_init_17 he hin flX10_15 rfl (Nat.le_of_ble_eq_true rfl) (z_fit_r (Or.inr ⟨_, rfl⟩) _) ?_
  exact z_vret h dX10_init_20 hr (⟨rfl, rfl⟩)
set_option maxHeartbeats 4000000 in
set_option maxRecDepth 100000 in
theorem m_X9_init (G : z_G) (w : z_w) (hw : w (6, 0) = some (z_ob 9 [vn, vi 0])) (h7_0 : w (7, 0) = none) : z_M G yX9_init cX9_init 1 none 2 (1) (200) [vr (6, 0)] w (fun q w1 => q = none ∧ w1 = (z_set (z_set w (7, 0) (z_ia 200 (fun _ => 0))) (6, 0) (z_ob 9 [vr (7, 0), vi 0]))) := by
  refine z_met ym_X9_init (by decide) ⟨Nat.le_of_ble_eq_true rfl, Nat.le_of_ble_eq_true rfl⟩ (fun X hG hn hmc hms hin h hr => ?_)
  have he := hr.2.2.2.2.2.1
  refine z_less (kC' := 0 + 1) (kS' := 0 + 200) (by decide) (by decide) ?_
  refine z_aload_n h dX9_init_0 rfl ?_
  refine z_obj h dX9_init_1 mlX9_3 im_objectInit co_objectInit (Nat.le_of_ble_eq_true rfl) ?_
  refine z_aload_n h dX9_init_4 rfl ?_
  refine z_sipush (v := 200) h dX9_init_5 (by decide) ?_
  refine z_newarr h dX9_init_8 he 0 (.inl (fun _ => 0)) ⟨by decide, rfl, ac_int, fun _ _ _ => ⟨(_, .inl (fun _ => 0)), rfl, rfl⟩⟩ trivial rfl (by decide) (7, 0) h7_0 ?_
  refine z_putF h dX9_init_10 he hin flX9_9 (z_skip rfl hw) (Nat.le_of_ble_eq_true rfl) (z_fit_r (Or.inr ⟨_, rfl⟩) _) ?_
  exact z_vret h dX9_init_13 hr (⟨rfl, rfl⟩)
set_option maxHeartbeats 4000000 in
set_option maxRecDepth 100000 in
theorem m_X2_init (G : z_G) (w : z_w) (hw : w (8, 0) = some (z_ob 2 [vn, vn, vn, vn, vi 0])) (h9_0 : w (9, 0) = none) (h10_0 : w (10, 0) = none) (h11_0 : w (11, 0) = none) (h12_0 : w (12, 0) = none) : z_M G yX2_init cX2_init 1 none 2 (4) (160) [vr (8, 0)] w (fun q w1 => q = none ∧ w1 = (z_set (z_set (z_set (z_set (z_set (z_set (z_set (z_set w (9, 0) (z_ia 40 (fun _ => 0))) (8, 0) (z_ob 2 [vr (9, 0), vn, vn, vn, vi 0])) (10, 0) (z_ia 40 (fun _ => 0))) (8, 0) (z_ob 2 [vr (9, 0), vr (10, 0), vn, vn, vi 0])) (11, 0) (z_ia 40 (fun _ => 0))) (8, 0) (z_ob 2 [vr (9, 0), vr (10, 0), vr (11, 0), vn, vi 0])) (12, 0) (z_ia 40 (fun _ => 0))) (8, 0) (z_ob 2 [vr (9, 0), vr (10, 0), vr (11, 0), vr (12, 0), vi 0]))) := by
  refine z_met ym_X2_init (by decide) ⟨Nat.le_of_ble_eq_true rfl, Nat.le_of_ble_eq_true rfl⟩ (fun X hG hn hmc hms hin h hr => ?_)
  have he := hr.2.2.2.2.2.1
  refine z_less (kC' := 0 + 1 + 1 + 1 + 1) (kS' := 0 + 40 + 40 + 40 + 40) (by decide) (by decide) ?_
  refine z_aload_n h dX2_init_0 rfl ?_
  refine z_obj h dX2_init_1 mlX2_3 im_objectInit co_objectInit (Nat.le_of_ble_eq_true rfl) ?_
  refine z_aload_n h dX2_init_4 rfl ?_
  refine z_bipush (v := 40) h dX2_init_5 (by decide) ?_
  refine z_newarr h dX2_init_7 he 0 (.inl (fun _ => 0)) ⟨by decide, rfl, ac_int, fun _ _ _ => ⟨(_, .inl (fun _ => 0)), rfl, rfl⟩⟩ trivial rfl (by decide) (9, 0) h9_0 ?_
  refine z_putF h dX2_init_9 he hin flX2_9 (z_skip rfl hw) (Nat.le_of_ble_eq_true rfl) (z_fit_r (Or.inr ⟨_, rfl⟩) _) ?_
  refine z_aload_n h dX2_init_12 rfl ?_
  refine z_bipush (v := 40) h dX2_init_13 (by decide) ?_
  refine z_newarr h dX2_init_15 he 0 (.inl (fun _ => 0)) ⟨by decide, rfl, ac_int, fun _ _ _ => ⟨(_, .inl (fun _ => 0)), rfl, rfl⟩⟩ trivial rfl (by decide) (10, 0) h10_0 ?_
  refine z_putF h dX2_init_17 he hin flX2_15 rfl (Nat.le_of_ble_eq_true rfl) (z_fit_r (Or.inr ⟨_, rfl⟩) _) ?_
  refine z_aload_n h dX2_init_20 rfl ?_
  refine z_bipush (v := 40) h dX2_init_21 (by decide) ?_
  refine z_newarr h dX2_init_23 he 0 (.inl (fun _ => 0)) ⟨by decide, rfl, ac_int, fun _ _ _ => ⟨(_, .inl (fun _ => 0)), rfl, rfl⟩⟩ trivial rfl (by decide) (11, 0) h11_0 ?_
  refine z_putF h dX2_init_25 he hin flX2_18 rfl (Nat.le_of_ble_eq_true rfl) (z_fit_r (Or.inr ⟨_, rfl⟩) _) ?_
  refine z_aload_n h dX2_init_28 rfl ?_
  refine z_bipush (v := 40) h dX2_init_29 (by decide) ?_
  refine z_newarr h dX2_init_31 he 0 (.inl (fun _ => 0)) ⟨by decide, rfl, ac_int, fun _ _ _ => ⟨(_, .inl (fun _ => 0)), rfl, rfl⟩⟩ trivial rfl (by decide) (12, 0) h12_0 ?_
  refine z_putF h dX2_init_33 he hin flX2_21 rfl (Nat.le_of_ble_eq_true rfl) (z_fit_r (Or.inr ⟨_, rfl⟩) _) ?_
  exact z_vret h dX2_init_36 hr (⟨rfl, rfl⟩)
set_option maxHeartbeats 4000000 in
set_option maxRecDepth 100000 in
theorem m_X3_init (G : z_G) (w : z_w) (hw : w (13, 0) = some (z_ob 3 [vn, vn, vn, vi 0, vi 0, vi 0, vi 0, vi 0, vi 0, vi 0, vi 0, vi 0, vi 0, vi 0])) (h14_0 : w (14, 0) = none) (h15_0 : w (15, 0) = none) (h16_0 : w (16, 0) = none) : z_M G yX3_init cX3_init 1 none 2 (3) (32) [vr (13, 0)] w (fun q w1 => q = none ∧ w1 = (z_set (z_set (z_set (z_set (z_set (z_set (z_set (z_set (z_set w (14, 0) (z_ia 12 (fun _ => 0))) (13, 0) (z_ob 3 [vr (14, 0), vn, vn, vi 0, vi 0, vi 0, vi 0, vi 0, vi 0, vi 0, vi 0, vi 0, vi 0, vi 0])) (15, 0) (z_ia 12 (fun _ => 0))) (13, 0) (z_ob 3 [vr (14, 0), vr (15, 0), vn, vi 0, vi 0, vi 0, vi 0, vi 0, vi 0, vi 0, vi 0, vi 0, vi 0, vi 0])) (16, 0) (z_ia 8 (fun _ => 0))) (13, 0) (z_ob 3 [vr (14, 0), vr (15, 0), vr (16, 0), vi 0, vi 0, vi 0, vi 0, vi 0, vi 0, vi 0, vi 0, vi 0, vi 0, vi 0])) (13, 0) (z_ob 3 [vr (14, 0), vr (15, 0), vr (16, 0), vi 0, vi 0, vi 0, vi 0, vi 0, vi 0, vi 0, vi 0, vi (-1), vi 0, vi 0])) (13, 0) (z_ob 3 [vr (14, 0), vr (15, 0), vr (16, 0), vi 0, vi 0, vi 0, vi 0, vi 0, vi 0, vi 0, vi 0, vi (-1), vi 9, vi 0])) (13, 0) (z_ob 3 [vr (14, 0), vr (15, 0), vr (16, 0), vi 0, vi 0, vi 0, vi 0, vi 0, vi 0, vi 0, vi 0, vi (-1), vi 9, vi 1]))) := by
  refine z_met ym_X3_init (by decide) ⟨Nat.le_of_ble_eq_true rfl, Nat.le_of_ble_eq_true rfl⟩ (fun X hG hn hmc hms hin h hr => ?_)
  have he := hr.2.2.2.2.2.1
  refine z_less (kC' := 0 + 1 + 1 + 1) (kS' := 0 + 8 + 12 + 12) (by decide) (by decide) ?_
  refine z_aload_n h dX3_init_0 rfl ?_
  refine z_obj h dX3_init_1 mlX3_3 im_objectInit co_objectInit (Nat.le_of_ble_eq_true rfl) ?_
  refine z_aload_n h dX3_init_4 rfl ?_
  refine z_bipush (v := 12) h dX3_init_5 (by decide) ?_
  refine z_newarr h dX3_init_7 he 0 (.inl (fun _ => 0)) ⟨by decide, rfl, ac_int, fun _ _ _ => ⟨(_, .inl (fun _ => 0)), rfl, rfl⟩⟩ trivial rfl (by decide) (14, 0) h14_0 ?_
  refine z_putF h dX3_init_9 he hin flX3_9 (z_skip rfl hw) (Nat.le_of_ble_eq_true rfl) (z_fit_r (Or.inr ⟨_, rfl⟩) _) ?_
  refine z_aload_n h dX3_init_12 rfl ?_
  refine z_bipush (v := 12) h dX3_init_13 (by decide) ?_
  refine z_newarr h dX3_init_15 he 0 (.inl (fun _ => 0)) ⟨by decide, rfl, ac_int, fun _ _ _ => ⟨(_, .inl (fun _ => 0)), rfl, rfl⟩⟩ trivial rfl (by decide) (15, 0) h15_0 ?_
  refine z_putF h dX3_init_17 he hin flX3_15 rfl (Nat.le_of_ble_eq_true rfl) (z_fit_r (Or.inr ⟨_, rfl⟩) _) ?_
  refine z_aload_n h dX3_init_20 rfl ?_
  refine z_bipush (v := 8) h dX3_init_21 (by decide) ?_
  refine z_newarr h dX3_init_23 he 0 (.inl (fun _ => 0)) ⟨by decide, rfl, ac_int, fun _ _ _ => ⟨(_, .inl (fun _ => 0)), rfl, rfl⟩⟩ trivial rfl (by decide) (16, 0) h16_0 ?_
  refine z_putF h dX3_init_25 he hin flX3_18 rfl (Nat.le_of_ble_eq_true rfl) (z_fit_r (Or.inr ⟨_, rfl⟩) _) ?_
  refine z_aload_n h dX3_init_28 rfl ?_
  refine z_iconst (v := -1) h dX3_init_29 (by decide) ?_
  refine z_put h dX3_init_30 he flX3_21 rfl (by first | exact Nat.le_of_ble_eq_true rfl | (simp only [List.length_set]; exact Nat.le_of_ble_eq_true rfl)) (z_fit_i _) ?_
  refine z_aload_n h dX3_init_33 rfl ?_
  refine z_bipush (v := 9) h dX3_init_34 (by decide) ?_
  refine z_put h dX3_init_36 he flX3_25 rfl (by first | exact Nat.le_of_ble_eq_true rfl | (simp only [List.length_set]; exact Nat.le_of_ble_eq_true rfl)) (z_fit_i _) ?_
  refine z_aload_n h dX3_init_39 rfl ?_
  refine z_iconst (v := 1) h dX3_init_40 (by decide) ?_
  refine z_put h dX3_init_41 he flX3_28 rfl (by first | exact Nat.le_of_ble_eq_true rfl | (simp only [List.length_set]; exact Nat.le_of_ble_eq_true rfl)) (z_fit_i _) ?_
  exact z_vret h dX3_init_44 hr (⟨rfl, rfl⟩)
set_option maxHeartbeats 4000000 in
set_option maxRecDepth 100000 in
theorem m_X8_init (G : z_G) (w : z_w) (hw : w (21, 0) = some (z_ob 8 [vn, vn, vn, vn, vi 0])) (h22_0 : w (22, 0) = none) (h23_0 : w (23, 0) = none) (h24_0 : w (24, 0) = none) (h25_0 : w (25, 0) = none) : z_M G yX8_init cX8_init 1 none 2 (4) (400) [vr (21, 0)] w (fun q w1 => q = none ∧ w1 = (z_set (z_set (z_set (z_set (z_set (z_set (z_set (z_set w (22, 0) (z_ia 100 (fun _ => 0))) (21, 0) (z_ob 8 [vr (22, 0), vn, vn, vn, vi 0])) (23, 0) (z_ia 100 (fun _ => 0))) (21, 0) (z_ob 8 [vr (22, 0), vr (23, 0), vn, vn, vi 0])) (24, 0) (z_ia 100 (fun _ => 0))) (21, 0) (z_ob 8 [vr (22, 0), vr (23, 0), vr (24, 0), vn, vi 0])) (25, 0) (z_ia 100 (fun _ => 0))) (21, 0) (z_ob 8 [vr (22, 0), vr (23, 0), vr (24, 0), vr (25, 0), vi 0]))) := by
  refine z_met ym_X8_init (by decide) ⟨Nat.le_of_ble_eq_true rfl, Nat.le_of_ble_eq_true rfl⟩ (fun X hG hn hmc hms hin h hr => ?_)
  have he := hr.2.2.2.2.2.1
  refine z_less (kC' := 0 + 1 + 1 + 1 + 1) (kS' := 0 + 100 + 100 + 100 + 100) (by decide) (by decide) ?_
  refine z_aload_n h dX8_init_0 rfl ?_
  refine z_obj h dX8_init_1 mlX8_3 im_objectInit co_objectInit (Nat.le_of_ble_eq_true rfl) ?_
  refine z_aload_n h dX8_init_4 rfl ?_
  refine z_bipush (v := 100) h dX8_init_5 (by decide) ?_
  refine z_newarr h dX8_init_7 he 0 (.inl (fun _ => 0)) ⟨by decide, rfl, ac_int, fun _ _ _ => ⟨(_, .inl (fun _ => 0)), rfl, rfl⟩⟩ trivial rfl (by decide) (22, 0) h22_0 ?_
  refine z_putF h dX8_init_9 he hin flX8_9 (z_skip rfl hw) (Nat.le_of_ble_eq_true rfl) (z_fit_r (Or.inr ⟨_, rfl⟩) _) ?_
  refine z_aload_n h dX8_init_12 rfl ?_
  refine z_bipush (v := 100) h dX8_init_13 (by decide) ?_
  refine z_newarr h dX8_init_15 he 0 (.inl (fun _ => 0)) ⟨by decide, rfl, ac_int, fun _ _ _ => ⟨(_, .inl (fun _ => 0)), rfl, rfl⟩⟩ trivial rfl (by decide) (23, 0) h23_0 ?_
  refine z_putF h dX8_init_17 he hin flX8_15 rfl (Nat.le_of_ble_eq_true rfl) (z_fit_r (Or.inr ⟨_, rfl⟩) _) ?_
  refine z_aload_n h dX8_init_20 rfl ?_
  refine z_bipush (v := 100) h dX8_init_21 (by decide) ?_
  refine z_newarr h dX8_init_23 he 0 (.inl (fun _ => 0)) ⟨by decide, rfl, ac_int, fun _ _ _ => ⟨(_, .inl (fun _ => 0)), rfl, rfl⟩⟩ trivial rfl (by decide) (24, 0) h24_0 ?_
  refine z_putF h dX8_init_25 he hin flX8_18 rfl (Nat.le_of_ble_eq_true rfl) (z_fit_r (Or.inr ⟨_, rfl⟩) _) ?_
  refine z_aload_n h dX8_init_28 rfl ?_
  refine z_bipush (v := 100) h dX8_init_29 (by decide) ?_
  refine z_newarr h dX8_init_31 he 0 (.inl (fun _ => 0)) ⟨by decide, rfl, ac_int, fun _ _ _ => ⟨(_, .inl (fun _ => 0)), rfl, rfl⟩⟩ trivial rfl (by decide) (25, 0) h25_0 ?_
  refine z_putF h dX8_init_33 he hin flX8_21 rfl (Nat.le_of_ble_eq_true rfl) (z_fit_r (Or.inr ⟨_, rfl⟩) _) ?_
  exact z_vret h dX8_init_36 hr (⟨rfl, rfl⟩)
set_option maxHeartbeats 4000000 in
set_option maxRecDepth 100000 in
theorem m_X4_init (G : z_G) (w : z_w) (hw : w (29, 0) = some (z_ob 4 [vn, vn, vn, vn, vn, vi 0])) (h30_0 : w (30, 0) = none) (h31_0 : w (31, 0) = none) (h32_0 : w (32, 0) = none) (h33_0 : w (33, 0) = none) (h34_0 : w (34, 0) = none) : z_M G yX4_init cX4_init 1 none 2 (5) (264) [vr (29, 0)] w (fun q w1 => q = none ∧ w1 = (z_set (z_set (z_set (z_set (z_set (z_set (z_set (z_set (z_set (z_set w (30, 0) (z_ia 64 (fun _ => 0))) (29, 0) (z_ob 4 [vr (30, 0), vn, vn, vn, vn, vi 0])) (31, 0) (z_ia 64 (fun _ => 0))) (29, 0) (z_ob 4 [vr (30, 0), vr (31, 0), vn, vn, vn, vi 0])) (32, 0) (z_ia 64 (fun _ => 0))) (29, 0) (z_ob 4 [vr (30, 0), vr (31, 0), vr (32, 0), vn, vn, vi 0])) (33, 0) (z_ia 64 (fun _ => 0))) (29, 0) (z_ob 4 [vr (30, 0), vr (31, 0), vr (32, 0), vr (33, 0), vn, vi 0])) (34, 0) (z_ia 8 (fun _ => 0))) (29, 0) (z_ob 4 [vr (30, 0), vr (31, 0), vr (32, 0), vr (33, 0), vr (34, 0), vi 0]))) := by
  refine z_met ym_X4_init (by decide) ⟨Nat.le_of_ble_eq_true rfl, Nat.le_of_ble_eq_true rfl⟩ (fun X hG hn hmc hms hin h hr => ?_)
  have he := hr.2.2.2.2.2.1
  refine z_less (kC' := 0 + 1 + 1 + 1 + 1 + 1) (kS' := 0 + 8 + 64 + 64 + 64 + 64) (by decide) (by decide) ?_
  refine z_aload_n h dX4_init_0 rfl ?_
  refine z_obj h dX4_init_1 mlX4_3 im_objectInit co_objectInit (Nat.le_of_ble_eq_true rfl) ?_
  refine z_aload_n h dX4_init_4 rfl ?_
  refine z_bipush (v := 64) h dX4_init_5 (by decide) ?_
  refine z_newarr h dX4_init_7 he 0 (.inl (fun _ => 0)) ⟨by decide, rfl, ac_int, fun _ _ _ => ⟨(_, .inl (fun _ => 0)), rfl, rfl⟩⟩ trivial rfl (by decide) (30, 0) h30_0 ?_
  refine z_put h dX4_init_9 he flX4_9 (z_skip rfl hw) (by first | exact Nat.le_of_ble_eq_true rfl | (simp only [List.length_set]; exact Nat.le_of_ble_eq_true rfl)) (z_fit_r (Or.inr ⟨_, rfl⟩) _) ?_
  refine z_aload_n h dX4_init_12 rfl ?_
  refine z_bipush (v := 64) h dX4_init_13 (by decide) ?_
  refine z_newarr h dX4_init_15 he 0 (.inl (fun _ => 0)) ⟨by decide, rfl, ac_int, fun _ _ _ => ⟨(_, .inl (fun _ => 0)), rfl, rfl⟩⟩ trivial rfl (by decide) (31, 0) h31_0 ?_
  refine z_put h dX4_init_17 he flX4_15 rfl (by first | exact Nat.le_of_ble_eq_true rfl | (simp only [List.length_set]; exact Nat.le_of_ble_eq_true rfl)) (z_fit_r (Or.inr ⟨_, rfl⟩) _) ?_
  refine z_aload_n h dX4_init_20 rfl ?_
  refine z_bipush (v := 64) h dX4_init_21 (by decide) ?_
  refine z_newarr h dX4_init_23 he 0 (.inl (fun _ => 0)) ⟨by decide, rfl, ac_int, fun _ _ _ => ⟨(_, .inl (fun _ => 0)), rfl, rfl⟩⟩ trivial rfl (by decide) (32, 0) h32_0 ?_
  refine z_put h dX4_init_25 he flX4_18 rfl (by first | exact Nat.le_of_ble_eq_true rfl | (simp only [List.length_set]; exact Nat.le_of_ble_eq_true rfl)) (z_fit_r (Or.inr ⟨_, rfl⟩) _) ?_
  refine z_aload_n h dX4_init_28 rfl ?_
  refine z_bipush (v := 64) h dX4_init_29 (by decide) ?_
  refine z_newarr h dX4_init_31 he 0 (.inl (fun _ => 0)) ⟨by decide, rfl, ac_int, fun _ _ _ => ⟨(_, .inl (fun _ => 0)), rfl, rfl⟩⟩ trivial rfl (by decide) (33, 0) h33_0 ?_
  refine z_put h dX4_init_33 he flX4_21 rfl (by first | exact Nat.le_of_ble_eq_true rfl | (simp only [List.length_set]; exact Nat.le_of_ble_eq_true rfl)) (z_fit_r (Or.inr ⟨_, rfl⟩) _) ?_
  refine z_aload_n h dX4_init_36 rfl ?_
  refine z_bipush (v := 8) h dX4_init_37 (by decide) ?_
  refine z_newarr h dX4_init_39 he 0 (.inl (fun _ => 0)) ⟨by decide, rfl, ac_int, fun _ _ _ => ⟨(_, .inl (fun _ => 0)), rfl, rfl⟩⟩ trivial rfl (by decide) (34, 0) h34_0 ?_
  refine z_putF h dX4_init_41 he hin flX4_24 rfl (Nat.le_of_ble_eq_true rfl) (z_fit_r (Or.inr ⟨_, rfl⟩) _) ?_
  exact z_vret h dX4_init_44 hr (⟨rfl, rfl⟩)
set_option maxHeartbeats 4000000 in
set_option maxRecDepth 100000 in
theorem m_X5_init (G : z_G) (w : z_w) (hw : w (35, 0) = some (z_ob 5 [vn, vn, vn, vi 0, vn, vn, vn, vn, vn, vi 0])) (h36_0 : w (36, 0) = none) (h37_0 : w (37, 0) = none) (h38_0 : w (38, 0) = none) (h39_0 : w (39, 0) = none) (h40_0 : w (40, 0) = none) (h41_0 : w (41, 0) = none) (h42_0 : w (42, 0) = none) (h43_0 : w (43, 0) = none) : z_M G yX5_init cX5_init 1 none 2 (8) (432) [vr (35, 0)] w (fun q w1 => q = none ∧ w1 = (z_set (z_set (z_set (z_set (z_set (z_set (z_set (z_set (z_set (z_set (z_set (z_set (z_set (z_set (z_set (z_set w (36, 0) (z_ia 8 (fun _ => 0))) (35, 0) (z_ob 5 [vr (36, 0), vn, vn, vi 0, vn, vn, vn, vn, vn, vi 0])) (37, 0) (z_ia 8 (fun _ => 0))) (35, 0) (z_ob 5 [vr (36, 0), vr (37, 0), vn, vi 0, vn, vn, vn, vn, vn, vi 0])) (38, 0) (z_ia 8 (fun _ => 0))) (35, 0) (z_ob 5 [vr (36, 0), vr (37, 0), vr (38, 0), vi 0, vn, vn, vn, vn, vn, vi 0])) (39, 0) (z_ia 100 (fun _ => 0))) (35, 0) (z_ob 5 [vr (36, 0), vr (37, 0), vr (38, 0), vi 0, vr (39, 0), vn, vn, vn, vn, vi 0])) (40, 0) (z_ia 100 (fun _ => 0))) (35, 0) (z_ob 5 [vr (36, 0), vr (37, 0), vr (38, 0), vi 0, vr (39, 0), vr (40, 0), vn, vn, vn, vi 0])) (41, 0) (z_za 100 (fun _ => 0))) (35, 0) (z_ob 5 [vr (36, 0), vr (37, 0), vr (38, 0), vi 0, vr (39, 0), vr (40, 0), vr (41, 0), vn, vn, vi 0])) (42, 0) (z_ia 100 (fun _ => 0))) (35, 0) (z_ob 5 [vr (36, 0), vr (37, 0), vr (38, 0), vi 0, vr (39, 0), vr (40, 0), vr (41, 0), vr (42, 0), vn, vi 0])) (43, 0) (z_ia 8 (fun _ => 0))) (35, 0) (z_ob 5 [vr (36, 0), vr (37, 0), vr (38, 0), vi 0, vr (39, 0), vr (40, 0), vr (41, 0), vr (42, 0), vr (43, 0), vi 0]))) := by
  refine z_met ym_X5_init (by decide) ⟨Nat.le_of_ble_eq_true rfl, Nat.le_of_ble_eq_true rfl⟩ (fun X hG hn hmc hms hin h hr => ?_)
  have he := hr.2.2.2.2.2.1
  refine z_less (kC' := 0 + 1 + 1 + 1 + 1 + 1 + 1 + 1 + 1) (kS' := 0 + 8 + 100 + 100 + 100 + 100 + 8 + 8 + 8) (by decide) (by decide) ?_
  refine z_aload_n h dX5_init_0 rfl ?_
  refine z_obj h dX5_init_1 mlX5_3 im_objectInit co_objectInit (Nat.le_of_ble_eq_true rfl) ?_
  refine z_aload_n h dX5_init_4 rfl ?_
  refine z_bipush (v := 8) h dX5_init_5 (by decide) ?_
  refine z_newarr h dX5_init_7 he 0 (.inl (fun _ => 0)) ⟨by decide, rfl, ac_int, fun _ _ _ => ⟨(_, .inl (fun _ => 0)), rfl, rfl⟩⟩ trivial rfl (by decide) (36, 0) h36_0 ?_
  refine z_putF h dX5_init_9 he hin flX5_9 (z_skip rfl hw) (Nat.le_of_ble_eq_true rfl) (z_fit_r (Or.inr ⟨_, rfl⟩) _) ?_
  refine z_aload_n h dX5_init_12 rfl ?_
  refine z_bipush (v := 8) h dX5_init_13 (by decide) ?_
  refine z_newarr h dX5_init_15 he 0 (.inl (fun _ => 0)) ⟨by decide, rfl, ac_int, fun _ _ _ => ⟨(_, .inl (fun _ => 0)), rfl, rfl⟩⟩ trivial rfl (by decide) (37, 0) h37_0 ?_
  refine z_putF h dX5_init_17 he hin flX5_15 rfl (Nat.le_of_ble_eq_true rfl) (z_fit_r (Or.inr ⟨_, rfl⟩) _) ?_
  refine z_aload_n h dX5_init_20 rfl ?_
  refine z_bipush (v := 8) h dX5_init_21 (by decide) ?_
  refine z_newarr h dX5_init_23 he 0 (.inl (fun _ => 0)) ⟨by decide, rfl, ac_int, fun _ _ _ => ⟨(_, .inl (fun _ => 0)), rfl, rfl⟩⟩ trivial rfl (by decide) (38, 0) h38_0 ?_
  refine z_putF h dX5_init_25 he hin flX5_18 rfl (Nat.le_of_ble_eq_true rfl) (z_fit_r (Or.inr ⟨_, rfl⟩) _) ?_
  refine z_aload_n h dX5_init_28 rfl ?_
  refine z_bipush (v := 100) h dX5_init_29 (by decide) ?_
  refine z_newarr h dX5_init_31 he 0 (.inl (fun _ => 0)) ⟨by decide, rfl, ac_int, fun _ _ _ => ⟨(_, .inl (fun _ => 0)), rfl, rfl⟩⟩ trivial rfl (by decide) (39, 0) h39_0 ?_
  refine z_putF h dX5_init_33 he hin flX5_21 rfl (Nat.le_of_ble_eq_true rfl) (z_fit_r (Or.inr ⟨_, rfl⟩) _) ?_
  refine z_aload_n h dX5_init_36 rfl ?_
  refine z_bipush (v := 100) h dX5_init_37 (by decide) ?_
  refine z_newarr h dX5_init_39 he 0 (.inl (fun _ => 0)) ⟨by decide, rfl, ac_int, fun _ _ _ => ⟨(_, .inl (fun _ => 0)), rfl, rfl⟩⟩ trivial rfl (by decide) (40, 0) h40_0 ?_
  refine z_putF h dX5_init_41 he hin flX5_24 rfl (Nat.le_of_ble_eq_true rfl) (z_fit_r (Or.inr ⟨_, rfl⟩) _) ?_
  refine z_aload_n h dX5_init_44 rfl ?_
  refine z_bipush (v := 100) h dX5_init_45 (by decide) ?_
  refine z_newarr h dX5_init_47 he 2 (.inl (fun _ => 0)) ⟨by decide, rfl, ac_boolean, fun _ _ _ => ⟨(_, .inl (fun _ => 0)), rfl, rfl⟩⟩ trivial rfl (by decide) (41, 0) h41_0 ?_
  refine z_putF h dX5_init_49 he hin flX5_27 rfl (Nat.le_of_ble_eq_true rfl) (z_fit_r (Or.inr ⟨_, rfl⟩) _) ?_
  refine z_aload_n h dX5_init_52 rfl ?_
  refine z_bipush (v := 100) h dX5_init_53 (by decide) ?_
  refine z_newarr h dX5_init_55 he 0 (.inl (fun _ => 0)) ⟨by decide, rfl, ac_int, fun _ _ _ => ⟨(_, .inl (fun _ => 0)), rfl, rfl⟩⟩ trivial rfl (by decide) (42, 0) h42_0 ?_
  refine z_putF h dX5_init_57 he hin flX5_31 rfl (Nat.le_of_ble_eq_true rfl) (z_fit_r (Or.inr ⟨_, rfl⟩) _) ?_
  refine z_aload_n h dX5_init_60 rfl ?_
  refine z_bipush (v := 8) h dX5_init_61 (by decide) ?_
  refine z_newarr h dX5_init_63 he 0 (.inl (fun _ => 0)) ⟨by decide, rfl, ac_int, fun _ _ _ => ⟨(_, .inl (fun _ => 0)), rfl, rfl⟩⟩ trivial rfl (by decide) (43, 0) h43_0 ?_
  refine z_putF h dX5_init_65 he hin flX5_34 rfl (Nat.le_of_ble_eq_true rfl) (z_fit_r (Or.inr ⟨_, rfl⟩) _) ?_
  exact z_vret h dX5_init_68 hr (⟨rfl, rfl⟩)
set_option maxHeartbeats 4000000 in
set_option maxRecDepth 100000 in
theorem m_X6_init (G : z_G) (w : z_w) (hw : w (44, 0) = some (z_ob 6 [vn, vn])) (h45_0 : w (45, 0) = none) (h46_0 : w (46, 0) = none) : z_M G yX6_init cX6_init 1 none 2 (2) (24) [vr (44, 0)] w (fun q w1 => q = none ∧ w1 = (z_set (z_set (z_set (z_set w (45, 0) (z_ia 12 (fun _ => 0))) (44, 0) (z_ob 6 [vr (45, 0), vn])) (46, 0) (z_la 12 (fun _ => 0))) (44, 0) (z_ob 6 [vr (45, 0), vr (46, 0)]))) := by
  refine z_met ym_X6_init (by decide) ⟨Nat.le_of_ble_eq_true rfl, Nat.le_of_ble_eq_true rfl⟩ (fun X hG hn hmc hms hin h hr => ?_)
  have he := hr.2.2.2.2.2.1
  refine z_less (kC' := 0 + 1 + 1) (kS' := 0 + 12 + 12) (by decide) (by decide) ?_
  refine z_aload_n h dX6_init_0 rfl ?_
  refine z_obj h dX6_init_1 mlX6_3 im_objectInit co_objectInit (Nat.le_of_ble_eq_true rfl) ?_
  refine z_aload_n h dX6_init_4 rfl ?_
  refine z_bipush (v := 12) h dX6_init_5 (by decide) ?_
  refine z_newarr h dX6_init_7 he 0 (.inl (fun _ => 0)) ⟨by decide, rfl, ac_int, fun _ _ _ => ⟨(_, .inl (fun _ => 0)), rfl, rfl⟩⟩ trivial rfl (by decide) (45, 0) h45_0 ?_
  refine z_putF h dX6_init_9 he hin flX6_9 (z_skip rfl hw) (Nat.le_of_ble_eq_true rfl) (z_fit_r (Or.inr ⟨_, rfl⟩) _) ?_
  refine z_aload_n h dX6_init_12 rfl ?_
  refine z_bipush (v := 12) h dX6_init_13 (by decide) ?_
  refine z_newarr h dX6_init_15 he 1 (.inr (.inl (fun _ => 0))) ⟨by decide, rfl, ac_long, fun _ _ _ => ⟨(_, .inr (.inl (fun _ => 0))), rfl, rfl⟩⟩ trivial rfl (by decide) (46, 0) h46_0 ?_
  refine z_putF h dX6_init_17 he hin flX6_15 rfl (Nat.le_of_ble_eq_true rfl) (z_fit_r (Or.inr ⟨_, rfl⟩) _) ?_
  exact z_vret h dX6_init_20 hr (⟨rfl, rfl⟩)
