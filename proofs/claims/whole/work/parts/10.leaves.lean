/-! leaves: contracts of the small methods -/
set_option maxHeartbeats 4000000 in
set_option maxRecDepth 100000 in
theorem m_X11_within (G : z_G) (w : z_w) (x lo hi : Int32) : z_M G yX11_within cX11_within 3 (some .boolean) 1 (0) (0) [vi x, vi lo, vi hi] w (fun r w1 => r = some (vi (z_b (lo ≤ x ∧ x ≤ hi))) ∧ w1 = w) := by
  refine z_met ym_X11_within (by decide) ⟨Nat.le_of_ble_eq_true rfl, Nat.le_of_ble_eq_true rfl⟩ (fun X hG hn hmc hms hin h hr => ?_)
  have he := hr.2.2.2.2.2.1
  refine z_iload_n h dX11_within_0 rfl ?_
  refine z_iload_n h dX11_within_1 rfl ?_
  refine z_icmp_lt h dX11_within_2 14 (by decide) (fun c_1 => ?_) (fun c_1 => ?_)
  · skip
    refine z_iconst (v := 0) h dX11_within_14 (by decide) ?_
    exact z_zret h dX11_within_15 hr rfl (by first | exact ⟨z_ret1 (by simp only [z_lt, z_le, z_ie] at *; omega), rfl⟩ | exact ⟨z_ret0 (by simp only [z_lt, z_le, z_ie] at *; omega), rfl⟩)
  · skip
    refine z_iload_n h dX11_within_5 rfl ?_
    refine z_iload_n h dX11_within_6 rfl ?_
    refine z_icmp_gt h dX11_within_7 14 (by decide) (fun c_2 => ?_) (fun c_2 => ?_)
    · skip
      refine z_iconst (v := 0) h dX11_within_14 (by decide) ?_
      exact z_zret h dX11_within_15 hr rfl (by first | exact ⟨z_ret1 (by simp only [z_lt, z_le, z_ie] at *; omega), rfl⟩ | exact ⟨z_ret0 (by simp only [z_lt, z_le, z_ie] at *; omega), rfl⟩)
    · skip
      refine z_iconst (v := 1) h dX11_within_10 (by decide) ?_
      refine z_goto h dX11_within_11 15 (by decide) ?_
      exact z_zret h dX11_within_15 hr rfl (by first | exact ⟨z_ret1 (by simp only [z_lt, z_le, z_ie] at *; omega), rfl⟩ | exact ⟨z_ret0 (by simp only [z_lt, z_le, z_ie] at *; omega), rfl⟩)
set_option maxHeartbeats 4000000 in
set_option maxRecDepth 100000 in
theorem m_X12_in (G : z_G) (w : z_w) (x lo hi : Int32) : z_M G yX12_in cX12_in 3 (some .boolean) 1 (0) (0) [vi x, vi lo, vi hi] w (fun r w1 => r = some (vi (z_b (lo ≤ x ∧ x ≤ hi))) ∧ w1 = w) := by
  refine z_met ym_X12_in (by decide) ⟨Nat.le_of_ble_eq_true rfl, Nat.le_of_ble_eq_true rfl⟩ (fun X hG hn hmc hms hin h hr => ?_)
  have he := hr.2.2.2.2.2.1
  refine z_iload_n h dX12_in_0 rfl ?_
  refine z_iload_n h dX12_in_1 rfl ?_
  refine z_icmp_lt h dX12_in_2 14 (by decide) (fun c_1 => ?_) (fun c_1 => ?_)
  · skip
    refine z_iconst (v := 0) h dX12_in_14 (by decide) ?_
    exact z_zret h dX12_in_15 hr rfl (by first | exact ⟨z_ret1 (by simp only [z_lt, z_le, z_ie] at *; omega), rfl⟩ | exact ⟨z_ret0 (by simp only [z_lt, z_le, z_ie] at *; omega), rfl⟩)
  · skip
    refine z_iload_n h dX12_in_5 rfl ?_
    refine z_iload_n h dX12_in_6 rfl ?_
    refine z_icmp_gt h dX12_in_7 14 (by decide) (fun c_2 => ?_) (fun c_2 => ?_)
    · skip
      refine z_iconst (v := 0) h dX12_in_14 (by decide) ?_
      exact z_zret h dX12_in_15 hr rfl (by first | exact ⟨z_ret1 (by simp only [z_lt, z_le, z_ie] at *; omega), rfl⟩ | exact ⟨z_ret0 (by simp only [z_lt, z_le, z_ie] at *; omega), rfl⟩)
    · skip
      refine z_iconst (v := 1) h dX12_in_10 (by decide) ?_
      refine z_goto h dX12_in_11 15 (by decide) ?_
      exact z_zret h dX12_in_15 hr rfl (by first | exact ⟨z_ret1 (by simp only [z_lt, z_le, z_ie] at *; omega), rfl⟩ | exact ⟨z_ret0 (by simp only [z_lt, z_le, z_ie] at *; omega), rfl⟩)
set_option maxHeartbeats 4000000 in
set_option maxRecDepth 100000 in
theorem m_X11_sumOf (G : z_G) (w : z_w) (t : z_T) (n : Nat) (f : Nat → Int32) (hw : w t = some (z_ia n f)) (hb : n < 2 ^ 31) : z_M G yX11_sumOf cX11_sumOf 3 (some .int) 1 (0) (0) [vr t] w (fun r w1 => r = some (vi (z_sum f n)) ∧ w1 = w) := by
  refine z_met ym_X11_sumOf (by decide) ⟨Nat.le_of_ble_eq_true rfl, Nat.le_of_ble_eq_true rfl⟩ (fun X hG hn hmc hms hin h hr => ?_)
  have he := hr.2.2.2.2.2.1
  refine z_iconst (v := 0) h dX11_sumOf_0 (by decide) ?_
  refine z_istore_n h dX11_sumOf_1 (by rw [hn]; decide) ?_
  refine z_iconst (v := 0) h dX11_sumOf_2 (by decide) ?_
  refine z_istore_n h dX11_sumOf_3 (by rw [hn]; decide) ?_
  have loop_4 : ∀ (n_ : Nat) (i : Nat), i ≤ n → n + 1 ≤ i + n_ → z_V X 0 0 w 4 [(0, vr t), (1, vi (z_sum f i)), (2, vi (nI i))] [] := by
    intro n_
    induction n_ with
    | zero => intros; omega
    | succ n_ ih_4 =>
      intro i hi hN
      refine z_iload_n h dX11_sumOf_4 rfl ?_
      refine z_aload_n h dX11_sumOf_5 rfl ?_
      refine z_alen h dX11_sumOf_6 (by first | assumption | rfl | (repeat (first | exact z_set_self _ _ _ | assumption | refine z_skip rfl ?_))) (by decide) ?_
      refine z_icmp_ge h dX11_sumOf_7 22 (by decide) (fun c_1 => ?_) (fun c_1 => ?_)
      · skip
        have e1 : n ≤ i := (nI_leI (by omega) (by omega)).mp c_1
        have e2 : i = n := by omega
        subst e2
        refine z_iload_n h dX11_sumOf_22 rfl ?_
        exact z_iret h dX11_sumOf_23 hr (⟨rfl, rfl⟩)
      · skip
        have e1 : ¬ n ≤ i := fun q => c_1 ((nI_leI (by omega) (by omega)).mpr q)
        refine z_iload_n h dX11_sumOf_10 rfl ?_
        refine z_aload_n h dX11_sumOf_11 rfl ?_
        refine z_iload_n h dX11_sumOf_12 rfl ?_
        refine z_iald h dX11_sumOf_13 (by first | assumption | rfl | (repeat (first | exact z_set_self _ _ _ | assumption | refine z_skip rfl ?_))) (by first | assumption | exact z_ixn (by omega) (by omega)) ?_
        refine z_iadd h dX11_sumOf_14 ?_
        refine z_istore_n h dX11_sumOf_15 (by rw [hn]; decide) ?_
        refine z_iinc (v := 1) h dX11_sumOf_16 rfl (by decide) (by rw [hn]; decide) ?_
        refine z_goto h dX11_sumOf_19 4 (by decide) ?_
        refine z_loc [(0, vr t), (1, vi (z_sum f (i + 1))), (2, vi (nI (i + 1)))] ⟨rfl, rfl, congrArg (fun z => some (vi z)) (z_up i), trivial⟩ ?_
        exact ih_4 (i + 1) (by omega) (by omega)
  exact z_loc [(0, vr t), (1, vi 0), (2, vi 0)] ⟨rfl, rfl, rfl, trivial⟩ (loop_4 (n + 1) 0 (by omega) (by omega))
set_option maxHeartbeats 4000000 in
set_option maxRecDepth 100000 in
theorem m_X12_sum (G : z_G) (w : z_w) (t : z_T) (n : Nat) (f : Nat → Int32) (hw : w t = some (z_ia n f)) (hb : n < 2 ^ 31) : z_M G yX12_sum cX12_sum 3 (some .int) 1 (0) (0) [vr t] w (fun r w1 => r = some (vi (z_sum f n)) ∧ w1 = w) := by
  refine z_met ym_X12_sum (by decide) ⟨Nat.le_of_ble_eq_true rfl, Nat.le_of_ble_eq_true rfl⟩ (fun X hG hn hmc hms hin h hr => ?_)
  have he := hr.2.2.2.2.2.1
  refine z_iconst (v := 0) h dX12_sum_0 (by decide) ?_
  refine z_istore_n h dX12_sum_1 (by rw [hn]; decide) ?_
  refine z_iconst (v := 0) h dX12_sum_2 (by decide) ?_
  refine z_istore_n h dX12_sum_3 (by rw [hn]; decide) ?_
  have loop_4 : ∀ (n_ : Nat) (i : Nat), i ≤ n → n + 1 ≤ i + n_ → z_V X 0 0 w 4 [(0, vr t), (1, vi (z_sum f i)), (2, vi (nI i))] [] := by
    intro n_
    induction n_ with
    | zero => intros; omega
    | succ n_ ih_4 =>
      intro i hi hN
      refine z_iload_n h dX12_sum_4 rfl ?_
      refine z_aload_n h dX12_sum_5 rfl ?_
      refine z_alen h dX12_sum_6 (by first | assumption | rfl | (repeat (first | exact z_set_self _ _ _ | assumption | refine z_skip rfl ?_))) (by decide) ?_
      refine z_icmp_ge h dX12_sum_7 22 (by decide) (fun c_1 => ?_) (fun c_1 => ?_)
      · skip
        have e1 : n ≤ i := (nI_leI (by omega) (by omega)).mp c_1
        have e2 : i = n := by omega
        subst e2
        refine z_iload_n h dX12_sum_22 rfl ?_
        exact z_iret h dX12_sum_23 hr (⟨rfl, rfl⟩)
      · skip
        have e1 : ¬ n ≤ i := fun q => c_1 ((nI_leI (by omega) (by omega)).mpr q)
        refine z_iload_n h dX12_sum_10 rfl ?_
        refine z_aload_n h dX12_sum_11 rfl ?_
        refine z_iload_n h dX12_sum_12 rfl ?_
        refine z_iald h dX12_sum_13 (by first | assumption | rfl | (repeat (first | exact z_set_self _ _ _ | assumption | refine z_skip rfl ?_))) (by first | assumption | exact z_ixn (by omega) (by omega)) ?_
        refine z_iadd h dX12_sum_14 ?_
        refine z_istore_n h dX12_sum_15 (by rw [hn]; decide) ?_
        refine z_iinc (v := 1) h dX12_sum_16 rfl (by decide) (by rw [hn]; decide) ?_
        refine z_goto h dX12_sum_19 4 (by decide) ?_
        refine z_loc [(0, vr t), (1, vi (z_sum f (i + 1))), (2, vi (nI (i + 1)))] ⟨rfl, rfl, congrArg (fun z => some (vi z)) (z_up i), trivial⟩ ?_
        exact ih_4 (i + 1) (by omega) (by omega)
  exact z_loc [(0, vr t), (1, vi 0), (2, vi 0)] ⟨rfl, rfl, rfl, trivial⟩ (loop_4 (n + 1) 0 (by omega) (by omega))
set_option maxHeartbeats 4000000 in
set_option maxRecDepth 100000 in
theorem m_X11_itemOf (G : z_G) (w : z_w) (t : z_T) (n : Nat) (f : Nat → Int32) (x : Int32) (hw : w t = some (z_ia n f)) (hb : n < 2 ^ 31) : z_M G yX11_itemOf cX11_itemOf 2 (some .int) 1 (0) (0) [vr t, vi x] w (fun r w1 => r = some (vi (if ¬ x < 0 ∧ ¬ nI n ≤ x then f x.toNatClampNeg else 0)) ∧ w1 = w) := by
  refine z_met ym_X11_itemOf (by decide) ⟨Nat.le_of_ble_eq_true rfl, Nat.le_of_ble_eq_true rfl⟩ (fun X hG hn hmc hms hin h hr => ?_)
  have he := hr.2.2.2.2.2.1
  refine z_iload_n h dX11_itemOf_0 rfl ?_
  refine z_if_lt h dX11_itemOf_1 16 (by decide) (fun c_1 => ?_) (fun c_1 => ?_)
  · skip
    refine z_iconst (v := 0) h dX11_itemOf_16 (by decide) ?_
    exact z_iret h dX11_itemOf_17 hr (⟨z_e1 (if_neg (fun q => q.1 c_1)).symm, rfl⟩)
  · skip
    refine z_iload_n h dX11_itemOf_4 rfl ?_
    refine z_aload_n h dX11_itemOf_5 rfl ?_
    refine z_alen h dX11_itemOf_6 (by first | assumption | rfl | (repeat (first | exact z_set_self _ _ _ | assumption | refine z_skip rfl ?_))) (by decide) ?_
    refine z_icmp_ge h dX11_itemOf_7 16 (by decide) (fun c_2 => ?_) (fun c_2 => ?_)
    · skip
      refine z_iconst (v := 0) h dX11_itemOf_16 (by decide) ?_
      exact z_iret h dX11_itemOf_17 hr (⟨z_e1 (if_neg (fun q => q.2 c_2)).symm, rfl⟩)
    · skip
      refine z_aload_n h dX11_itemOf_10 rfl ?_
      refine z_iload_n h dX11_itemOf_11 rfl ?_
      refine z_iald h dX11_itemOf_12 (by first | assumption | rfl | (repeat (first | exact z_set_self _ _ _ | assumption | refine z_skip rfl ?_))) (z_ixc c_1 c_2 hb) ?_
      refine z_goto h dX11_itemOf_13 17 (by decide) ?_
      exact z_iret h dX11_itemOf_17 hr (⟨z_e1 (if_pos ⟨c_1, c_2⟩).symm, rfl⟩)
set_option maxHeartbeats 4000000 in
set_option maxRecDepth 100000 in
theorem m_J7_fill_53178 (G : z_G) (w : z_w) (t : z_T) (n : Nat) (f : Nat → Int32) (v : Int32) (hw : w t = some (z_ia n f)) (hb : n < 2 ^ 31) : z_M G yJ7_fill_53178 cJ7_fill_53178 4 none 1 (0) (0) [vr t, vi v] w (fun r w1 => r = none ∧ w1 = z_set w t (z_ia n (fun _ => v))) := by
  refine z_met ym_J7_fill_53178 (by decide) ⟨Nat.le_of_ble_eq_true rfl, Nat.le_of_ble_eq_true rfl⟩ (fun X hG hn hmc hms hin h hr => ?_)
  have he := hr.2.2.2.2.2.1
  refine z_iconst (v := 0) h dJ7_fill_53178_0 (by decide) ?_
  refine z_istore_n h dJ7_fill_53178_1 (by rw [hn]; decide) ?_
  refine z_aload_n h dJ7_fill_53178_2 rfl ?_
  refine z_alen h dJ7_fill_53178_3 (by first | assumption | rfl | (repeat (first | exact z_set_self _ _ _ | assumption | refine z_skip rfl ?_))) (by decide) ?_
  refine z_istore_n h dJ7_fill_53178_4 (by rw [hn]; decide) ?_
  have loop_5 : ∀ (n_ : Nat) (i : Nat) (w1 : z_w), i ≤ n → n + 1 ≤ i + n_ → w1 t = some (z_ia n (fun k => if k < i then v else f k)) → z_fr [t] w w1 → z_V X 0 0 w1 5 [(0, vr t), (1, vi v), (2, vi (nI i)), (3, vi (nI n))] [] := by
    intro n_
    induction n_ with
    | zero => intros; omega
    | succ n_ ih_5 =>
      intro i w1 hi hN hw1 hfr
      refine z_iload_n h dJ7_fill_53178_5 rfl ?_
      refine z_iload_n h dJ7_fill_53178_6 rfl ?_
      refine z_icmp_ge h dJ7_fill_53178_7 20 (by decide) (fun c_1 => ?_) (fun c_1 => ?_)
      · skip
        have e1 : n ≤ i := (nI_leI (by omega) (by omega)).mp c_1
        have e2 : i = n := by omega
        subst e2
        refine z_cong (g := fun _ => v) hw1 (fun j hj => by simp [hj]) ?_
        exact z_vret h dJ7_fill_53178_20 hr (⟨rfl, by
          funext q
          by_cases e : q = t
          · subst e; rw [z_set_self, z_set_self]
          · rw [z_set_ne e, z_set_ne e, hfr q (by simpa using e)]⟩)
      · skip
        have e1 : ¬ n ≤ i := fun q => c_1 ((nI_leI (by omega) (by omega)).mpr q)
        refine z_aload_n h dJ7_fill_53178_10 rfl ?_
        refine z_iload_n h dJ7_fill_53178_11 rfl ?_
        refine z_iload_n h dJ7_fill_53178_12 rfl ?_
        refine z_iast h dJ7_fill_53178_13 (by first | assumption | rfl | (repeat (first | exact z_set_self _ _ _ | assumption | refine z_skip rfl ?_))) (by first | assumption | exact z_ixn (by omega) (by omega)) ?_
        refine z_iinc (v := 1) h dJ7_fill_53178_14 rfl (by decide) (by rw [hn]; decide) ?_
        refine z_goto h dJ7_fill_53178_17 5 (by decide) ?_
        refine z_loc [(0, vr t), (1, vi v), (2, vi (nI (i + 1))), (3, vi (nI n))] ⟨rfl, rfl, congrArg (fun z => some (vi z)) (z_up i), rfl, trivial⟩ ?_
        exact ih_5 (i + 1) _ (by omega) (by omega) (by rw [z_set_self, z_upd_fill]) (hfr.set (by simp))
  exact z_loc [(0, vr t), (1, vi v), (2, vi 0), (3, vi (nI n))] ⟨rfl, rfl, rfl, rfl, trivial⟩ (loop_5 (n + 1) 0 w (by omega) (by omega) (by rw [hw]; simp) z_fr.rf)
set_option maxHeartbeats 4000000 in
set_option maxRecDepth 100000 in
theorem m_X0_setIron (G : z_G) (w : z_w) (b : Nat) (ds di le gr hes : Int32) (hw : w (18, b) = some (z_ob 0 [vr (19, b), vr (20, b), vi ds, vi di, vi le, vi gr, vi hes])) (x y : Int32) : z_M G yX0_setIron cX0_setIron 3 none 1 (0) (0) [vr (18, b), vi x, vi y] w (fun r w1 => r = none ∧ w1 = z_set w (18, b) (z_ob 0 [vr (19, b), vr (20, b), vi ds, vi di, vi x, vi y, vi hes])) := by
  refine z_met ym_X0_setIron (by decide) ⟨Nat.le_of_ble_eq_true rfl, Nat.le_of_ble_eq_true rfl⟩ (fun X hG hn hmc hms hin h hr => ?_)
  have he := hr.2.2.2.2.2.1
  refine z_aload_n h dX0_setIron_0 rfl ?_
  refine z_iload_n h dX0_setIron_1 rfl ?_
  refine z_put h dX0_setIron_2 he flX0_25 (by first | assumption | rfl | (repeat (first | exact z_set_self _ _ _ | assumption | refine z_skip rfl ?_))) (Nat.le_of_ble_eq_true rfl) (z_fit_i _) ?_
  refine z_aload_n h dX0_setIron_5 rfl ?_
  refine z_iload_n h dX0_setIron_6 rfl ?_
  refine z_put h dX0_setIron_7 he flX0_28 (by first | assumption | rfl | (repeat (first | exact z_set_self _ _ _ | assumption | refine z_skip rfl ?_))) (Nat.le_of_ble_eq_true rfl) (z_fit_i _) ?_
  exact z_vret h dX0_setIron_10 hr (by refine ⟨rfl, ?_⟩; simp only [z_set_set]; rfl)
set_option maxHeartbeats 4000000 in
set_option maxRecDepth 100000 in
theorem m_X0_heatOnce (G : z_G) (w : z_w) (b : Nat) (ds di le gr hes : Int32) (hw : w (18, b) = some (z_ob 0 [vr (19, b), vr (20, b), vi ds, vi di, vi le, vi gr, vi hes])) : z_M G yX0_heatOnce cX0_heatOnce 1 none 1 (0) (0) [vr (18, b)] w (fun r w1 => r = none ∧ w1 = z_set w (18, b) (z_ob 0 [vr (19, b), vr (20, b), vi ds, vi di, vi (le.toInt64 * 97 / 100).toInt32, vi ((gr.toInt64 * 99 + 99) / 100).toInt32, vi (hes + 1)])) := by
  refine z_met ym_X0_heatOnce (by decide) ⟨Nat.le_of_ble_eq_true rfl, Nat.le_of_ble_eq_true rfl⟩ (fun X hG hn hmc hms hin h hr => ?_)
  have he := hr.2.2.2.2.2.1
  refine z_aload_n h dX0_heatOnce_0 rfl ?_
  refine z_aload_n h dX0_heatOnce_1 rfl ?_
  refine z_get h dX0_heatOnce_2 flX0_25 (by first | assumption | rfl | (repeat (first | exact z_set_self _ _ _ | assumption | refine z_skip rfl ?_))) rfl ?_
  refine z_i2l h dX0_heatOnce_5 ?_
  refine z_ldc2 h dX0_heatOnce_6 klX0_31 ?_
  refine z_lmul h dX0_heatOnce_9 ?_
  refine z_ldc2 h dX0_heatOnce_10 klX0_33 ?_
  refine z_ldiv h dX0_heatOnce_13 (by first | assumption | decide) ?_
  refine z_l2i h dX0_heatOnce_14 ?_
  refine z_put h dX0_heatOnce_15 he flX0_25 (by first | assumption | rfl | (repeat (first | exact z_set_self _ _ _ | assumption | refine z_skip rfl ?_))) (Nat.le_of_ble_eq_true rfl) (z_fit_i _) ?_
  refine z_aload_n h dX0_heatOnce_18 rfl ?_
  refine z_aload_n h dX0_heatOnce_19 rfl ?_
  refine z_get h dX0_heatOnce_20 flX0_28 (by first | assumption | rfl | (repeat (first | exact z_set_self _ _ _ | assumption | refine z_skip rfl ?_))) rfl ?_
  refine z_i2l h dX0_heatOnce_23 ?_
  refine z_ldc2 h dX0_heatOnce_24 klX0_35 ?_
  refine z_lmul h dX0_heatOnce_27 ?_
  refine z_ldc2 h dX0_heatOnce_28 klX0_35 ?_
  refine z_ladd h dX0_heatOnce_31 ?_
  refine z_ldc2 h dX0_heatOnce_32 klX0_33 ?_
  refine z_ldiv h dX0_heatOnce_35 (by first | assumption | decide) ?_
  refine z_l2i h dX0_heatOnce_36 ?_
  refine z_put h dX0_heatOnce_37 he flX0_28 (by first | assumption | rfl | (repeat (first | exact z_set_self _ _ _ | assumption | refine z_skip rfl ?_))) (Nat.le_of_ble_eq_true rfl) (z_fit_i _) ?_
  refine z_aload_n h dX0_heatOnce_40 rfl ?_
  refine z_dup_r h dX0_heatOnce_41 ?_
  refine z_get h dX0_heatOnce_42 flX0_37 (by first | assumption | rfl | (repeat (first | exact z_set_self _ _ _ | assumption | refine z_skip rfl ?_))) rfl ?_
  refine z_iconst (v := 1) h dX0_heatOnce_45 (by decide) ?_
  refine z_iadd h dX0_heatOnce_46 ?_
  refine z_put h dX0_heatOnce_47 he flX0_37 (by first | assumption | rfl | (repeat (first | exact z_set_self _ _ _ | assumption | refine z_skip rfl ?_))) (Nat.le_of_ble_eq_true rfl) (z_fit_i _) ?_
  exact z_vret h dX0_heatOnce_50 hr (by refine ⟨rfl, ?_⟩; simp only [z_set_set]; rfl)
set_option maxHeartbeats 4000000 in
set_option maxRecDepth 100000 in
theorem m_X0_sortNow (G : z_G) (w : z_w) (b : Nat) (ds di le gr hes : Int32) (hw : w (18, b) = some (z_ob 0 [vr (19, b), vr (20, b), vi ds, vi di, vi le, vi gr, vi hes])) : z_M G yX0_sortNow cX0_sortNow 1 (some .int) 2 (0) (0) [vr (18, b)] w (fun r w1 => r = some (vi (if 0 < ds - hes / 2 then ds - hes / 2 else 0)) ∧ w1 = w) := by
  refine z_met ym_X0_sortNow (by decide) ⟨Nat.le_of_ble_eq_true rfl, Nat.le_of_ble_eq_true rfl⟩ (fun X hG hn hmc hms hin h hr => ?_)
  have he := hr.2.2.2.2.2.1
  refine z_iconst (v := 0) h dX0_sortNow_0 (by decide) ?_
  refine z_aload_n h dX0_sortNow_1 rfl ?_
  refine z_get h dX0_sortNow_2 flX0_18 (by first | assumption | rfl | (repeat (first | exact z_set_self _ _ _ | assumption | refine z_skip rfl ?_))) rfl ?_
  refine z_aload_n h dX0_sortNow_5 rfl ?_
  refine z_get h dX0_sortNow_6 flX0_37 (by first | assumption | rfl | (repeat (first | exact z_set_self _ _ _ | assumption | refine z_skip rfl ?_))) rfl ?_
  refine z_iconst (v := 2) h dX0_sortNow_9 (by decide) ?_
  refine z_idiv h dX0_sortNow_10 (by first | assumption | decide) ?_
  refine z_isub h dX0_sortNow_11 ?_
  refine z_max h dX0_sortNow_12 mlX0_40 sm_Mmax ic_Math co_Mmax (Nat.le_of_ble_eq_true rfl) ?_
  exact z_iret h dX0_sortNow_15 hr (⟨rfl, rfl⟩)
set_option maxHeartbeats 4000000 in
set_option maxRecDepth 100000 in
theorem m_X1_narrow (G : z_G) (w : z_w) (b : Nat) (ore gro res lo up ld : Int32) (hw : w (2, b) = some (z_ob 1 [vi ore, vi gro, vi res, vi lo, vi up, vi ld])) (a c : Int32) : z_M G yX1_narrow cX1_narrow 3 (some .boolean) 2 (0) (0) [vr (2, b), vi a, vi c] w (fun r w1 => if up < a ∨ c < lo then r = some (vi 0) ∧ w1 = w else r = some (vi 1) ∧ w1 = z_set w (2, b) (z_ob 1 [vi ore, vi gro, vi res, vi (if lo < a then a else lo), vi (if c < up then c else up), vi ld])) := by
  refine z_met ym_X1_narrow (by decide) ⟨Nat.le_of_ble_eq_true rfl, Nat.le_of_ble_eq_true rfl⟩ (fun X hG hn hmc hms hin h hr => ?_)
  have he := hr.2.2.2.2.2.1
  refine z_iload_n h dX1_narrow_0 rfl ?_
  refine z_aload_n h dX1_narrow_1 rfl ?_
  refine z_get h dX1_narrow_2 flX1_9 (by first | assumption | rfl | (repeat (first | exact z_set_self _ _ _ | assumption | refine z_skip rfl ?_))) rfl ?_
  refine z_icmp_gt h dX1_narrow_5 16 (by decide) (fun c_1 => ?_) (fun c_1 => ?_)
  · skip
    refine z_iconst (v := 0) h dX1_narrow_16 (by decide) ?_
    exact z_zret h dX1_narrow_17 hr rfl (z_t (Or.inl c_1) ⟨rfl, rfl⟩)
  · skip
    refine z_iload_n h dX1_narrow_8 rfl ?_
    refine z_aload_n h dX1_narrow_9 rfl ?_
    refine z_get h dX1_narrow_10 flX1_27 (by first | assumption | rfl | (repeat (first | exact z_set_self _ _ _ | assumption | refine z_skip rfl ?_))) rfl ?_
    refine z_icmp_ge h dX1_narrow_13 18 (by decide) (fun c_2 => ?_) (fun c_2 => ?_)
    · skip
      refine z_aload_n h dX1_narrow_18 rfl ?_
      refine z_aload_n h dX1_narrow_19 rfl ?_
      refine z_get h dX1_narrow_20 flX1_27 (by first | assumption | rfl | (repeat (first | exact z_set_self _ _ _ | assumption | refine z_skip rfl ?_))) rfl ?_
      refine z_iload_n h dX1_narrow_23 rfl ?_
      refine z_max h dX1_narrow_24 mlX1_30 sm_Mmax ic_Math co_Mmax (Nat.le_of_ble_eq_true rfl) ?_
      refine z_put h dX1_narrow_27 he flX1_27 (by first | assumption | rfl | (repeat (first | exact z_set_self _ _ _ | assumption | refine z_skip rfl ?_))) (Nat.le_of_ble_eq_true rfl) (z_fit_i _) ?_
      refine z_aload_n h dX1_narrow_30 rfl ?_
      refine z_aload_n h dX1_narrow_31 rfl ?_
      refine z_get h dX1_narrow_32 flX1_9 (by first | assumption | rfl | (repeat (first | exact z_set_self _ _ _ | assumption | refine z_skip rfl ?_))) rfl ?_
      refine z_iload_n h dX1_narrow_35 rfl ?_
      refine z_min h dX1_narrow_36 mlX1_36 sm_Mmin ic_Math co_Mmin (Nat.le_of_ble_eq_true rfl) ?_
      refine z_put h dX1_narrow_39 he flX1_9 (by first | assumption | rfl | (repeat (first | exact z_set_self _ _ _ | assumption | refine z_skip rfl ?_))) (Nat.le_of_ble_eq_true rfl) (z_fit_i _) ?_
      refine z_iconst (v := 1) h dX1_narrow_42 (by decide) ?_
      exact z_zret h dX1_narrow_43 hr rfl (z_f (fun q => q.elim c_1 (fun q => by simp only [z_lt, z_le, z_ie] at *; omega)) ⟨rfl, by simp only [z_set_set]; rfl⟩)
    · skip
      refine z_iconst (v := 0) h dX1_narrow_16 (by decide) ?_
      exact z_zret h dX1_narrow_17 hr rfl (z_t (Or.inr (by simp only [z_lt, z_le, z_ie] at *; omega)) ⟨rfl, rfl⟩)
set_option maxHeartbeats 4000000 in
set_option maxRecDepth 100000 in
theorem m_X1_restsIn (G : z_G) (w : z_w) (b : Nat) (ore gro res lo up ld : Int32) (hw : w (2, b) = some (z_ob 1 [vi ore, vi gro, vi res, vi lo, vi up, vi ld])) (y : Int32) : z_M G yX1_restsIn cX1_restsIn 2 (some .boolean) 1 (0) (0) [vr (2, b), vi y] w (fun r w1 => r = some (vi (z_b (¬ ld = -1 ∧ ¬ ld = y ∧ y - ld < res))) ∧ w1 = w) := by
  refine z_met ym_X1_restsIn (by decide) ⟨Nat.le_of_ble_eq_true rfl, Nat.le_of_ble_eq_true rfl⟩ (fun X hG hn hmc hms hin h hr => ?_)
  have he := hr.2.2.2.2.2.1
  refine z_aload_n h dX1_restsIn_0 rfl ?_
  refine z_get h dX1_restsIn_1 flX1_15 (by first | assumption | rfl | (repeat (first | exact z_set_self _ _ _ | assumption | refine z_skip rfl ?_))) rfl ?_
  refine z_iconst (v := -1) h dX1_restsIn_4 (by decide) ?_
  refine z_icmp_eq h dX1_restsIn_5 33 (by decide) (fun c_1 => ?_) (fun c_1 => ?_)
  · skip
    refine z_iconst (v := 0) h dX1_restsIn_33 (by decide) ?_
    exact z_zret h dX1_restsIn_34 hr rfl (⟨z_ret0 (fun q => q.1 c_1), rfl⟩)
  · skip
    refine z_aload_n h dX1_restsIn_8 rfl ?_
    refine z_get h dX1_restsIn_9 flX1_15 (by first | assumption | rfl | (repeat (first | exact z_set_self _ _ _ | assumption | refine z_skip rfl ?_))) rfl ?_
    refine z_iload_n h dX1_restsIn_12 rfl ?_
    refine z_icmp_eq h dX1_restsIn_13 33 (by decide) (fun c_2 => ?_) (fun c_2 => ?_)
    · skip
      refine z_iconst (v := 0) h dX1_restsIn_33 (by decide) ?_
      exact z_zret h dX1_restsIn_34 hr rfl (⟨z_ret0 (fun q => q.2.1 c_2), rfl⟩)
    · skip
      refine z_iload_n h dX1_restsIn_16 rfl ?_
      refine z_aload_n h dX1_restsIn_17 rfl ?_
      refine z_get h dX1_restsIn_18 flX1_15 (by first | assumption | rfl | (repeat (first | exact z_set_self _ _ _ | assumption | refine z_skip rfl ?_))) rfl ?_
      refine z_isub h dX1_restsIn_21 ?_
      refine z_aload_n h dX1_restsIn_22 rfl ?_
      refine z_get h dX1_restsIn_23 flX1_24 (by first | assumption | rfl | (repeat (first | exact z_set_self _ _ _ | assumption | refine z_skip rfl ?_))) rfl ?_
      refine z_icmp_ge h dX1_restsIn_26 33 (by decide) (fun c_3 => ?_) (fun c_3 => ?_)
      · skip
        refine z_iconst (v := 0) h dX1_restsIn_33 (by decide) ?_
        exact z_zret h dX1_restsIn_34 hr rfl (⟨z_ret0 (fun q => by have q3 := q.2.2; clear c_1 c_2 q; simp only [z_lt, z_le, z_ie] at *; omega), rfl⟩)
      · skip
        refine z_iconst (v := 1) h dX1_restsIn_29 (by decide) ?_
        refine z_goto h dX1_restsIn_30 34 (by decide) ?_
        exact z_zret h dX1_restsIn_34 hr rfl (⟨z_ret1 ⟨c_1, c_2, by clear c_1 c_2; simp only [z_lt, z_le, z_ie] at *; omega⟩, rfl⟩)
set_option maxHeartbeats 4000000 in
set_option maxRecDepth 100000 in
theorem m_X1_grow (G : z_G) (w : z_w) (b : Nat) (ore gro res lo up ld : Int32) (hw : w (2, b) = some (z_ob 1 [vi ore, vi gro, vi res, vi lo, vi up, vi ld])) : z_M G yX1_grow cX1_grow 1 none 2 (0) (0) [vr (2, b)] w (fun r w1 => r = none ∧ w1 = z_set w (2, b) (z_ob 1 [vi (if ore + gro < 100000 then ore + gro else 100000), vi gro, vi res, vi lo, vi up, vi ld])) := by
  refine z_met ym_X1_grow (by decide) ⟨Nat.le_of_ble_eq_true rfl, Nat.le_of_ble_eq_true rfl⟩ (fun X hG hn hmc hms hin h hr => ?_)
  have he := hr.2.2.2.2.2.1
  refine z_aload_n h dX1_grow_0 rfl ?_
  refine z_ldc h dX1_grow_1 kcX1_39 ?_
  refine z_aload_n h dX1_grow_3 rfl ?_
  refine z_get h dX1_grow_4 flX1_18 (by first | assumption | rfl | (repeat (first | exact z_set_self _ _ _ | assumption | refine z_skip rfl ?_))) rfl ?_
  refine z_aload_n h dX1_grow_7 rfl ?_
  refine z_get h dX1_grow_8 flX1_21 (by first | assumption | rfl | (repeat (first | exact z_set_self _ _ _ | assumption | refine z_skip rfl ?_))) rfl ?_
  refine z_iadd h dX1_grow_11 ?_
  refine z_min h dX1_grow_12 mlX1_36 sm_Mmin ic_Math co_Mmin (Nat.le_of_ble_eq_true rfl) ?_
  refine z_put h dX1_grow_15 he flX1_18 (by first | assumption | rfl | (repeat (first | exact z_set_self _ _ _ | assumption | refine z_skip rfl ?_))) (Nat.le_of_ble_eq_true rfl) (z_fit_i _) ?_
  exact z_vret h dX1_grow_18 hr (⟨rfl, rfl⟩)
set_option maxHeartbeats 4000000 in
set_option maxRecDepth 100000 in
theorem m_X10_addOre (G : z_G) (w : z_w) (b : Nat) (f : Nat → Int32) (k : Int32) (hb : b < 12) (h3 : w (3, 0) = some (z_ob 10 [vr (4, 0), vr (5, 0)])) (h4 : w (4, 0) = some (z_ia 12 f)) : z_M G yX10_addOre cX10_addOre 3 (some .int) 1 (0) (0) [vr (3, 0), vi (nI b), vi k] w (fun r w1 => r = some (vi (f b + k)) ∧ w1 = z_set w (4, 0) (z_ia 12 (upd f b (f b + k)))) := by
  refine z_met ym_X10_addOre (by decide) ⟨Nat.le_of_ble_eq_true rfl, Nat.le_of_ble_eq_true rfl⟩ (fun X hG hn hmc hms hin h hr => ?_)
  have he := hr.2.2.2.2.2.1
  refine z_iload_n h dX10_addOre_0 rfl ?_
  refine z_if_lt h dX10_addOre_1 13 (by decide) (fun c_1 => ?_) (fun c_1 => ?_)
  · skip
    exact absurd c_1 (nI_pos (by omega))
  · skip
    refine z_iload_n h dX10_addOre_4 rfl ?_
    refine z_aload_n h dX10_addOre_5 rfl ?_
    refine z_get h dX10_addOre_6 flX10_9 (by first | assumption | rfl | (repeat (first | exact z_set_self _ _ _ | assumption | refine z_skip rfl ?_))) rfl ?_
    refine z_alen h dX10_addOre_9 (by first | assumption | rfl | (repeat (first | exact z_set_self _ _ _ | assumption | refine z_skip rfl ?_))) (by decide) ?_
    refine z_icmp_lt h dX10_addOre_10 15 (by decide) (fun c_2 => ?_) (fun c_2 => ?_)
    · skip
      refine z_aload_n h dX10_addOre_15 rfl ?_
      refine z_get h dX10_addOre_16 flX10_9 (by first | assumption | rfl | (repeat (first | exact z_set_self _ _ _ | assumption | refine z_skip rfl ?_))) rfl ?_
      refine z_iload_n h dX10_addOre_19 rfl ?_
      refine z_dup2_ir h dX10_addOre_20 ?_
      refine z_iald h dX10_addOre_21 (by first | assumption | rfl | (repeat (first | exact z_set_self _ _ _ | assumption | refine z_skip rfl ?_))) (by first | assumption | exact z_ixn (by omega) (by omega)) ?_
      refine z_iload_n h dX10_addOre_22 rfl ?_
      refine z_iadd h dX10_addOre_23 ?_
      refine z_iast h dX10_addOre_24 (by first | assumption | rfl | (repeat (first | exact z_set_self _ _ _ | assumption | refine z_skip rfl ?_))) (by first | assumption | exact z_ixn (by omega) (by omega)) ?_
      refine z_aload_n h dX10_addOre_25 rfl ?_
      refine z_get h dX10_addOre_26 flX10_9 (by first | assumption | rfl | (repeat (first | exact z_set_self _ _ _ | assumption | refine z_skip rfl ?_))) rfl ?_
      refine z_iload_n h dX10_addOre_29 rfl ?_
      refine z_iald h dX10_addOre_30 (by first | assumption | rfl | (repeat (first | exact z_set_self _ _ _ | assumption | refine z_skip rfl ?_))) (by first | assumption | exact z_ixn (by omega) (by omega)) ?_
      exact z_iret h dX10_addOre_31 hr (⟨z_e1 pk_us, rfl⟩)
    · skip
      exact absurd (nI_lt hb (by omega)) c_2
set_option maxHeartbeats 4000000 in
set_option maxRecDepth 100000 in
theorem m_X10_addCoal (G : z_G) (w : z_w) (f : Nat → Int32) (x k : Int32) (h3 : w (3, 0) = some (z_ob 10 [vr (4, 0), vr (5, 0)])) (h5 : w (5, 0) = some (z_ia 8 f)) : z_M G yX10_addCoal cX10_addCoal 3 (some .int) 1 (0) (0) [vr (3, 0), vi x, vi k] w (fun r w1 => if (¬ x < 0 ∧ ¬ nI 8 ≤ x) ∧ f x.toNatClampNeg + k ≤ 1000000 then r = some (vi (f x.toNatClampNeg + k)) ∧ w1 = z_set w (5, 0) (z_ia 8 (upd f x.toNatClampNeg (f x.toNatClampNeg + k))) else r = some (vi (-1)) ∧ w1 = w) := by
  refine z_met ym_X10_addCoal (by decide) ⟨Nat.le_of_ble_eq_true rfl, Nat.le_of_ble_eq_true rfl⟩ (fun X hG hn hmc hms hin h hr => ?_)
  have he := hr.2.2.2.2.2.1
  refine z_iload_n h dX10_addCoal_0 rfl ?_
  refine z_if_lt h dX10_addCoal_1 26 (by decide) (fun c_1 => ?_) (fun c_1 => ?_)
  · skip
    refine z_iconst (v := -1) h dX10_addCoal_26 (by decide) ?_
    exact z_iret h dX10_addCoal_27 hr (z_f (fun q => q.1.1 c_1) ⟨rfl, rfl⟩)
  · skip
    refine z_iload_n h dX10_addCoal_4 rfl ?_
    refine z_aload_n h dX10_addCoal_5 rfl ?_
    refine z_get h dX10_addCoal_6 flX10_15 (by first | assumption | rfl | (repeat (first | exact z_set_self _ _ _ | assumption | refine z_skip rfl ?_))) rfl ?_
    refine z_alen h dX10_addCoal_9 (by first | assumption | rfl | (repeat (first | exact z_set_self _ _ _ | assumption | refine z_skip rfl ?_))) (by decide) ?_
    refine z_icmp_ge h dX10_addCoal_10 26 (by decide) (fun c_2 => ?_) (fun c_2 => ?_)
    · skip
      refine z_iconst (v := -1) h dX10_addCoal_26 (by decide) ?_
      exact z_iret h dX10_addCoal_27 hr (z_f (fun q => q.1.2 c_2) ⟨rfl, rfl⟩)
    · skip
      refine z_aload_n h dX10_addCoal_13 rfl ?_
      refine z_get h dX10_addCoal_14 flX10_15 (by first | assumption | rfl | (repeat (first | exact z_set_self _ _ _ | assumption | refine z_skip rfl ?_))) rfl ?_
      refine z_iload_n h dX10_addCoal_17 rfl ?_
      refine z_iald h dX10_addCoal_18 (by first | assumption | rfl | (repeat (first | exact z_set_self _ _ _ | assumption | refine z_skip rfl ?_))) (z_ixc c_1 c_2 (by decide)) ?_
      refine z_iload_n h dX10_addCoal_19 rfl ?_
      refine z_iadd h dX10_addCoal_20 ?_
      refine z_ldc h dX10_addCoal_21 kcX10_18 ?_
      refine z_icmp_le h dX10_addCoal_23 28 (by decide) (fun c_3 => ?_) (fun c_3 => ?_)
      · skip
        refine z_aload_n h dX10_addCoal_28 rfl ?_
        refine z_get h dX10_addCoal_29 flX10_15 (by first | assumption | rfl | (repeat (first | exact z_set_self _ _ _ | assumption | refine z_skip rfl ?_))) rfl ?_
        refine z_iload_n h dX10_addCoal_32 rfl ?_
        refine z_dup2_ir h dX10_addCoal_33 ?_
        refine z_iald h dX10_addCoal_34 (by first | assumption | rfl | (repeat (first | exact z_set_self _ _ _ | assumption | refine z_skip rfl ?_))) (z_ixc c_1 c_2 (by decide)) ?_
        refine z_iload_n h dX10_addCoal_35 rfl ?_
        refine z_iadd h dX10_addCoal_36 ?_
        refine z_iast h dX10_addCoal_37 (by first | assumption | rfl | (repeat (first | exact z_set_self _ _ _ | assumption | refine z_skip rfl ?_))) (z_ixc c_1 c_2 (by decide)) ?_
        refine z_aload_n h dX10_addCoal_38 rfl ?_
        refine z_get h dX10_addCoal_39 flX10_15 (by first | assumption | rfl | (repeat (first | exact z_set_self _ _ _ | assumption | refine z_skip rfl ?_))) rfl ?_
        refine z_iload_n h dX10_addCoal_42 rfl ?_
        refine z_iald h dX10_addCoal_43 (by first | assumption | rfl | (repeat (first | exact z_set_self _ _ _ | assumption | refine z_skip rfl ?_))) (z_ixc c_1 c_2 (by decide)) ?_
        exact z_iret h dX10_addCoal_44 hr (z_t ⟨⟨c_1, c_2⟩, c_3⟩ ⟨z_e1 pk_us, rfl⟩)
      · skip
        refine z_iconst (v := -1) h dX10_addCoal_26 (by decide) ?_
        exact z_iret h dX10_addCoal_27 hr (z_f (fun q => c_3 q.2) ⟨rfl, rfl⟩)
set_option maxHeartbeats 4000000 in
set_option maxRecDepth 100000 in
theorem m_X9_isLetter (G : z_G) (w : z_w) (x : Int32) : z_M G yX9_isLetter cX9_isLetter 1 (some .boolean) 1 (0) (0) [vi x] w (fun r w1 => r = some (vi (z_b (x = 104 ∨ x = 109 ∨ x = 99 ∨ x = 111))) ∧ w1 = w) := by
  refine z_met ym_X9_isLetter (by decide) ⟨Nat.le_of_ble_eq_true rfl, Nat.le_of_ble_eq_true rfl⟩ (fun X hG hn hmc hms hin h hr => ?_)
  have he := hr.2.2.2.2.2.1
  refine z_iload_n h dX9_isLetter_0 rfl ?_
  refine z_bipush (v := 104) h dX9_isLetter_1 (by decide) ?_
  refine z_icmp_eq h dX9_isLetter_3 24 (by decide) (fun c_1 => ?_) (fun c_1 => ?_)
  · skip
    refine z_iconst (v := 1) h dX9_isLetter_24 (by decide) ?_
    refine z_goto h dX9_isLetter_25 29 (by decide) ?_
    exact z_zret h dX9_isLetter_29 hr rfl (by first | exact ⟨z_ret1 (by simp_all), rfl⟩ | exact ⟨z_ret0 (by simp_all), rfl⟩)
  · skip
    refine z_iload_n h dX9_isLetter_6 rfl ?_
    refine z_bipush (v := 109) h dX9_isLetter_7 (by decide) ?_
    refine z_icmp_eq h dX9_isLetter_9 24 (by decide) (fun c_2 => ?_) (fun c_2 => ?_)
    · skip
      refine z_iconst (v := 1) h dX9_isLetter_24 (by decide) ?_
      refine z_goto h dX9_isLetter_25 29 (by decide) ?_
      exact z_zret h dX9_isLetter_29 hr rfl (by first | exact ⟨z_ret1 (by simp_all), rfl⟩ | exact ⟨z_ret0 (by simp_all), rfl⟩)
    · skip
      refine z_iload_n h dX9_isLetter_12 rfl ?_
      refine z_bipush (v := 99) h dX9_isLetter_13 (by decide) ?_
      refine z_icmp_eq h dX9_isLetter_15 24 (by decide) (fun c_3 => ?_) (fun c_3 => ?_)
      · skip
        refine z_iconst (v := 1) h dX9_isLetter_24 (by decide) ?_
        refine z_goto h dX9_isLetter_25 29 (by decide) ?_
        exact z_zret h dX9_isLetter_29 hr rfl (by first | exact ⟨z_ret1 (by simp_all), rfl⟩ | exact ⟨z_ret0 (by simp_all), rfl⟩)
      · skip
        refine z_iload_n h dX9_isLetter_18 rfl ?_
        refine z_bipush (v := 111) h dX9_isLetter_19 (by decide) ?_
        refine z_icmp_ne h dX9_isLetter_21 28 (by decide) (fun c_4 => ?_) (fun c_4 => ?_)
        · skip
          refine z_iconst (v := 0) h dX9_isLetter_28 (by decide) ?_
          exact z_zret h dX9_isLetter_29 hr rfl (by first | exact ⟨z_ret1 (by simp_all), rfl⟩ | exact ⟨z_ret0 (by simp_all), rfl⟩)
        · skip
          refine z_iconst (v := 1) h dX9_isLetter_24 (by decide) ?_
          refine z_goto h dX9_isLetter_25 29 (by decide) ?_
          exact z_zret h dX9_isLetter_29 hr rfl (by first | exact ⟨z_ret1 (by simp_all), rfl⟩ | exact ⟨z_ret0 (by simp_all), rfl⟩)
set_option maxHeartbeats 4000000 in
set_option maxRecDepth 100000 in
theorem m_X9_isSign (G : z_G) (w : z_w) (x : Int32) : z_M G yX9_isSign cX9_isSign 1 (some .boolean) 1 (0) (0) [vi x] w (fun r w1 => r = some (vi (z_b (x = 61 ∨ x = 60 ∨ x = 62))) ∧ w1 = w) := by
  refine z_met ym_X9_isSign (by decide) ⟨Nat.le_of_ble_eq_true rfl, Nat.le_of_ble_eq_true rfl⟩ (fun X hG hn hmc hms hin h hr => ?_)
  have he := hr.2.2.2.2.2.1
  refine z_iload_n h dX9_isSign_0 rfl ?_
  refine z_bipush (v := 61) h dX9_isSign_1 (by decide) ?_
  refine z_icmp_eq h dX9_isSign_3 18 (by decide) (fun c_1 => ?_) (fun c_1 => ?_)
  · skip
    refine z_iconst (v := 1) h dX9_isSign_18 (by decide) ?_
    refine z_goto h dX9_isSign_19 23 (by decide) ?_
    exact z_zret h dX9_isSign_23 hr rfl (by first | exact ⟨z_ret1 (by simp_all), rfl⟩ | exact ⟨z_ret0 (by simp_all), rfl⟩)
  · skip
    refine z_iload_n h dX9_isSign_6 rfl ?_
    refine z_bipush (v := 60) h dX9_isSign_7 (by decide) ?_
    refine z_icmp_eq h dX9_isSign_9 18 (by decide) (fun c_2 => ?_) (fun c_2 => ?_)
    · skip
      refine z_iconst (v := 1) h dX9_isSign_18 (by decide) ?_
      refine z_goto h dX9_isSign_19 23 (by decide) ?_
      exact z_zret h dX9_isSign_23 hr rfl (by first | exact ⟨z_ret1 (by simp_all), rfl⟩ | exact ⟨z_ret0 (by simp_all), rfl⟩)
    · skip
      refine z_iload_n h dX9_isSign_12 rfl ?_
      refine z_bipush (v := 62) h dX9_isSign_13 (by decide) ?_
      refine z_icmp_ne h dX9_isSign_15 22 (by decide) (fun c_3 => ?_) (fun c_3 => ?_)
      · skip
        refine z_iconst (v := 0) h dX9_isSign_22 (by decide) ?_
        exact z_zret h dX9_isSign_23 hr rfl (by first | exact ⟨z_ret1 (by simp_all), rfl⟩ | exact ⟨z_ret0 (by simp_all), rfl⟩)
      · skip
        refine z_iconst (v := 1) h dX9_isSign_18 (by decide) ?_
        refine z_goto h dX9_isSign_19 23 (by decide) ?_
        exact z_zret h dX9_isSign_23 hr rfl (by first | exact ⟨z_ret1 (by simp_all), rfl⟩ | exact ⟨z_ret0 (by simp_all), rfl⟩)
set_option maxHeartbeats 4000000 in
set_option maxRecDepth 100000 in
theorem m_X9_isDigit (G : z_G) (w : z_w) (x : Int32) : z_M G yX9_isDigit cX9_isDigit 1 (some .boolean) 1 (0) (0) [vi x] w (fun r w1 => r = some (vi (z_b (48 ≤ x ∧ x ≤ 57))) ∧ w1 = w) := by
  refine z_met ym_X9_isDigit (by decide) ⟨Nat.le_of_ble_eq_true rfl, Nat.le_of_ble_eq_true rfl⟩ (fun X hG hn hmc hms hin h hr => ?_)
  have he := hr.2.2.2.2.2.1
  refine z_iload_n h dX9_isDigit_0 rfl ?_
  refine z_bipush (v := 48) h dX9_isDigit_1 (by decide) ?_
  refine z_icmp_lt h dX9_isDigit_3 16 (by decide) (fun c_1 => ?_) (fun c_1 => ?_)
  · skip
    refine z_iconst (v := 0) h dX9_isDigit_16 (by decide) ?_
    exact z_zret h dX9_isDigit_17 hr rfl (by first | exact ⟨z_ret1 (by simp only [z_lt, z_le, z_ie] at *; omega), rfl⟩ | exact ⟨z_ret0 (by simp only [z_lt, z_le, z_ie] at *; omega), rfl⟩)
  · skip
    refine z_iload_n h dX9_isDigit_6 rfl ?_
    refine z_bipush (v := 57) h dX9_isDigit_7 (by decide) ?_
    refine z_icmp_gt h dX9_isDigit_9 16 (by decide) (fun c_2 => ?_) (fun c_2 => ?_)
    · skip
      refine z_iconst (v := 0) h dX9_isDigit_16 (by decide) ?_
      exact z_zret h dX9_isDigit_17 hr rfl (by first | exact ⟨z_ret1 (by simp only [z_lt, z_le, z_ie] at *; omega), rfl⟩ | exact ⟨z_ret0 (by simp only [z_lt, z_le, z_ie] at *; omega), rfl⟩)
    · skip
      refine z_iconst (v := 1) h dX9_isDigit_12 (by decide) ?_
      refine z_goto h dX9_isDigit_13 17 (by decide) ?_
      exact z_zret h dX9_isDigit_17 hr rfl (by first | exact ⟨z_ret1 (by simp only [z_lt, z_le, z_ie] at *; omega), rfl⟩ | exact ⟨z_ret0 (by simp only [z_lt, z_le, z_ie] at *; omega), rfl⟩)
set_option maxHeartbeats 4000000 in
set_option maxRecDepth 100000 in
theorem m_X12_isDigit (G : z_G) (w : z_w) (x : Int32) : z_M G yX12_isDigit cX12_isDigit 1 (some .boolean) 1 (0) (0) [vi x] w (fun r w1 => r = some (vi (z_b (48 ≤ x ∧ x ≤ 57))) ∧ w1 = w) := by
  refine z_met ym_X12_isDigit (by decide) ⟨Nat.le_of_ble_eq_true rfl, Nat.le_of_ble_eq_true rfl⟩ (fun X hG hn hmc hms hin h hr => ?_)
  have he := hr.2.2.2.2.2.1
  refine z_iload_n h dX12_isDigit_0 rfl ?_
  refine z_bipush (v := 48) h dX12_isDigit_1 (by decide) ?_
  refine z_icmp_lt h dX12_isDigit_3 16 (by decide) (fun c_1 => ?_) (fun c_1 => ?_)
  · skip
    refine z_iconst (v := 0) h dX12_isDigit_16 (by decide) ?_
    exact z_zret h dX12_isDigit_17 hr rfl (by first | exact ⟨z_ret1 (by simp only [z_lt, z_le, z_ie] at *; omega), rfl⟩ | exact ⟨z_ret0 (by simp only [z_lt, z_le, z_ie] at *; omega), rfl⟩)
  · skip
    refine z_iload_n h dX12_isDigit_6 rfl ?_
    refine z_bipush (v := 57) h dX12_isDigit_7 (by decide) ?_
    refine z_icmp_gt h dX12_isDigit_9 16 (by decide) (fun c_2 => ?_) (fun c_2 => ?_)
    · skip
      refine z_iconst (v := 0) h dX12_isDigit_16 (by decide) ?_
      exact z_zret h dX12_isDigit_17 hr rfl (by first | exact ⟨z_ret1 (by simp only [z_lt, z_le, z_ie] at *; omega), rfl⟩ | exact ⟨z_ret0 (by simp only [z_lt, z_le, z_ie] at *; omega), rfl⟩)
    · skip
      refine z_iconst (v := 1) h dX12_isDigit_12 (by decide) ?_
      refine z_goto h dX12_isDigit_13 17 (by decide) ?_
      exact z_zret h dX12_isDigit_17 hr rfl (by first | exact ⟨z_ret1 (by simp only [z_lt, z_le, z_ie] at *; omega), rfl⟩ | exact ⟨z_ret0 (by simp only [z_lt, z_le, z_ie] at *; omega), rfl⟩)
