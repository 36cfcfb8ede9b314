/-! the reference: a year -/
def my_g (c : r_c) (j : Nat) : Int32 := if c (108, 0) j + c (109, 0) j < 100000 then c (108, 0) j + c (109, 0) j else 100000
def my_c (c : r_c) (i : Nat) : r_c := r_cf c (108, 0) (fun j => if j < i then my_g c j else c (108, 0) j)
theorem my_c0 (c : r_c) : my_c c 0 = c := by
  unfold my_c
  rw [show (fun j => if j < 0 then my_g c j else c (108, 0) j) = c (108, 0) from by funext j; simp, r_cf_same]
theorem my_cs (c : r_c) (i : Nat) : r_cs (my_c c i) (108, 0) i (my_g c i) = my_c c (i + 1) := by
  unfold my_c
  rw [r_cs, r_cf_self, r_cf_cf]
  congr 1
  funext j
  simp only [upd]
  by_cases e : j = i
  · subst e; simp
  · by_cases h : j < i
    · simp [e, h, Nat.lt_succ_of_lt h]
    · simp [e, h, show ¬ j < i + 1 by omega]
theorem my_ne {c : r_c} {i : Nat} {t : z_T} (h : t ≠ (108, 0)) : my_c c i t = c t := by unfold my_c; rw [r_cf_ne h]
set_option maxHeartbeats 4000000 in
set_option maxRecDepth 100000 in
theorem m_X12_year (G : z_G) {g : Nat} {w0 w : z_w} {c : r_c} {l : r_l} {r : r_r} (hR : r_p dM (TM g) w0 c l r w) (nb : Nat) (hc1 : c (100, 0) 1 = nI nb) (hnb : nb ≤ 12) : z_M G yX12_year cX12_year 2 (some .int) 2 (0) (0) [vr (100, 0)] w (fun q w1 => if ¬ c (100, 0) 0 = 100 ∧ ¬ 0 < z_sum (c (119, 0)) 12 ∧ ¬ c (100, 0) 22 < z_sum (c (120, 0)) 8 ∧ ¬ 0 < z_sum (c (121, 0)) 12 then q = some (vi (c (100, 0) 0 + 1)) ∧ r_p dM (TM g) w0 (r_cs (my_c c nb) (100, 0) 0 (c (100, 0) 0 + 1)) (l) (r) w1 else q = some (vi (-1)) ∧ w1 = w) := by
  refine z_met ym_X12_year (by decide) ⟨Nat.le_of_ble_eq_true rfl, Nat.le_of_ble_eq_true rfl⟩ (fun X hG hn hmc hms hin h hr => ?_)
  have he := hr.2.2.2.2.2.1
  refine z_aload_n h dX12_year_0 rfl ?_
  refine y_geti h dX12_year_1 hR flX12_191 (by first | assumption | exact Nat.le_of_ble_eq_true rfl) (by first | rfl | assumption | exact tx_2 (by first | assumption | omega) | exact tx_18 (by first | assumption | omega) | exact tx_19 (by first | assumption | omega) | exact tx_20 (by first | assumption | omega) | exact tx_27 (by first | assumption | omega) | exact tx_28 (by first | assumption | omega) | exact tx_30 (by first | assumption | omega) | exact tx_31 (by first | assumption | omega) | exact tx_32 (by first | assumption | omega) | exact tx_33 (by first | assumption | omega)) (by rfl) ?_
  refine z_bipush (v := 100) h dX12_year_4 (by decide) ?_
  refine z_icmp_eq h dX12_year_6 43 (by decide) (fun c_1 => ?_) (fun c_1 => ?_)
  · skip
    refine z_iconst (v := -1) h dX12_year_43 (by decide) ?_
    exact z_iret h dX12_year_44 hr (z_f (fun q => q.1 c_1) ⟨rfl, rfl⟩)
  · skip
    refine z_aload_n h dX12_year_9 rfl ?_
    refine y_getr h dX12_year_10 hR flX12_45 (by first | assumption | exact Nat.le_of_ble_eq_true rfl) (by first | rfl | assumption | exact tx_2 (by first | assumption | omega) | exact tx_18 (by first | assumption | omega) | exact tx_19 (by first | assumption | omega) | exact tx_20 (by first | assumption | omega) | exact tx_27 (by first | assumption | omega) | exact tx_28 (by first | assumption | omega) | exact tx_30 (by first | assumption | omega) | exact tx_31 (by first | assumption | omega) | exact tx_32 (by first | assumption | omega) | exact tx_33 (by first | assumption | omega)) (by rfl) ?_
    refine z_callS h dX12_year_13 (fun _ _ q => z_okv_no he q) (fun _ _ _ t q => absurd q (he t)) (m_X12_sum _ _ (119, 0) 12 (c (119, 0)) (hR.ia (Nat.le_of_ble_eq_true rfl) rfl) (by decide)) ym_X12_sum mlX12_195 sm_X12_sum rfl (by decide) (Nat.le_of_ble_eq_true rfl) ?_
    rintro q1 w1 ⟨rfl, hw1⟩
    have hw1 := hw1.symm; subst hw1
    refine z_if_gt h dX12_year_16 43 (by decide) (fun c_2 => ?_) (fun c_2 => ?_)
    · skip
      refine z_iconst (v := -1) h dX12_year_43 (by decide) ?_
      exact z_iret h dX12_year_44 hr (z_f (fun q => q.2.1 c_2) ⟨rfl, rfl⟩)
    · skip
      refine z_aload_n h dX12_year_19 rfl ?_
      refine y_getr h dX12_year_20 hR flX12_48 (by first | assumption | exact Nat.le_of_ble_eq_true rfl) (by first | rfl | assumption | exact tx_2 (by first | assumption | omega) | exact tx_18 (by first | assumption | omega) | exact tx_19 (by first | assumption | omega) | exact tx_20 (by first | assumption | omega) | exact tx_27 (by first | assumption | omega) | exact tx_28 (by first | assumption | omega) | exact tx_30 (by first | assumption | omega) | exact tx_31 (by first | assumption | omega) | exact tx_32 (by first | assumption | omega) | exact tx_33 (by first | assumption | omega)) (by rfl) ?_
      refine z_callS h dX12_year_23 (fun _ _ q => z_okv_no he q) (fun _ _ _ t q => absurd q (he t)) (m_X12_sum _ _ (120, 0) 8 (c (120, 0)) (hR.ia (Nat.le_of_ble_eq_true rfl) rfl) (by decide)) ym_X12_sum mlX12_195 sm_X12_sum rfl (by decide) (Nat.le_of_ble_eq_true rfl) ?_
      rintro q1 w1 ⟨rfl, hw1⟩
      have hw1 := hw1.symm; subst hw1
      refine z_aload_n h dX12_year_26 rfl ?_
      refine y_geti h dX12_year_27 hR flX12_199 (by first | assumption | exact Nat.le_of_ble_eq_true rfl) (by first | rfl | assumption | exact tx_2 (by first | assumption | omega) | exact tx_18 (by first | assumption | omega) | exact tx_19 (by first | assumption | omega) | exact tx_20 (by first | assumption | omega) | exact tx_27 (by first | assumption | omega) | exact tx_28 (by first | assumption | omega) | exact tx_30 (by first | assumption | omega) | exact tx_31 (by first | assumption | omega) | exact tx_32 (by first | assumption | omega) | exact tx_33 (by first | assumption | omega)) (by rfl) ?_
      refine z_icmp_gt h dX12_year_30 43 (by decide) (fun c_3 => ?_) (fun c_3 => ?_)
      · skip
        refine z_iconst (v := -1) h dX12_year_43 (by decide) ?_
        exact z_iret h dX12_year_44 hr (z_f (fun q => q.2.2.1 c_3) ⟨rfl, rfl⟩)
      · skip
        refine z_aload_n h dX12_year_33 rfl ?_
        refine y_getr h dX12_year_34 hR flX12_51 (by first | assumption | exact Nat.le_of_ble_eq_true rfl) (by first | rfl | assumption | exact tx_2 (by first | assumption | omega) | exact tx_18 (by first | assumption | omega) | exact tx_19 (by first | assumption | omega) | exact tx_20 (by first | assumption | omega) | exact tx_27 (by first | assumption | omega) | exact tx_28 (by first | assumption | omega) | exact tx_30 (by first | assumption | omega) | exact tx_31 (by first | assumption | omega) | exact tx_32 (by first | assumption | omega) | exact tx_33 (by first | assumption | omega)) (by rfl) ?_
        refine z_callS h dX12_year_37 (fun _ _ q => z_okv_no he q) (fun _ _ _ t q => absurd q (he t)) (m_X12_sum _ _ (121, 0) 12 (c (121, 0)) (hR.ia (Nat.le_of_ble_eq_true rfl) rfl) (by decide)) ym_X12_sum mlX12_195 sm_X12_sum rfl (by decide) (Nat.le_of_ble_eq_true rfl) ?_
        rintro q1 w1 ⟨rfl, hw1⟩
        have hw1 := hw1.symm; subst hw1
        refine z_if_le h dX12_year_40 45 (by decide) (fun c_4 => ?_) (fun c_4 => ?_)
        · skip
          have hC : ¬ c (100, 0) 0 = 100 ∧ ¬ 0 < z_sum (c (119, 0)) 12 ∧ ¬ c (100, 0) 22 < z_sum (c (120, 0)) 8 ∧ ¬ 0 < z_sum (c (121, 0)) 12 := ⟨c_1, c_2, c_3, by clear c_3 c_2 c_1; simp only [z_lt, z_le, z_ie] at *; omega⟩
          refine z_iconst (v := 0) h dX12_year_45 (by decide) ?_
          refine z_istore_n h dX12_year_46 (by rw [hn]; decide) ?_
          have loop_47 : ∀ (n_ : Nat) (i : Nat) (w : z_w), r_p dM (TM g) w0 (my_c c i) l r w → i ≤ nb → nb + 1 ≤ i + n_ → z_V X 0 0 w 47 [(0, vr (100, 0)), (1, vi (nI i))] [] := by
            intro n_
            induction n_ with
            | zero => intros; omega
            | succ n_ ih_47 =>
              intro i w hR hi hN
              refine z_iload_n h dX12_year_47 rfl ?_
              refine z_aload_n h dX12_year_48 rfl ?_
              refine y_geti h dX12_year_49 hR flX12_166 (by first | assumption | exact Nat.le_of_ble_eq_true rfl) (by first | rfl | assumption | exact tx_2 (by first | assumption | omega) | exact tx_18 (by first | assumption | omega) | exact tx_19 (by first | assumption | omega) | exact tx_20 (by first | assumption | omega) | exact tx_27 (by first | assumption | omega) | exact tx_28 (by first | assumption | omega) | exact tx_30 (by first | assumption | omega) | exact tx_31 (by first | assumption | omega) | exact tx_32 (by first | assumption | omega) | exact tx_33 (by first | assumption | omega)) (by rfl) ?_
              refine z_toe (y := nI nb) (by rw [my_ne (by simp)]; exact hc1) ?_
              refine z_icmp_ge h dX12_year_52 85 (by decide) (fun c_5 => ?_) (fun c_5 => ?_)
              · skip
                have e1 : nb ≤ i := (nI_leI (by omega) (by omega)).mp c_5
                have e2 : i = nb := by omega
                subst e2
                refine z_aload_n h dX12_year_85 rfl ?_
                refine z_dup_r h dX12_year_86 ?_
                refine y_geti h dX12_year_87 hR flX12_191 (by first | assumption | exact Nat.le_of_ble_eq_true rfl) (by first | rfl | assumption | exact tx_2 (by first | assumption | omega) | exact tx_18 (by first | assumption | omega) | exact tx_19 (by first | assumption | omega) | exact tx_20 (by first | assumption | omega) | exact tx_27 (by first | assumption | omega) | exact tx_28 (by first | assumption | omega) | exact tx_30 (by first | assumption | omega) | exact tx_31 (by first | assumption | omega) | exact tx_32 (by first | assumption | omega) | exact tx_33 (by first | assumption | omega)) (by rfl) ?_
                refine z_iconst (v := 1) h dX12_year_90 (by decide) ?_
                refine z_iadd h dX12_year_91 ?_
                refine y_put h dX12_year_92 he hR flX12_191 rfl (by first | assumption | exact Nat.le_of_ble_eq_true rfl) (by first | rfl | assumption | exact tx_2 (by first | assumption | omega) | exact tx_18 (by first | assumption | omega) | exact tx_19 (by first | assumption | omega) | exact tx_20 (by first | assumption | omega) | exact tx_27 (by first | assumption | omega) | exact tx_28 (by first | assumption | omega) | exact tx_30 (by first | assumption | omega) | exact tx_31 (by first | assumption | omega) | exact tx_32 (by first | assumption | omega) | exact tx_33 (by first | assumption | omega)) (by rfl) (fun w hR => ?_)
                refine z_aload_n h dX12_year_95 rfl ?_
                refine y_geti h dX12_year_96 hR flX12_191 (by first | assumption | exact Nat.le_of_ble_eq_true rfl) (by first | rfl | assumption | exact tx_2 (by first | assumption | omega) | exact tx_18 (by first | assumption | omega) | exact tx_19 (by first | assumption | omega) | exact tx_20 (by first | assumption | omega) | exact tx_27 (by first | assumption | omega) | exact tx_28 (by first | assumption | omega) | exact tx_30 (by first | assumption | omega) | exact tx_31 (by first | assumption | omega) | exact tx_32 (by first | assumption | omega) | exact tx_33 (by first | assumption | omega)) (by rfl) ?_
                exact z_iret h dX12_year_99 hr (z_t hC ⟨z_e1 (by show (my_c c _ (100, 0) 0) + 1 = _; rw [my_ne (by simp)]), by rw [my_ne (by simp)] at hR; exact hR⟩)
              · skip
                have e1 : ¬ nb ≤ i := fun q => c_5 ((nI_leI (by omega) (by omega)).mpr q)
                refine z_aload_n h dX12_year_55 rfl ?_
                refine y_getr h dX12_year_56 hR flX12_9 (by first | assumption | exact Nat.le_of_ble_eq_true rfl) (by first | rfl | assumption | exact tx_2 (by first | assumption | omega) | exact tx_18 (by first | assumption | omega) | exact tx_19 (by first | assumption | omega) | exact tx_20 (by first | assumption | omega) | exact tx_27 (by first | assumption | omega) | exact tx_28 (by first | assumption | omega) | exact tx_30 (by first | assumption | omega) | exact tx_31 (by first | assumption | omega) | exact tx_32 (by first | assumption | omega) | exact tx_33 (by first | assumption | omega)) (by rfl) ?_
                refine z_iload_n h dX12_year_59 rfl ?_
                refine z_ldc h dX12_year_60 kcX12_177 ?_
                refine z_aload_n h dX12_year_62 rfl ?_
                refine y_getr h dX12_year_63 hR flX12_9 (by first | assumption | exact Nat.le_of_ble_eq_true rfl) (by first | rfl | assumption | exact tx_2 (by first | assumption | omega) | exact tx_18 (by first | assumption | omega) | exact tx_19 (by first | assumption | omega) | exact tx_20 (by first | assumption | omega) | exact tx_27 (by first | assumption | omega) | exact tx_28 (by first | assumption | omega) | exact tx_30 (by first | assumption | omega) | exact tx_31 (by first | assumption | omega) | exact tx_32 (by first | assumption | omega) | exact tx_33 (by first | assumption | omega)) (by rfl) ?_
                refine z_iload_n h dX12_year_66 rfl ?_
                refine y_iald h dX12_year_67 hR (by first | assumption | exact Nat.le_of_ble_eq_true rfl) (by first | rfl | assumption | exact tx_2 (by first | assumption | omega) | exact tx_18 (by first | assumption | omega) | exact tx_19 (by first | assumption | omega) | exact tx_20 (by first | assumption | omega) | exact tx_27 (by first | assumption | omega) | exact tx_28 (by first | assumption | omega) | exact tx_30 (by first | assumption | omega) | exact tx_31 (by first | assumption | omega) | exact tx_32 (by first | assumption | omega) | exact tx_33 (by first | assumption | omega)) (z_ixn (show i < 12 by omega) (by decide)) ?_
                refine z_aload_n h dX12_year_68 rfl ?_
                refine y_getr h dX12_year_69 hR flX12_13 (by first | assumption | exact Nat.le_of_ble_eq_true rfl) (by first | rfl | assumption | exact tx_2 (by first | assumption | omega) | exact tx_18 (by first | assumption | omega) | exact tx_19 (by first | assumption | omega) | exact tx_20 (by first | assumption | omega) | exact tx_27 (by first | assumption | omega) | exact tx_28 (by first | assumption | omega) | exact tx_30 (by first | assumption | omega) | exact tx_31 (by first | assumption | omega) | exact tx_32 (by first | assumption | omega) | exact tx_33 (by first | assumption | omega)) (by rfl) ?_
                refine z_iload_n h dX12_year_72 rfl ?_
                refine y_iald h dX12_year_73 hR (by first | assumption | exact Nat.le_of_ble_eq_true rfl) (by first | rfl | assumption | exact tx_2 (by first | assumption | omega) | exact tx_18 (by first | assumption | omega) | exact tx_19 (by first | assumption | omega) | exact tx_20 (by first | assumption | omega) | exact tx_27 (by first | assumption | omega) | exact tx_28 (by first | assumption | omega) | exact tx_30 (by first | assumption | omega) | exact tx_31 (by first | assumption | omega) | exact tx_32 (by first | assumption | omega) | exact tx_33 (by first | assumption | omega)) (z_ixn (show i < 12 by omega) (by decide)) ?_
                refine z_iadd h dX12_year_74 ?_
                refine z_min h dX12_year_75 mlX12_188 sm_Mmin ic_Math co_Mmin (Nat.le_of_ble_eq_true rfl) ?_
                have e8 : my_c c i (108, 0) i = c (108, 0) i := by unfold my_c; rw [r_cf_self]; exact if_neg (by omega)
                have e9 : my_c c i (109, 0) = c (109, 0) := my_ne (by simp)
                refine z_toe (y := my_g c i) (by rw [e8, e9]; rfl) ?_
                refine y_iast h dX12_year_78 hR (by first | assumption | exact Nat.le_of_ble_eq_true rfl) (by first | rfl | assumption | exact tx_2 (by first | assumption | omega) | exact tx_18 (by first | assumption | omega) | exact tx_19 (by first | assumption | omega) | exact tx_20 (by first | assumption | omega) | exact tx_27 (by first | assumption | omega) | exact tx_28 (by first | assumption | omega) | exact tx_30 (by first | assumption | omega) | exact tx_31 (by first | assumption | omega) | exact tx_32 (by first | assumption | omega) | exact tx_33 (by first | assumption | omega)) (z_ixn (show i < 12 by omega) (by decide)) (fun w hR => ?_)
                refine z_iinc (v := 1) h dX12_year_79 rfl (by decide) (by rw [hn]; decide) ?_
                refine z_goto h dX12_year_82 47 (by decide) ?_
                refine z_loc [(0, vr (100, 0)), (1, vi (nI (i + 1)))] ⟨rfl, congrArg (fun z => some (vi z)) (z_up i), trivial⟩ ?_
                exact ih_47 (i + 1) w (by rw [← my_cs]; exact hR) (by omega) (by omega)
          rw [← my_c0 c] at hR
          exact z_loc [(0, vr (100, 0)), (1, vi (nI 0))] ⟨rfl, rfl, trivial⟩ (loop_47 (nb + 1) 0 w hR (by omega) (by omega))
        · skip
          refine z_iconst (v := -1) h dX12_year_43 (by decide) ?_
          exact z_iret h dX12_year_44 hr (z_f (fun q => q.2.2.2 (by clear q c_3 c_2 c_1; simp only [z_lt, z_le, z_ie] at *; omega)) ⟨rfl, rfl⟩)
