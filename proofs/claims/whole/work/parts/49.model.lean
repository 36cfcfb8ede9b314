/-! the reference: lines, bars, rules that hold, rights in force, forging, longer rows -/
set_option maxHeartbeats 4000000 in
set_option maxRecDepth 100000 in
theorem m_X12_line (G : z_G) {g : Nat} {w0 w : z_w} {c : r_c} {l : r_l} {r : r_r} (hR : r_p dM (TM g) w0 c l r w) (i x : Int32) (nl : Nat) (hc4 : c (100, 0) 4 = nI nl) (hnl : nl ≤ 256 * 2 ^ g) (hnl4 : nl ≤ 4096) (hg4 : g ≤ 4) : z_M G yX12_line cX12_line 3 (some .int) 2 (0) (0) [vr (100, 0), vi i, vi x] w (fun q w1 => q = some (vi (if ix_ok i nl then n_sel x [(0, c (160, g) i.toNatClampNeg), (1, c (161, g) i.toNatClampNeg), (2, c (162, g) i.toNatClampNeg), (3, c (163, g) i.toNatClampNeg)] 0 else 0)) ∧ w1 = w) := by
  refine z_met ym_X12_line (by decide) ⟨Nat.le_of_ble_eq_true rfl, Nat.le_of_ble_eq_true rfl⟩ (fun X hG hn hmc hms hin h hr => ?_)
  have he := hr.2.2.2.2.2.1
  refine z_iload_n h dX12_line_0 rfl ?_
  refine z_iconst (v := 0) h dX12_line_1 (by decide) ?_
  refine z_aload_n h dX12_line_2 rfl ?_
  refine y_geti h dX12_line_3 hR flX12_287 (by first | assumption | exact Nat.le_of_ble_eq_true rfl) (by first | rfl | assumption | exact tx_2 (by first | assumption | omega) | exact tx_18 (by first | assumption | omega) | exact tx_19 (by first | assumption | omega) | exact tx_20 (by first | assumption | omega) | exact tx_27 (by first | assumption | omega) | exact tx_28 (by first | assumption | omega) | exact tx_30 (by first | assumption | omega) | exact tx_31 (by first | assumption | omega) | exact tx_32 (by first | assumption | omega) | exact tx_33 (by first | assumption | omega)) (by rfl) ?_
  rw [hc4]
  refine z_iconst (v := 1) h dX12_line_6 (by decide) ?_
  refine z_isub h dX12_line_7 ?_
  refine z_callS h dX12_line_8 (fun _ _ q => z_okv_no he q) (fun _ _ _ t q => absurd q (he t)) (m_X12_in _ _ _ _ _) ym_X12_in mlX12_169 sm_X12_in rfl (by decide) (Nat.le_of_ble_eq_true rfl) ?_
  rintro q1 w1 ⟨rfl, hw1⟩
  have hw1 := hw1.symm; subst hw1
  refine z_if_ne h dX12_line_11 16 (by decide) (fun c_1 => ?_) (fun c_1 => ?_)
  · skip
    have hix := (ix_in (n := nl) (by omega)).mp (z_bt c_1)
    have hil := ix_lt hix (by omega)
    have hgp : 2 ^ g ≤ 2 ^ 4 := Nat.pow_le_pow_right (by decide) hg4
    refine z_iload_n h dX12_line_16 rfl ?_
    refine z_if_ne h dX12_line_17 29 (by decide) (fun c_2 => ?_) (fun c_2 => ?_)
    · skip
      refine z_iload_n h dX12_line_29 rfl ?_
      refine z_iconst (v := 1) h dX12_line_30 (by decide) ?_
      refine z_icmp_ne h dX12_line_31 43 (by decide) (fun c_3 => ?_) (fun c_3 => ?_)
      · skip
        refine z_iload_n h dX12_line_43 rfl ?_
        refine z_iconst (v := 2) h dX12_line_44 (by decide) ?_
        refine z_icmp_ne h dX12_line_45 57 (by decide) (fun c_4 => ?_) (fun c_4 => ?_)
        · skip
          refine z_iload_n h dX12_line_57 rfl ?_
          refine z_iconst (v := 3) h dX12_line_58 (by decide) ?_
          refine z_icmp_ne h dX12_line_59 71 (by decide) (fun c_5 => ?_) (fun c_5 => ?_)
          · skip
            refine z_iconst (v := 0) h dX12_line_71 (by decide) ?_
            exact z_iret h dX12_line_72 hr (⟨z_e1 (by rw [if_pos hix]; simp only [n_sel, c_2, c_3, c_4, c_5, if_false]), rfl⟩)
          · skip
            refine z_aload_n h dX12_line_62 rfl ?_
            refine y_getr h dX12_line_63 hR flX12_148 (by first | assumption | exact Nat.le_of_ble_eq_true rfl) (by first | rfl | assumption | exact tx_2 (by first | assumption | omega) | exact tx_18 (by first | assumption | omega) | exact tx_19 (by first | assumption | omega) | exact tx_20 (by first | assumption | omega) | exact tx_27 (by first | assumption | omega) | exact tx_28 (by first | assumption | omega) | exact tx_30 (by first | assumption | omega) | exact tx_31 (by first | assumption | omega) | exact tx_32 (by first | assumption | omega) | exact tx_33 (by first | assumption | omega)) (by rfl) ?_
            refine z_iload_n h dX12_line_66 rfl ?_
            refine y_iald h dX12_line_67 hR (by first | assumption | exact Nat.le_of_ble_eq_true rfl) (tm_163 (Nat.le_refl g)) (z_ixe (ix_eq hix) (show i.toNatClampNeg < 256 * 2 ^ g by omega) (by omega)) ?_
            refine z_goto h dX12_line_68 72 (by decide) ?_
            exact z_iret h dX12_line_72 hr (⟨z_e1 (by rw [if_pos hix, c_5]; rfl), rfl⟩)
        · skip
          refine z_aload_n h dX12_line_48 rfl ?_
          refine y_getr h dX12_line_49 hR flX12_145 (by first | assumption | exact Nat.le_of_ble_eq_true rfl) (by first | rfl | assumption | exact tx_2 (by first | assumption | omega) | exact tx_18 (by first | assumption | omega) | exact tx_19 (by first | assumption | omega) | exact tx_20 (by first | assumption | omega) | exact tx_27 (by first | assumption | omega) | exact tx_28 (by first | assumption | omega) | exact tx_30 (by first | assumption | omega) | exact tx_31 (by first | assumption | omega) | exact tx_32 (by first | assumption | omega) | exact tx_33 (by first | assumption | omega)) (by rfl) ?_
          refine z_iload_n h dX12_line_52 rfl ?_
          refine y_iald h dX12_line_53 hR (by first | assumption | exact Nat.le_of_ble_eq_true rfl) (tm_162 (Nat.le_refl g)) (z_ixe (ix_eq hix) (show i.toNatClampNeg < 256 * 2 ^ g by omega) (by omega)) ?_
          refine z_goto h dX12_line_54 72 (by decide) ?_
          exact z_iret h dX12_line_72 hr (⟨z_e1 (by rw [if_pos hix, c_4]; rfl), rfl⟩)
      · skip
        refine z_aload_n h dX12_line_34 rfl ?_
        refine y_getr h dX12_line_35 hR flX12_142 (by first | assumption | exact Nat.le_of_ble_eq_true rfl) (by first | rfl | assumption | exact tx_2 (by first | assumption | omega) | exact tx_18 (by first | assumption | omega) | exact tx_19 (by first | assumption | omega) | exact tx_20 (by first | assumption | omega) | exact tx_27 (by first | assumption | omega) | exact tx_28 (by first | assumption | omega) | exact tx_30 (by first | assumption | omega) | exact tx_31 (by first | assumption | omega) | exact tx_32 (by first | assumption | omega) | exact tx_33 (by first | assumption | omega)) (by rfl) ?_
        refine z_iload_n h dX12_line_38 rfl ?_
        refine y_iald h dX12_line_39 hR (by first | assumption | exact Nat.le_of_ble_eq_true rfl) (tm_161 (Nat.le_refl g)) (z_ixe (ix_eq hix) (show i.toNatClampNeg < 256 * 2 ^ g by omega) (by omega)) ?_
        refine z_goto h dX12_line_40 72 (by decide) ?_
        exact z_iret h dX12_line_72 hr (⟨z_e1 (by rw [if_pos hix, c_3]; rfl), rfl⟩)
    · skip
      refine z_aload_n h dX12_line_20 rfl ?_
      refine y_getr h dX12_line_21 hR flX12_139 (by first | assumption | exact Nat.le_of_ble_eq_true rfl) (by first | rfl | assumption | exact tx_2 (by first | assumption | omega) | exact tx_18 (by first | assumption | omega) | exact tx_19 (by first | assumption | omega) | exact tx_20 (by first | assumption | omega) | exact tx_27 (by first | assumption | omega) | exact tx_28 (by first | assumption | omega) | exact tx_30 (by first | assumption | omega) | exact tx_31 (by first | assumption | omega) | exact tx_32 (by first | assumption | omega) | exact tx_33 (by first | assumption | omega)) (by rfl) ?_
      refine z_iload_n h dX12_line_24 rfl ?_
      refine y_iald h dX12_line_25 hR (by first | assumption | exact Nat.le_of_ble_eq_true rfl) (tm_160 (Nat.le_refl g)) (z_ixe (ix_eq hix) (show i.toNatClampNeg < 256 * 2 ^ g by omega) (by omega)) ?_
      refine z_goto h dX12_line_26 72 (by decide) ?_
      exact z_iret h dX12_line_72 hr (⟨z_e1 (by rw [if_pos hix, c_2]; rfl), rfl⟩)
  · skip
    refine z_iconst (v := 0) h dX12_line_14 (by decide) ?_
    exact z_iret h dX12_line_15 hr (⟨z_e1 (if_neg (fun q => z_bf c_1 ((ix_in (n := nl) (by omega)).mpr q))).symm, rfl⟩)
set_option maxHeartbeats 4000000 in
set_option maxRecDepth 100000 in
theorem m_X12_bar (G : z_G) {g : Nat} {w0 w : z_w} {c : r_c} {l : r_l} {r : r_r} (hR : r_p dM (TM g) w0 c l r w) (na : Nat) (hc2 : c (100, 0) 2 = nI na) (hna : na ≤ 100) (b x : Int32) : z_M G yX12_bar cX12_bar 6 (some .int) 3 (0) (0) [vr (100, 0), vi b, vi x] w (fun q w1 => q = some (vi (if ix_ok b na then n_sel x [(0, c (146, 0) b.toNatClampNeg), (1, c (147, 0) b.toNatClampNeg), (2, (if 0 < c (148, 0) b.toNatClampNeg - c (149, 0) b.toNatClampNeg / 2 then c (148, 0) b.toNatClampNeg - c (149, 0) b.toNatClampNeg / 2 else 0)), (3, c (149, 0) b.toNatClampNeg), (4, c (150, 0) b.toNatClampNeg), (5, z_sum (fun k => c (144, 0) (12 * b.toNatClampNeg + k)) 12), (6, z_sum (fun k => c (145, 0) (8 * b.toNatClampNeg + k)) 8)] (-1) else -1)) ∧ w1 = w) := by
  refine z_met ym_X12_bar (by decide) ⟨Nat.le_of_ble_eq_true rfl, Nat.le_of_ble_eq_true rfl⟩ (fun X hG hn hmc hms hin h hr => ?_)
  have he := hr.2.2.2.2.2.1
  refine z_aload_n h dX12_bar_0 rfl ?_
  refine z_iload_n h dX12_bar_1 rfl ?_
  refine z_callV h dX12_bar_2 (fun _ _ q => z_okv_no he q) (fun _ _ _ t q => absurd q (he t)) (m_X12_isBar _ hR na hc2 hna b) ym_X12_isBar mlX12_267 im_X12_isBar (ci := 12) rfl se_X12_isBar icX12 rfl (r_p.ob hR (by first | assumption | exact Nat.le_of_ble_eq_true rfl) (by first | rfl | assumption | exact tx_2 (by first | assumption | omega) | exact tx_18 (by first | assumption | omega) | exact tx_19 (by first | assumption | omega) | exact tx_20 (by first | assumption | omega) | exact tx_27 (by first | assumption | omega) | exact tx_28 (by first | assumption | omega) | exact tx_30 (by first | assumption | omega) | exact tx_31 (by first | assumption | omega) | exact tx_32 (by first | assumption | omega) | exact tx_33 (by first | assumption | omega))) rfl (by decide) (Nat.le_of_ble_eq_true rfl) ?_
  rintro q1 w1 ⟨rfl, hw1⟩
  have hw1 := hw1.symm; subst hw1
  refine z_if_ne h dX12_bar_5 10 (by decide) (fun c_1 => ?_) (fun c_1 => ?_)
  · skip
    have hix : ix_ok b na := z_bt c_1
    have hil := ix_lt hix (by omega)
    refine z_iconst (v := 0) h dX12_bar_10 (by decide) ?_
    refine z_istore_n h dX12_bar_11 (by rw [hn]; decide) ?_
    refine z_iconst (v := 0) h dX12_bar_12 (by decide) ?_
    refine z_istore h dX12_bar_13 (by rw [hn]; decide) ?_
    refine z_iconst (v := 0) h dX12_bar_15 (by decide) ?_
    refine z_istore h dX12_bar_16 (by rw [hn]; decide) ?_
    have loop_18 : ∀ (n_ : Nat) (k : Nat), k ≤ 12 → 12 + 1 ≤ k + n_ → z_V X 0 0 w 18 [(0, vr (100, 0)), (1, vi b), (2, vi x), (3, vi (z_sum (fun k => c (144, 0) (12 * b.toNatClampNeg + k)) k)), (4, vi 0), (5, vi (nI k))] [] := by
      intro n_
      induction n_ with
      | zero => intros; omega
      | succ n_ ih_18 =>
        intro k hk hN
        refine z_iload h dX12_bar_18 rfl ?_
        refine z_bipush (v := 12) h dX12_bar_20 (by decide) ?_
        refine z_icmp_ge h dX12_bar_22 46 (by decide) (fun c_2 => ?_) (fun c_2 => ?_)
        · skip
          have e1 : 12 ≤ k := (nI_leI (a := 12) (by omega) (by omega)).mp c_2
          have e2 : k = 12 := by omega
          subst e2
          refine z_iconst (v := 0) h dX12_bar_46 (by decide) ?_
          refine z_istore h dX12_bar_47 (by rw [hn]; decide) ?_
          have loop_49 : ∀ (m_ : Nat) (k : Nat), k ≤ 8 → 8 + 1 ≤ k + m_ → z_V X 0 0 w 49 [(0, vr (100, 0)), (1, vi b), (2, vi x), (3, vi (z_sum (fun k => c (144, 0) (12 * b.toNatClampNeg + k)) 12)), (4, vi (z_sum (fun k => c (145, 0) (8 * b.toNatClampNeg + k)) k)), (5, vi (nI k))] [] := by
            intro m_
            induction m_ with
            | zero => intros; omega
            | succ m_ ih_49 =>
              intro k hk hN
              refine z_iload h dX12_bar_49 rfl ?_
              refine z_bipush (v := 8) h dX12_bar_51 (by decide) ?_
              refine z_icmp_ge h dX12_bar_53 79 (by decide) (fun c_3 => ?_) (fun c_3 => ?_)
              · skip
                have e1 : 8 ≤ k := (nI_leI (a := 8) (by omega) (by omega)).mp c_3
                have e2 : k = 8 := by omega
                subst e2
                refine z_iload_n h dX12_bar_79 rfl ?_
                by_cases s_1_0 : x = 0
                · skip
                  refine z_tblIn h dX12_bar_80 124 (off := 44) (by rw [s_1_0]; decide) (by rw [s_1_0]; decide) (by rw [s_1_0]; rfl) (by decide) ?_
                  refine z_aload_n h dX12_bar_124 rfl ?_
                  refine y_getr h dX12_bar_125 hR flX12_97 (by first | assumption | exact Nat.le_of_ble_eq_true rfl) (by first | rfl | assumption | exact tx_2 (by first | assumption | omega) | exact tx_18 (by first | assumption | omega) | exact tx_19 (by first | assumption | omega) | exact tx_20 (by first | assumption | omega) | exact tx_27 (by first | assumption | omega) | exact tx_28 (by first | assumption | omega) | exact tx_30 (by first | assumption | omega) | exact tx_31 (by first | assumption | omega) | exact tx_32 (by first | assumption | omega) | exact tx_33 (by first | assumption | omega)) (by rfl) ?_
                  refine z_iload_n h dX12_bar_128 rfl ?_
                  refine y_iald h dX12_bar_129 hR (by first | assumption | exact Nat.le_of_ble_eq_true rfl) (by first | rfl | assumption | exact tx_2 (by first | assumption | omega) | exact tx_18 (by first | assumption | omega) | exact tx_19 (by first | assumption | omega) | exact tx_20 (by first | assumption | omega) | exact tx_27 (by first | assumption | omega) | exact tx_28 (by first | assumption | omega) | exact tx_30 (by first | assumption | omega) | exact tx_31 (by first | assumption | omega) | exact tx_32 (by first | assumption | omega) | exact tx_33 (by first | assumption | omega)) (z_ixe (ix_eq hix) (show b.toNatClampNeg < 100 by omega) (by decide)) ?_
                  exact z_iret h dX12_bar_130 hr (⟨z_e1 (by rw [if_pos hix, s_1_0]; rfl), rfl⟩)
                by_cases s_1_1 : x = 1
                · skip
                  refine z_tblIn h dX12_bar_80 131 (off := 51) (by rw [s_1_1]; decide) (by rw [s_1_1]; decide) (by rw [s_1_1]; rfl) (by decide) ?_
                  refine z_aload_n h dX12_bar_131 rfl ?_
                  refine y_getr h dX12_bar_132 hR flX12_100 (by first | assumption | exact Nat.le_of_ble_eq_true rfl) (by first | rfl | assumption | exact tx_2 (by first | assumption | omega) | exact tx_18 (by first | assumption | omega) | exact tx_19 (by first | assumption | omega) | exact tx_20 (by first | assumption | omega) | exact tx_27 (by first | assumption | omega) | exact tx_28 (by first | assumption | omega) | exact tx_30 (by first | assumption | omega) | exact tx_31 (by first | assumption | omega) | exact tx_32 (by first | assumption | omega) | exact tx_33 (by first | assumption | omega)) (by rfl) ?_
                  refine z_iload_n h dX12_bar_135 rfl ?_
                  refine y_iald h dX12_bar_136 hR (by first | assumption | exact Nat.le_of_ble_eq_true rfl) (by first | rfl | assumption | exact tx_2 (by first | assumption | omega) | exact tx_18 (by first | assumption | omega) | exact tx_19 (by first | assumption | omega) | exact tx_20 (by first | assumption | omega) | exact tx_27 (by first | assumption | omega) | exact tx_28 (by first | assumption | omega) | exact tx_30 (by first | assumption | omega) | exact tx_31 (by first | assumption | omega) | exact tx_32 (by first | assumption | omega) | exact tx_33 (by first | assumption | omega)) (z_ixe (ix_eq hix) (show b.toNatClampNeg < 100 by omega) (by decide)) ?_
                  exact z_iret h dX12_bar_137 hr (⟨z_e1 (by rw [if_pos hix, s_1_1]; rfl), rfl⟩)
                by_cases s_1_2 : x = 2
                · skip
                  refine z_tblIn h dX12_bar_80 138 (off := 58) (by rw [s_1_2]; decide) (by rw [s_1_2]; decide) (by rw [s_1_2]; rfl) (by decide) ?_
                  refine z_aload_n h dX12_bar_138 rfl ?_
                  refine z_iload_n h dX12_bar_139 rfl ?_
                  refine z_toe (y := nI b.toNatClampNeg) (ix_eq hix) ?_
                  refine z_callV h dX12_bar_140 (fun _ _ q => z_okv_no he q) (fun _ _ _ t q => absurd q (he t)) (m_X12_sortOf _ hR b.toNatClampNeg (by omega)) ym_X12_sortOf mlX12_276 im_X12_sortOf (ci := 12) rfl se_X12_sortOf icX12 rfl (r_p.ob hR (by first | assumption | exact Nat.le_of_ble_eq_true rfl) (by first | rfl | assumption | exact tx_2 (by first | assumption | omega) | exact tx_18 (by first | assumption | omega) | exact tx_19 (by first | assumption | omega) | exact tx_20 (by first | assumption | omega) | exact tx_27 (by first | assumption | omega) | exact tx_28 (by first | assumption | omega) | exact tx_30 (by first | assumption | omega) | exact tx_31 (by first | assumption | omega) | exact tx_32 (by first | assumption | omega) | exact tx_33 (by first | assumption | omega))) rfl (by decide) (Nat.le_of_ble_eq_true rfl) ?_
                  rintro q1 w1 ⟨rfl, hw1⟩
                  have hw1 := hw1.symm; subst hw1
                  exact z_iret h dX12_bar_143 hr (⟨z_e1 (by rw [if_pos hix, s_1_2]; rfl), rfl⟩)
                by_cases s_1_3 : x = 3
                · skip
                  refine z_tblIn h dX12_bar_80 144 (off := 64) (by rw [s_1_3]; decide) (by rw [s_1_3]; decide) (by rw [s_1_3]; rfl) (by decide) ?_
                  refine z_aload_n h dX12_bar_144 rfl ?_
                  refine y_getr h dX12_bar_145 hR flX12_106 (by first | assumption | exact Nat.le_of_ble_eq_true rfl) (by first | rfl | assumption | exact tx_2 (by first | assumption | omega) | exact tx_18 (by first | assumption | omega) | exact tx_19 (by first | assumption | omega) | exact tx_20 (by first | assumption | omega) | exact tx_27 (by first | assumption | omega) | exact tx_28 (by first | assumption | omega) | exact tx_30 (by first | assumption | omega) | exact tx_31 (by first | assumption | omega) | exact tx_32 (by first | assumption | omega) | exact tx_33 (by first | assumption | omega)) (by rfl) ?_
                  refine z_iload_n h dX12_bar_148 rfl ?_
                  refine y_iald h dX12_bar_149 hR (by first | assumption | exact Nat.le_of_ble_eq_true rfl) (by first | rfl | assumption | exact tx_2 (by first | assumption | omega) | exact tx_18 (by first | assumption | omega) | exact tx_19 (by first | assumption | omega) | exact tx_20 (by first | assumption | omega) | exact tx_27 (by first | assumption | omega) | exact tx_28 (by first | assumption | omega) | exact tx_30 (by first | assumption | omega) | exact tx_31 (by first | assumption | omega) | exact tx_32 (by first | assumption | omega) | exact tx_33 (by first | assumption | omega)) (z_ixe (ix_eq hix) (show b.toNatClampNeg < 100 by omega) (by decide)) ?_
                  exact z_iret h dX12_bar_150 hr (⟨z_e1 (by rw [if_pos hix, s_1_3]; rfl), rfl⟩)
                by_cases s_1_4 : x = 4
                · skip
                  refine z_tblIn h dX12_bar_80 151 (off := 71) (by rw [s_1_4]; decide) (by rw [s_1_4]; decide) (by rw [s_1_4]; rfl) (by decide) ?_
                  refine z_aload_n h dX12_bar_151 rfl ?_
                  refine y_getr h dX12_bar_152 hR flX12_109 (by first | assumption | exact Nat.le_of_ble_eq_true rfl) (by first | rfl | assumption | exact tx_2 (by first | assumption | omega) | exact tx_18 (by first | assumption | omega) | exact tx_19 (by first | assumption | omega) | exact tx_20 (by first | assumption | omega) | exact tx_27 (by first | assumption | omega) | exact tx_28 (by first | assumption | omega) | exact tx_30 (by first | assumption | omega) | exact tx_31 (by first | assumption | omega) | exact tx_32 (by first | assumption | omega) | exact tx_33 (by first | assumption | omega)) (by rfl) ?_
                  refine z_iload_n h dX12_bar_155 rfl ?_
                  refine y_iald h dX12_bar_156 hR (by first | assumption | exact Nat.le_of_ble_eq_true rfl) (by first | rfl | assumption | exact tx_2 (by first | assumption | omega) | exact tx_18 (by first | assumption | omega) | exact tx_19 (by first | assumption | omega) | exact tx_20 (by first | assumption | omega) | exact tx_27 (by first | assumption | omega) | exact tx_28 (by first | assumption | omega) | exact tx_30 (by first | assumption | omega) | exact tx_31 (by first | assumption | omega) | exact tx_32 (by first | assumption | omega) | exact tx_33 (by first | assumption | omega)) (z_ixe (ix_eq hix) (show b.toNatClampNeg < 100 by omega) (by decide)) ?_
                  exact z_iret h dX12_bar_157 hr (⟨z_e1 (by rw [if_pos hix, s_1_4]; rfl), rfl⟩)
                by_cases s_1_5 : x = 5
                · skip
                  refine z_tblIn h dX12_bar_80 158 (off := 78) (by rw [s_1_5]; decide) (by rw [s_1_5]; decide) (by rw [s_1_5]; rfl) (by decide) ?_
                  refine z_iload_n h dX12_bar_158 rfl ?_
                  exact z_iret h dX12_bar_159 hr (⟨z_e1 (by rw [if_pos hix, s_1_5]; rfl), rfl⟩)
                by_cases s_1_6 : x = 6
                · skip
                  refine z_tblIn h dX12_bar_80 160 (off := 80) (by rw [s_1_6]; decide) (by rw [s_1_6]; decide) (by rw [s_1_6]; rfl) (by decide) ?_
                  refine z_iload h dX12_bar_160 rfl ?_
                  exact z_iret h dX12_bar_162 hr (⟨z_e1 (by rw [if_pos hix, s_1_6]; rfl), rfl⟩)
                refine z_tblOut h dX12_bar_80 163 (by have a0 := lv_neT s_1_0 (a := 0) (by decide); have a1 := lv_neT s_1_1 (a := 1) (by decide); have a2 := lv_neT s_1_2 (a := 2) (by decide); have a3 := lv_neT s_1_3 (a := 3) (by decide); have a4 := lv_neT s_1_4 (a := 4) (by decide); have a5 := lv_neT s_1_5 (a := 5) (by decide); have a6 := lv_neT s_1_6 (a := 6) (by decide); omega) (by decide) ?_
                refine z_iconst (v := -1) h dX12_bar_163 (by decide) ?_
                exact z_iret h dX12_bar_164 hr (⟨z_e1 (by rw [if_pos hix]; simp only [n_sel, s_1_0, s_1_1, s_1_2, s_1_3, s_1_4, s_1_5, s_1_6, if_false]), rfl⟩)
              · skip
                have e1 : ¬ 8 ≤ k := fun q => c_3 ((nI_leI (a := 8) (by omega) (by omega)).mpr q)
                refine z_iload h dX12_bar_56 rfl ?_
                refine z_aload_n h dX12_bar_58 rfl ?_
                refine y_getr h dX12_bar_59 hR flX12_94 (by first | assumption | exact Nat.le_of_ble_eq_true rfl) (by first | rfl | assumption | exact tx_2 (by first | assumption | omega) | exact tx_18 (by first | assumption | omega) | exact tx_19 (by first | assumption | omega) | exact tx_20 (by first | assumption | omega) | exact tx_27 (by first | assumption | omega) | exact tx_28 (by first | assumption | omega) | exact tx_30 (by first | assumption | omega) | exact tx_31 (by first | assumption | omega) | exact tx_32 (by first | assumption | omega) | exact tx_33 (by first | assumption | omega)) (by rfl) ?_
                refine z_bipush (v := 8) h dX12_bar_62 (by decide) ?_
                refine z_iload_n h dX12_bar_64 rfl ?_
                refine z_imul h dX12_bar_65 ?_
                refine z_iload h dX12_bar_66 rfl ?_
                refine z_iadd h dX12_bar_68 ?_
                refine z_toe (y := nI (8 * b.toNatClampNeg + k)) (by rw [show (8 : Int32) * b + nI k = nI 8 * nI b.toNatClampNeg + nI k from by rw [← ix_eq hix]; rfl, nI_mul, nI_add]) ?_
                refine y_iald h dX12_bar_69 hR (by first | assumption | exact Nat.le_of_ble_eq_true rfl) (by first | rfl | assumption | exact tx_2 (by first | assumption | omega) | exact tx_18 (by first | assumption | omega) | exact tx_19 (by first | assumption | omega) | exact tx_20 (by first | assumption | omega) | exact tx_27 (by first | assumption | omega) | exact tx_28 (by first | assumption | omega) | exact tx_30 (by first | assumption | omega) | exact tx_31 (by first | assumption | omega) | exact tx_32 (by first | assumption | omega) | exact tx_33 (by first | assumption | omega)) (z_ixn (by omega) (by decide)) ?_
                refine z_iadd h dX12_bar_70 ?_
                refine z_istore h dX12_bar_71 (by rw [hn]; decide) ?_
                refine z_iinc (v := 1) h dX12_bar_73 rfl (by decide) (by rw [hn]; decide) ?_
                refine z_goto h dX12_bar_76 49 (by decide) ?_
                refine z_loc [(0, vr (100, 0)), (1, vi b), (2, vi x), (3, vi (z_sum (fun k => c (144, 0) (12 * b.toNatClampNeg + k)) 12)), (4, vi (z_sum (fun k => c (145, 0) (8 * b.toNatClampNeg + k)) (k + 1))), (5, vi (nI (k + 1)))] ⟨rfl, rfl, rfl, rfl, rfl, congrArg (fun z => some (vi z)) (z_up k), trivial⟩ ?_
                exact ih_49 (k + 1) (by omega) (by omega)
          exact z_loc [(0, vr (100, 0)), (1, vi b), (2, vi x), (3, vi (z_sum (fun k => c (144, 0) (12 * b.toNatClampNeg + k)) 12)), (4, vi (z_sum (fun k => c (145, 0) (8 * b.toNatClampNeg + k)) 0)), (5, vi (nI 0))] ⟨rfl, rfl, rfl, rfl, rfl, rfl, trivial⟩ (loop_49 (8 + 1) 0 (by omega) (by omega))
        · skip
          have e1 : ¬ 12 ≤ k := fun q => c_2 ((nI_leI (a := 12) (by omega) (by omega)).mpr q)
          refine z_iload_n h dX12_bar_25 rfl ?_
          refine z_aload_n h dX12_bar_26 rfl ?_
          refine y_getr h dX12_bar_27 hR flX12_91 (by first | assumption | exact Nat.le_of_ble_eq_true rfl) (by first | rfl | assumption | exact tx_2 (by first | assumption | omega) | exact tx_18 (by first | assumption | omega) | exact tx_19 (by first | assumption | omega) | exact tx_20 (by first | assumption | omega) | exact tx_27 (by first | assumption | omega) | exact tx_28 (by first | assumption | omega) | exact tx_30 (by first | assumption | omega) | exact tx_31 (by first | assumption | omega) | exact tx_32 (by first | assumption | omega) | exact tx_33 (by first | assumption | omega)) (by rfl) ?_
          refine z_bipush (v := 12) h dX12_bar_30 (by decide) ?_
          refine z_iload_n h dX12_bar_32 rfl ?_
          refine z_imul h dX12_bar_33 ?_
          refine z_iload h dX12_bar_34 rfl ?_
          refine z_iadd h dX12_bar_36 ?_
          refine z_toe (y := nI (12 * b.toNatClampNeg + k)) (by rw [show (12 : Int32) * b + nI k = nI 12 * nI b.toNatClampNeg + nI k from by rw [← ix_eq hix]; rfl, nI_mul, nI_add]) ?_
          refine y_iald h dX12_bar_37 hR (by first | assumption | exact Nat.le_of_ble_eq_true rfl) (by first | rfl | assumption | exact tx_2 (by first | assumption | omega) | exact tx_18 (by first | assumption | omega) | exact tx_19 (by first | assumption | omega) | exact tx_20 (by first | assumption | omega) | exact tx_27 (by first | assumption | omega) | exact tx_28 (by first | assumption | omega) | exact tx_30 (by first | assumption | omega) | exact tx_31 (by first | assumption | omega) | exact tx_32 (by first | assumption | omega) | exact tx_33 (by first | assumption | omega)) (z_ixn (by omega) (by decide)) ?_
          refine z_iadd h dX12_bar_38 ?_
          refine z_istore_n h dX12_bar_39 (by rw [hn]; decide) ?_
          refine z_iinc (v := 1) h dX12_bar_40 rfl (by decide) (by rw [hn]; decide) ?_
          refine z_goto h dX12_bar_43 18 (by decide) ?_
          refine z_loc [(0, vr (100, 0)), (1, vi b), (2, vi x), (3, vi (z_sum (fun k => c (144, 0) (12 * b.toNatClampNeg + k)) (k + 1))), (4, vi 0), (5, vi (nI (k + 1)))] ⟨rfl, rfl, rfl, rfl, rfl, congrArg (fun z => some (vi z)) (z_up k), trivial⟩ ?_
          exact ih_18 (k + 1) (by omega) (by omega)
    exact z_loc [(0, vr (100, 0)), (1, vi b), (2, vi x), (3, vi (z_sum (fun k => c (144, 0) (12 * b.toNatClampNeg + k)) 0)), (4, vi 0), (5, vi (nI 0))] ⟨rfl, rfl, rfl, rfl, rfl, rfl, trivial⟩ (loop_18 (12 + 1) 0 (by omega) (by omega))
  · skip
    refine z_iconst (v := -1) h dX12_bar_8 (by decide) ?_
    exact z_iret h dX12_bar_9 hr (⟨z_e1 (if_neg (z_bf c_1)).symm, rfl⟩)
set_option maxHeartbeats 4000000 in
set_option maxRecDepth 100000 in
theorem m_X12_holds (G : z_G) {g : Nat} {w0 w : z_w} {c : r_c} {l : r_l} {r : r_r} (hR : r_p dM (TM g) w0 c l r w) (i : Nat) (hi : i < 60) : z_M G yX12_holds cX12_holds 4 (some .boolean) 2 (0) (0) [vr (100, 0), vi (nI i)] w (fun q w1 => q = some (vi (z_b ((n_hd (c (137, 0) i) (n_rd (c (136, 0) i) (c (100, 0) 25) (c (100, 0) 24) (z_sum (c (120, 0)) 8 - c (100, 0) 22) (z_sum (c (119, 0)) 12)) (c (138, 0) i)) = true))) ∧ w1 = w) := by
  refine z_met ym_X12_holds (by decide) ⟨Nat.le_of_ble_eq_true rfl, Nat.le_of_ble_eq_true rfl⟩ (fun X hG hn hmc hms hin h hr => ?_)
  have he := hr.2.2.2.2.2.1
  refine z_aload_n h dX12_holds_0 rfl ?_
  refine y_getr h dX12_holds_1 hR flX12_67 (by first | assumption | exact Nat.le_of_ble_eq_true rfl) (by first | rfl | assumption | exact tx_2 (by first | assumption | omega) | exact tx_18 (by first | assumption | omega) | exact tx_19 (by first | assumption | omega) | exact tx_20 (by first | assumption | omega) | exact tx_27 (by first | assumption | omega) | exact tx_28 (by first | assumption | omega) | exact tx_30 (by first | assumption | omega) | exact tx_31 (by first | assumption | omega) | exact tx_32 (by first | assumption | omega) | exact tx_33 (by first | assumption | omega)) (by rfl) ?_
  refine z_iload_n h dX12_holds_4 rfl ?_
  refine y_iald h dX12_holds_5 hR (by first | assumption | exact Nat.le_of_ble_eq_true rfl) (by first | rfl | assumption | exact tx_2 (by first | assumption | omega) | exact tx_18 (by first | assumption | omega) | exact tx_19 (by first | assumption | omega) | exact tx_20 (by first | assumption | omega) | exact tx_27 (by first | assumption | omega) | exact tx_28 (by first | assumption | omega) | exact tx_30 (by first | assumption | omega) | exact tx_31 (by first | assumption | omega) | exact tx_32 (by first | assumption | omega) | exact tx_33 (by first | assumption | omega)) (z_ixn (show i < 60 by omega) (by decide)) ?_
  refine z_istore_n h dX12_holds_6 (by rw [hn]; decide) ?_
  have join_61 : z_V X 0 0 w 61 [(0, vr (100, 0)), (1, vi (nI i)), (2, vi (c (136, 0) i))] [vi (n_rd (c (136, 0) i) (c (100, 0) 25) (c (100, 0) 24) (z_sum (c (120, 0)) 8 - c (100, 0) 22) (z_sum (c (119, 0)) 12))] := by
    refine z_istore_n h dX12_holds_61 (by rw [hn]; decide) ?_
    refine z_aload_n h dX12_holds_62 rfl ?_
    refine y_getr h dX12_holds_63 hR flX12_70 (by first | assumption | exact Nat.le_of_ble_eq_true rfl) (by first | rfl | assumption | exact tx_2 (by first | assumption | omega) | exact tx_18 (by first | assumption | omega) | exact tx_19 (by first | assumption | omega) | exact tx_20 (by first | assumption | omega) | exact tx_27 (by first | assumption | omega) | exact tx_28 (by first | assumption | omega) | exact tx_30 (by first | assumption | omega) | exact tx_31 (by first | assumption | omega) | exact tx_32 (by first | assumption | omega) | exact tx_33 (by first | assumption | omega)) (by rfl) ?_
    refine z_iload_n h dX12_holds_66 rfl ?_
    refine y_iald h dX12_holds_67 hR (by first | assumption | exact Nat.le_of_ble_eq_true rfl) (by first | rfl | assumption | exact tx_2 (by first | assumption | omega) | exact tx_18 (by first | assumption | omega) | exact tx_19 (by first | assumption | omega) | exact tx_20 (by first | assumption | omega) | exact tx_27 (by first | assumption | omega) | exact tx_28 (by first | assumption | omega) | exact tx_30 (by first | assumption | omega) | exact tx_31 (by first | assumption | omega) | exact tx_32 (by first | assumption | omega) | exact tx_33 (by first | assumption | omega)) (z_ixn (show i < 60 by omega) (by decide)) ?_
    refine z_bipush (v := 61) h dX12_holds_68 (by decide) ?_
    refine z_icmp_ne h dX12_holds_70 91 (by decide) (fun c_4 => ?_) (fun c_4 => ?_)
    · skip
      refine z_aload_n h dX12_holds_91 rfl ?_
      refine y_getr h dX12_holds_92 hR flX12_70 (by first | assumption | exact Nat.le_of_ble_eq_true rfl) (by first | rfl | assumption | exact tx_2 (by first | assumption | omega) | exact tx_18 (by first | assumption | omega) | exact tx_19 (by first | assumption | omega) | exact tx_20 (by first | assumption | omega) | exact tx_27 (by first | assumption | omega) | exact tx_28 (by first | assumption | omega) | exact tx_30 (by first | assumption | omega) | exact tx_31 (by first | assumption | omega) | exact tx_32 (by first | assumption | omega) | exact tx_33 (by first | assumption | omega)) (by rfl) ?_
      refine z_iload_n h dX12_holds_95 rfl ?_
      refine y_iald h dX12_holds_96 hR (by first | assumption | exact Nat.le_of_ble_eq_true rfl) (by first | rfl | assumption | exact tx_2 (by first | assumption | omega) | exact tx_18 (by first | assumption | omega) | exact tx_19 (by first | assumption | omega) | exact tx_20 (by first | assumption | omega) | exact tx_27 (by first | assumption | omega) | exact tx_28 (by first | assumption | omega) | exact tx_30 (by first | assumption | omega) | exact tx_31 (by first | assumption | omega) | exact tx_32 (by first | assumption | omega) | exact tx_33 (by first | assumption | omega)) (z_ixn (show i < 60 by omega) (by decide)) ?_
      refine z_bipush (v := 60) h dX12_holds_97 (by decide) ?_
      refine z_icmp_ne h dX12_holds_99 120 (by decide) (fun c_6 => ?_) (fun c_6 => ?_)
      · skip
        refine z_iload_n h dX12_holds_120 rfl ?_
        refine z_aload_n h dX12_holds_121 rfl ?_
        refine y_getr h dX12_holds_122 hR flX12_73 (by first | assumption | exact Nat.le_of_ble_eq_true rfl) (by first | rfl | assumption | exact tx_2 (by first | assumption | omega) | exact tx_18 (by first | assumption | omega) | exact tx_19 (by first | assumption | omega) | exact tx_20 (by first | assumption | omega) | exact tx_27 (by first | assumption | omega) | exact tx_28 (by first | assumption | omega) | exact tx_30 (by first | assumption | omega) | exact tx_31 (by first | assumption | omega) | exact tx_32 (by first | assumption | omega) | exact tx_33 (by first | assumption | omega)) (by rfl) ?_
        refine z_iload_n h dX12_holds_125 rfl ?_
        refine y_iald h dX12_holds_126 hR (by first | assumption | exact Nat.le_of_ble_eq_true rfl) (by first | rfl | assumption | exact tx_2 (by first | assumption | omega) | exact tx_18 (by first | assumption | omega) | exact tx_19 (by first | assumption | omega) | exact tx_20 (by first | assumption | omega) | exact tx_27 (by first | assumption | omega) | exact tx_28 (by first | assumption | omega) | exact tx_30 (by first | assumption | omega) | exact tx_31 (by first | assumption | omega) | exact tx_32 (by first | assumption | omega) | exact tx_33 (by first | assumption | omega)) (z_ixn (show i < 60 by omega) (by decide)) ?_
        refine z_icmp_le h dX12_holds_127 134 (by decide) (fun c_8 => ?_) (fun c_8 => ?_)
        · skip
          refine z_iconst (v := 0) h dX12_holds_134 (by decide) ?_
          exact z_zret h dX12_holds_135 hr rfl (⟨z_ret0 (by unfold n_hd; rw [if_neg c_6, if_neg c_4]; intro q; exact absurd c_8 (Int32.not_le.mpr (of_decide_eq_true q))), rfl⟩)
        · skip
          refine z_iconst (v := 1) h dX12_holds_130 (by decide) ?_
          refine z_goto h dX12_holds_131 135 (by decide) ?_
          exact z_zret h dX12_holds_135 hr rfl (⟨z_ret1 (by unfold n_hd; rw [if_neg c_6, if_neg c_4]; exact decide_eq_true (Int32.not_le.mp c_8)), rfl⟩)
      · skip
        refine z_iload_n h dX12_holds_102 rfl ?_
        refine z_aload_n h dX12_holds_103 rfl ?_
        refine y_getr h dX12_holds_104 hR flX12_73 (by first | assumption | exact Nat.le_of_ble_eq_true rfl) (by first | rfl | assumption | exact tx_2 (by first | assumption | omega) | exact tx_18 (by first | assumption | omega) | exact tx_19 (by first | assumption | omega) | exact tx_20 (by first | assumption | omega) | exact tx_27 (by first | assumption | omega) | exact tx_28 (by first | assumption | omega) | exact tx_30 (by first | assumption | omega) | exact tx_31 (by first | assumption | omega) | exact tx_32 (by first | assumption | omega) | exact tx_33 (by first | assumption | omega)) (by rfl) ?_
        refine z_iload_n h dX12_holds_107 rfl ?_
        refine y_iald h dX12_holds_108 hR (by first | assumption | exact Nat.le_of_ble_eq_true rfl) (by first | rfl | assumption | exact tx_2 (by first | assumption | omega) | exact tx_18 (by first | assumption | omega) | exact tx_19 (by first | assumption | omega) | exact tx_20 (by first | assumption | omega) | exact tx_27 (by first | assumption | omega) | exact tx_28 (by first | assumption | omega) | exact tx_30 (by first | assumption | omega) | exact tx_31 (by first | assumption | omega) | exact tx_32 (by first | assumption | omega) | exact tx_33 (by first | assumption | omega)) (z_ixn (show i < 60 by omega) (by decide)) ?_
        refine z_icmp_ge h dX12_holds_109 116 (by decide) (fun c_7 => ?_) (fun c_7 => ?_)
        · skip
          refine z_iconst (v := 0) h dX12_holds_116 (by decide) ?_
          refine z_goto h dX12_holds_117 135 (by decide) ?_
          exact z_zret h dX12_holds_135 hr rfl (⟨z_ret0 (by unfold n_hd; rw [c_6]; intro q; exact absurd c_7 (Int32.not_le.mpr (of_decide_eq_true q))), rfl⟩)
        · skip
          refine z_iconst (v := 1) h dX12_holds_112 (by decide) ?_
          refine z_goto h dX12_holds_113 135 (by decide) ?_
          exact z_zret h dX12_holds_135 hr rfl (⟨z_ret1 (by unfold n_hd; rw [c_6]; exact decide_eq_true (Int32.not_le.mp c_7)), rfl⟩)
    · skip
      refine z_iload_n h dX12_holds_73 rfl ?_
      refine z_aload_n h dX12_holds_74 rfl ?_
      refine y_getr h dX12_holds_75 hR flX12_73 (by first | assumption | exact Nat.le_of_ble_eq_true rfl) (by first | rfl | assumption | exact tx_2 (by first | assumption | omega) | exact tx_18 (by first | assumption | omega) | exact tx_19 (by first | assumption | omega) | exact tx_20 (by first | assumption | omega) | exact tx_27 (by first | assumption | omega) | exact tx_28 (by first | assumption | omega) | exact tx_30 (by first | assumption | omega) | exact tx_31 (by first | assumption | omega) | exact tx_32 (by first | assumption | omega) | exact tx_33 (by first | assumption | omega)) (by rfl) ?_
      refine z_iload_n h dX12_holds_78 rfl ?_
      refine y_iald h dX12_holds_79 hR (by first | assumption | exact Nat.le_of_ble_eq_true rfl) (by first | rfl | assumption | exact tx_2 (by first | assumption | omega) | exact tx_18 (by first | assumption | omega) | exact tx_19 (by first | assumption | omega) | exact tx_20 (by first | assumption | omega) | exact tx_27 (by first | assumption | omega) | exact tx_28 (by first | assumption | omega) | exact tx_30 (by first | assumption | omega) | exact tx_31 (by first | assumption | omega) | exact tx_32 (by first | assumption | omega) | exact tx_33 (by first | assumption | omega)) (z_ixn (show i < 60 by omega) (by decide)) ?_
      refine z_icmp_ne h dX12_holds_80 87 (by decide) (fun c_5 => ?_) (fun c_5 => ?_)
      · skip
        refine z_iconst (v := 0) h dX12_holds_87 (by decide) ?_
        refine z_goto h dX12_holds_88 135 (by decide) ?_
        exact z_zret h dX12_holds_135 hr rfl (⟨z_ret0 (by unfold n_hd; rw [c_4]; intro q; exact c_5 (of_decide_eq_true q)), rfl⟩)
      · skip
        refine z_iconst (v := 1) h dX12_holds_83 (by decide) ?_
        refine z_goto h dX12_holds_84 135 (by decide) ?_
        exact z_zret h dX12_holds_135 hr rfl (⟨z_ret1 (by unfold n_hd; rw [c_4]; exact decide_eq_true c_5), rfl⟩)
  refine z_iload_n h dX12_holds_7 rfl ?_
  refine z_bipush (v := 104) h dX12_holds_8 (by decide) ?_
  refine z_icmp_ne h dX12_holds_10 20 (by decide) (fun c_1 => ?_) (fun c_1 => ?_)
  · skip
    refine z_iload_n h dX12_holds_20 rfl ?_
    refine z_bipush (v := 109) h dX12_holds_21 (by decide) ?_
    refine z_icmp_ne h dX12_holds_23 33 (by decide) (fun c_2 => ?_) (fun c_2 => ?_)
    · skip
      refine z_iload_n h dX12_holds_33 rfl ?_
      refine z_bipush (v := 99) h dX12_holds_34 (by decide) ?_
      refine z_icmp_ne h dX12_holds_36 54 (by decide) (fun c_3 => ?_) (fun c_3 => ?_)
      · skip
        refine z_aload_n h dX12_holds_54 rfl ?_
        refine y_getr h dX12_holds_55 hR flX12_45 (by first | assumption | exact Nat.le_of_ble_eq_true rfl) (by first | rfl | assumption | exact tx_2 (by first | assumption | omega) | exact tx_18 (by first | assumption | omega) | exact tx_19 (by first | assumption | omega) | exact tx_20 (by first | assumption | omega) | exact tx_27 (by first | assumption | omega) | exact tx_28 (by first | assumption | omega) | exact tx_30 (by first | assumption | omega) | exact tx_31 (by first | assumption | omega) | exact tx_32 (by first | assumption | omega) | exact tx_33 (by first | assumption | omega)) (by rfl) ?_
        refine z_callS h dX12_holds_58 (fun _ _ q => z_okv_no he q) (fun _ _ _ t q => absurd q (he t)) (m_X12_sum _ _ (119, 0) 12 (c (119, 0)) (hR.ia (Nat.le_of_ble_eq_true rfl) rfl) (by decide)) ym_X12_sum mlX12_195 sm_X12_sum rfl (by decide) (Nat.le_of_ble_eq_true rfl) ?_
        rintro q1 w1 ⟨rfl, hw1⟩
        have hw1 := hw1.symm; subst hw1
        refine z_toe (y := (n_rd (c (136, 0) i) (c (100, 0) 25) (c (100, 0) 24) (z_sum (c (120, 0)) 8 - c (100, 0) 22) (z_sum (c (119, 0)) 12))) (by unfold n_rd; rw [if_neg c_3, if_neg c_1, if_neg c_2]) ?_
        exact z_loc [(0, vr (100, 0)), (1, vi (nI i)), (2, vi (c (136, 0) i))] ⟨rfl, rfl, rfl, trivial⟩ join_61
      · skip
        refine z_aload_n h dX12_holds_39 rfl ?_
        refine y_getr h dX12_holds_40 hR flX12_48 (by first | assumption | exact Nat.le_of_ble_eq_true rfl) (by first | rfl | assumption | exact tx_2 (by first | assumption | omega) | exact tx_18 (by first | assumption | omega) | exact tx_19 (by first | assumption | omega) | exact tx_20 (by first | assumption | omega) | exact tx_27 (by first | assumption | omega) | exact tx_28 (by first | assumption | omega) | exact tx_30 (by first | assumption | omega) | exact tx_31 (by first | assumption | omega) | exact tx_32 (by first | assumption | omega) | exact tx_33 (by first | assumption | omega)) (by rfl) ?_
        refine z_callS h dX12_holds_43 (fun _ _ q => z_okv_no he q) (fun _ _ _ t q => absurd q (he t)) (m_X12_sum _ _ (120, 0) 8 (c (120, 0)) (hR.ia (Nat.le_of_ble_eq_true rfl) rfl) (by decide)) ym_X12_sum mlX12_195 sm_X12_sum rfl (by decide) (Nat.le_of_ble_eq_true rfl) ?_
        rintro q1 w1 ⟨rfl, hw1⟩
        have hw1 := hw1.symm; subst hw1
        refine z_aload_n h dX12_holds_46 rfl ?_
        refine y_geti h dX12_holds_47 hR flX12_199 (by first | assumption | exact Nat.le_of_ble_eq_true rfl) (by first | rfl | assumption | exact tx_2 (by first | assumption | omega) | exact tx_18 (by first | assumption | omega) | exact tx_19 (by first | assumption | omega) | exact tx_20 (by first | assumption | omega) | exact tx_27 (by first | assumption | omega) | exact tx_28 (by first | assumption | omega) | exact tx_30 (by first | assumption | omega) | exact tx_31 (by first | assumption | omega) | exact tx_32 (by first | assumption | omega) | exact tx_33 (by first | assumption | omega)) (by rfl) ?_
        refine z_isub h dX12_holds_50 ?_
        refine z_goto h dX12_holds_51 61 (by decide) ?_
        refine z_toe (y := (n_rd (c (136, 0) i) (c (100, 0) 25) (c (100, 0) 24) (z_sum (c (120, 0)) 8 - c (100, 0) 22) (z_sum (c (119, 0)) 12))) (by rw [c_3]; rfl) ?_
        exact z_loc [(0, vr (100, 0)), (1, vi (nI i)), (2, vi (c (136, 0) i))] ⟨rfl, rfl, rfl, trivial⟩ join_61
    · skip
      refine z_aload_n h dX12_holds_26 rfl ?_
      refine y_geti h dX12_holds_27 hR flX12_206 (by first | assumption | exact Nat.le_of_ble_eq_true rfl) (by first | rfl | assumption | exact tx_2 (by first | assumption | omega) | exact tx_18 (by first | assumption | omega) | exact tx_19 (by first | assumption | omega) | exact tx_20 (by first | assumption | omega) | exact tx_27 (by first | assumption | omega) | exact tx_28 (by first | assumption | omega) | exact tx_30 (by first | assumption | omega) | exact tx_31 (by first | assumption | omega) | exact tx_32 (by first | assumption | omega) | exact tx_33 (by first | assumption | omega)) (by rfl) ?_
      refine z_goto h dX12_holds_30 61 (by decide) ?_
      refine z_toe (y := (n_rd (c (136, 0) i) (c (100, 0) 25) (c (100, 0) 24) (z_sum (c (120, 0)) 8 - c (100, 0) 22) (z_sum (c (119, 0)) 12))) (by rw [c_2]; rfl) ?_
      exact z_loc [(0, vr (100, 0)), (1, vi (nI i)), (2, vi (c (136, 0) i))] ⟨rfl, rfl, rfl, trivial⟩ join_61
  · skip
    refine z_aload_n h dX12_holds_13 rfl ?_
    refine y_geti h dX12_holds_14 hR flX12_212 (by first | assumption | exact Nat.le_of_ble_eq_true rfl) (by first | rfl | assumption | exact tx_2 (by first | assumption | omega) | exact tx_18 (by first | assumption | omega) | exact tx_19 (by first | assumption | omega) | exact tx_20 (by first | assumption | omega) | exact tx_27 (by first | assumption | omega) | exact tx_28 (by first | assumption | omega) | exact tx_30 (by first | assumption | omega) | exact tx_31 (by first | assumption | omega) | exact tx_32 (by first | assumption | omega) | exact tx_33 (by first | assumption | omega)) (by rfl) ?_
    refine z_goto h dX12_holds_17 61 (by decide) ?_
    refine z_toe (y := (n_rd (c (136, 0) i) (c (100, 0) 25) (c (100, 0) 24) (z_sum (c (120, 0)) 8 - c (100, 0) 22) (z_sum (c (119, 0)) 12))) (by rw [c_1]; rfl) ?_
    exact z_loc [(0, vr (100, 0)), (1, vi (nI i)), (2, vi (c (136, 0) i))] ⟨rfl, rfl, rfl, trivial⟩ join_61
set_option maxHeartbeats 4000000 in
set_option maxRecDepth 100000 in
theorem m_X12_inForce (G : z_G) {g : Nat} {w0 w : z_w} {c : r_c} {l : r_l} {r : r_r} (hR : r_p dM (TM g) w0 c l r w) (nr : Nat) (hc6 : c (100, 0) 6 = nI nr) (hnr : nr ≤ 100) (b ho y : Int32) : z_M G yX12_inForce cX12_inForce 7 (some .int) 1 (0) (0) [vr (100, 0), vi b, vi ho, vi y] w (fun q w1 => q = some (vi (i_f (c (151, 0)) (c (152, 0)) (c (153, 0)) (c (154, 0)) b ho y nr).2) ∧ w1 = w) := by
  refine z_met ym_X12_inForce (by decide) ⟨Nat.le_of_ble_eq_true rfl, Nat.le_of_ble_eq_true rfl⟩ (fun X hG hn hmc hms hin h hr => ?_)
  have he := hr.2.2.2.2.2.1
  refine z_iconst (v := 0) h dX12_inForce_0 (by decide) ?_
  refine z_istore h dX12_inForce_1 (by rw [hn]; decide) ?_
  refine z_iconst (v := -1) h dX12_inForce_3 (by decide) ?_
  refine z_istore h dX12_inForce_4 (by rw [hn]; decide) ?_
  refine z_iconst (v := 0) h dX12_inForce_6 (by decide) ?_
  refine z_istore h dX12_inForce_7 (by rw [hn]; decide) ?_
  have loop_9 : ∀ (n_ : Nat) (i : Nat), i ≤ nr → nr + 1 ≤ i + n_ → z_V X 0 0 w 9 [(0, vr (100, 0)), (1, vi b), (2, vi ho), (3, vi y), (4, vi (i_f (c (151, 0)) (c (152, 0)) (c (153, 0)) (c (154, 0)) b ho y i).2), (5, vi (i_f (c (151, 0)) (c (152, 0)) (c (153, 0)) (c (154, 0)) b ho y i).1), (6, vi (nI i))] [] := by
    intro n_
    induction n_ with
    | zero => intros; omega
    | succ n_ ih_9 =>
      intro i hi hN
      refine z_iload h dX12_inForce_9 rfl ?_
      refine z_aload_n h dX12_inForce_11 rfl ?_
      refine y_geti h dX12_inForce_12 hR flX12_280 (by first | assumption | exact Nat.le_of_ble_eq_true rfl) (by first | rfl | assumption | exact tx_2 (by first | assumption | omega) | exact tx_18 (by first | assumption | omega) | exact tx_19 (by first | assumption | omega) | exact tx_20 (by first | assumption | omega) | exact tx_27 (by first | assumption | omega) | exact tx_28 (by first | assumption | omega) | exact tx_30 (by first | assumption | omega) | exact tx_31 (by first | assumption | omega) | exact tx_32 (by first | assumption | omega) | exact tx_33 (by first | assumption | omega)) (by rfl) ?_
      rw [hc6]
      refine z_icmp_ge h dX12_inForce_15 87 (by decide) (fun c_1 => ?_) (fun c_1 => ?_)
      · skip
        have e1 : nr ≤ i := (nI_leI (by omega) (by omega)).mp c_1
        have e2 : i = nr := by omega
        subst e2
        refine z_iload h dX12_inForce_87 rfl ?_
        exact z_iret h dX12_inForce_89 hr (⟨rfl, rfl⟩)
      · skip
        have e1 : ¬ nr ≤ i := fun q => c_1 ((nI_leI (by omega) (by omega)).mpr q)
        refine z_aload_n h dX12_inForce_18 rfl ?_
        refine y_getr h dX12_inForce_19 hR flX12_112 (by first | assumption | exact Nat.le_of_ble_eq_true rfl) (by first | rfl | assumption | exact tx_2 (by first | assumption | omega) | exact tx_18 (by first | assumption | omega) | exact tx_19 (by first | assumption | omega) | exact tx_20 (by first | assumption | omega) | exact tx_27 (by first | assumption | omega) | exact tx_28 (by first | assumption | omega) | exact tx_30 (by first | assumption | omega) | exact tx_31 (by first | assumption | omega) | exact tx_32 (by first | assumption | omega) | exact tx_33 (by first | assumption | omega)) (by rfl) ?_
        refine z_iload h dX12_inForce_22 rfl ?_
        refine y_iald h dX12_inForce_24 hR (by first | assumption | exact Nat.le_of_ble_eq_true rfl) (by first | rfl | assumption | exact tx_2 (by first | assumption | omega) | exact tx_18 (by first | assumption | omega) | exact tx_19 (by first | assumption | omega) | exact tx_20 (by first | assumption | omega) | exact tx_27 (by first | assumption | omega) | exact tx_28 (by first | assumption | omega) | exact tx_30 (by first | assumption | omega) | exact tx_31 (by first | assumption | omega) | exact tx_32 (by first | assumption | omega) | exact tx_33 (by first | assumption | omega)) (z_ixn (show i < 100 by omega) (by decide)) ?_
        refine z_iload_n h dX12_inForce_25 rfl ?_
        refine z_icmp_ne h dX12_inForce_26 81 (by decide) (fun c_2 => ?_) (fun c_2 => ?_)
        · skip
          refine z_iinc (v := 1) h dX12_inForce_81 rfl (by decide) (by rw [hn]; decide) ?_
          refine z_goto h dX12_inForce_84 9 (by decide) ?_
          have hst : i_f (c (151, 0)) (c (152, 0)) (c (153, 0)) (c (154, 0)) b ho y (i + 1) = i_f (c (151, 0)) (c (152, 0)) (c (153, 0)) (c (154, 0)) b ho y i := (if_neg (fun q => c_2 q.1.1))
          refine z_loc [(0, vr (100, 0)), (1, vi b), (2, vi ho), (3, vi y), (4, vi (i_f (c (151, 0)) (c (152, 0)) (c (153, 0)) (c (154, 0)) b ho y (i + 1)).2), (5, vi (i_f (c (151, 0)) (c (152, 0)) (c (153, 0)) (c (154, 0)) b ho y (i + 1)).1), (6, vi (nI (i + 1)))] ⟨rfl, rfl, rfl, rfl, by rw [hst]; rfl, by rw [hst]; rfl, congrArg (fun z => some (vi z)) (z_up i), trivial⟩ ?_
          exact ih_9 (i + 1) (by omega) (by omega)
        · skip
          refine z_aload_n h dX12_inForce_29 rfl ?_
          refine y_getr h dX12_inForce_30 hR flX12_115 (by first | assumption | exact Nat.le_of_ble_eq_true rfl) (by first | rfl | assumption | exact tx_2 (by first | assumption | omega) | exact tx_18 (by first | assumption | omega) | exact tx_19 (by first | assumption | omega) | exact tx_20 (by first | assumption | omega) | exact tx_27 (by first | assumption | omega) | exact tx_28 (by first | assumption | omega) | exact tx_30 (by first | assumption | omega) | exact tx_31 (by first | assumption | omega) | exact tx_32 (by first | assumption | omega) | exact tx_33 (by first | assumption | omega)) (by rfl) ?_
          refine z_iload h dX12_inForce_33 rfl ?_
          refine y_iald h dX12_inForce_35 hR (by first | assumption | exact Nat.le_of_ble_eq_true rfl) (by first | rfl | assumption | exact tx_2 (by first | assumption | omega) | exact tx_18 (by first | assumption | omega) | exact tx_19 (by first | assumption | omega) | exact tx_20 (by first | assumption | omega) | exact tx_27 (by first | assumption | omega) | exact tx_28 (by first | assumption | omega) | exact tx_30 (by first | assumption | omega) | exact tx_31 (by first | assumption | omega) | exact tx_32 (by first | assumption | omega) | exact tx_33 (by first | assumption | omega)) (z_ixn (show i < 100 by omega) (by decide)) ?_
          refine z_iload_n h dX12_inForce_36 rfl ?_
          refine z_icmp_ne h dX12_inForce_37 81 (by decide) (fun c_3 => ?_) (fun c_3 => ?_)
          · skip
            refine z_iinc (v := 1) h dX12_inForce_81 rfl (by decide) (by rw [hn]; decide) ?_
            refine z_goto h dX12_inForce_84 9 (by decide) ?_
            have hst : i_f (c (151, 0)) (c (152, 0)) (c (153, 0)) (c (154, 0)) b ho y (i + 1) = i_f (c (151, 0)) (c (152, 0)) (c (153, 0)) (c (154, 0)) b ho y i := (if_neg (fun q => c_3 q.1.2))
            refine z_loc [(0, vr (100, 0)), (1, vi b), (2, vi ho), (3, vi y), (4, vi (i_f (c (151, 0)) (c (152, 0)) (c (153, 0)) (c (154, 0)) b ho y (i + 1)).2), (5, vi (i_f (c (151, 0)) (c (152, 0)) (c (153, 0)) (c (154, 0)) b ho y (i + 1)).1), (6, vi (nI (i + 1)))] ⟨rfl, rfl, rfl, rfl, by rw [hst]; rfl, by rw [hst]; rfl, congrArg (fun z => some (vi z)) (z_up i), trivial⟩ ?_
            exact ih_9 (i + 1) (by omega) (by omega)
          · skip
            refine z_aload_n h dX12_inForce_40 rfl ?_
            refine y_getr h dX12_inForce_41 hR flX12_121 (by first | assumption | exact Nat.le_of_ble_eq_true rfl) (by first | rfl | assumption | exact tx_2 (by first | assumption | omega) | exact tx_18 (by first | assumption | omega) | exact tx_19 (by first | assumption | omega) | exact tx_20 (by first | assumption | omega) | exact tx_27 (by first | assumption | omega) | exact tx_28 (by first | assumption | omega) | exact tx_30 (by first | assumption | omega) | exact tx_31 (by first | assumption | omega) | exact tx_32 (by first | assumption | omega) | exact tx_33 (by first | assumption | omega)) (by rfl) ?_
            refine z_iload h dX12_inForce_44 rfl ?_
            refine y_iald h dX12_inForce_46 hR (by first | assumption | exact Nat.le_of_ble_eq_true rfl) (by first | rfl | assumption | exact tx_2 (by first | assumption | omega) | exact tx_18 (by first | assumption | omega) | exact tx_19 (by first | assumption | omega) | exact tx_20 (by first | assumption | omega) | exact tx_27 (by first | assumption | omega) | exact tx_28 (by first | assumption | omega) | exact tx_30 (by first | assumption | omega) | exact tx_31 (by first | assumption | omega) | exact tx_32 (by first | assumption | omega) | exact tx_33 (by first | assumption | omega)) (z_ixn (show i < 100 by omega) (by decide)) ?_
            refine z_iload_n h dX12_inForce_47 rfl ?_
            refine z_icmp_gt h dX12_inForce_48 81 (by decide) (fun c_5 => ?_) (fun c_5 => ?_)
            · skip
              refine z_iinc (v := 1) h dX12_inForce_81 rfl (by decide) (by rw [hn]; decide) ?_
              refine z_goto h dX12_inForce_84 9 (by decide) ?_
              have hst : i_f (c (151, 0)) (c (152, 0)) (c (153, 0)) (c (154, 0)) b ho y (i + 1) = i_f (c (151, 0)) (c (152, 0)) (c (153, 0)) (c (154, 0)) b ho y i := (if_neg (fun q => by have q3 := q.2.1; clear q; simp only [z_lt, z_le, z_ie] at *; omega))
              refine z_loc [(0, vr (100, 0)), (1, vi b), (2, vi ho), (3, vi y), (4, vi (i_f (c (151, 0)) (c (152, 0)) (c (153, 0)) (c (154, 0)) b ho y (i + 1)).2), (5, vi (i_f (c (151, 0)) (c (152, 0)) (c (153, 0)) (c (154, 0)) b ho y (i + 1)).1), (6, vi (nI (i + 1)))] ⟨rfl, rfl, rfl, rfl, by rw [hst]; rfl, by rw [hst]; rfl, congrArg (fun z => some (vi z)) (z_up i), trivial⟩ ?_
              exact ih_9 (i + 1) (by omega) (by omega)
            · skip
              refine z_aload_n h dX12_inForce_51 rfl ?_
              refine y_getr h dX12_inForce_52 hR flX12_121 (by first | assumption | exact Nat.le_of_ble_eq_true rfl) (by first | rfl | assumption | exact tx_2 (by first | assumption | omega) | exact tx_18 (by first | assumption | omega) | exact tx_19 (by first | assumption | omega) | exact tx_20 (by first | assumption | omega) | exact tx_27 (by first | assumption | omega) | exact tx_28 (by first | assumption | omega) | exact tx_30 (by first | assumption | omega) | exact tx_31 (by first | assumption | omega) | exact tx_32 (by first | assumption | omega) | exact tx_33 (by first | assumption | omega)) (by rfl) ?_
              refine z_iload h dX12_inForce_55 rfl ?_
              refine y_iald h dX12_inForce_57 hR (by first | assumption | exact Nat.le_of_ble_eq_true rfl) (by first | rfl | assumption | exact tx_2 (by first | assumption | omega) | exact tx_18 (by first | assumption | omega) | exact tx_19 (by first | assumption | omega) | exact tx_20 (by first | assumption | omega) | exact tx_27 (by first | assumption | omega) | exact tx_28 (by first | assumption | omega) | exact tx_30 (by first | assumption | omega) | exact tx_31 (by first | assumption | omega) | exact tx_32 (by first | assumption | omega) | exact tx_33 (by first | assumption | omega)) (z_ixn (show i < 100 by omega) (by decide)) ?_
              refine z_iload h dX12_inForce_58 rfl ?_
              refine z_icmp_lt h dX12_inForce_60 81 (by decide) (fun c_6 => ?_) (fun c_6 => ?_)
              · skip
                refine z_iinc (v := 1) h dX12_inForce_81 rfl (by decide) (by rw [hn]; decide) ?_
                refine z_goto h dX12_inForce_84 9 (by decide) ?_
                have hst : i_f (c (151, 0)) (c (152, 0)) (c (153, 0)) (c (154, 0)) b ho y (i + 1) = i_f (c (151, 0)) (c (152, 0)) (c (153, 0)) (c (154, 0)) b ho y i := (if_neg (fun q => by have q3 := q.2.2; clear q; simp only [z_lt, z_le, z_ie] at *; omega))
                refine z_loc [(0, vr (100, 0)), (1, vi b), (2, vi ho), (3, vi y), (4, vi (i_f (c (151, 0)) (c (152, 0)) (c (153, 0)) (c (154, 0)) b ho y (i + 1)).2), (5, vi (i_f (c (151, 0)) (c (152, 0)) (c (153, 0)) (c (154, 0)) b ho y (i + 1)).1), (6, vi (nI (i + 1)))] ⟨rfl, rfl, rfl, rfl, by rw [hst]; rfl, by rw [hst]; rfl, congrArg (fun z => some (vi z)) (z_up i), trivial⟩ ?_
                exact ih_9 (i + 1) (by omega) (by omega)
              · skip
                refine z_aload_n h dX12_inForce_63 rfl ?_
                refine y_getr h dX12_inForce_64 hR flX12_118 (by first | assumption | exact Nat.le_of_ble_eq_true rfl) (by first | rfl | assumption | exact tx_2 (by first | assumption | omega) | exact tx_18 (by first | assumption | omega) | exact tx_19 (by first | assumption | omega) | exact tx_20 (by first | assumption | omega) | exact tx_27 (by first | assumption | omega) | exact tx_28 (by first | assumption | omega) | exact tx_30 (by first | assumption | omega) | exact tx_31 (by first | assumption | omega) | exact tx_32 (by first | assumption | omega) | exact tx_33 (by first | assumption | omega)) (by rfl) ?_
                refine z_iload h dX12_inForce_67 rfl ?_
                refine y_iald h dX12_inForce_69 hR (by first | assumption | exact Nat.le_of_ble_eq_true rfl) (by first | rfl | assumption | exact tx_2 (by first | assumption | omega) | exact tx_18 (by first | assumption | omega) | exact tx_19 (by first | assumption | omega) | exact tx_20 (by first | assumption | omega) | exact tx_27 (by first | assumption | omega) | exact tx_28 (by first | assumption | omega) | exact tx_30 (by first | assumption | omega) | exact tx_31 (by first | assumption | omega) | exact tx_32 (by first | assumption | omega) | exact tx_33 (by first | assumption | omega)) (z_ixn (show i < 100 by omega) (by decide)) ?_
                refine z_istore h dX12_inForce_70 (by rw [hn]; decide) ?_
                refine z_aload_n h dX12_inForce_72 rfl ?_
                refine y_getr h dX12_inForce_73 hR flX12_121 (by first | assumption | exact Nat.le_of_ble_eq_true rfl) (by first | rfl | assumption | exact tx_2 (by first | assumption | omega) | exact tx_18 (by first | assumption | omega) | exact tx_19 (by first | assumption | omega) | exact tx_20 (by first | assumption | omega) | exact tx_27 (by first | assumption | omega) | exact tx_28 (by first | assumption | omega) | exact tx_30 (by first | assumption | omega) | exact tx_31 (by first | assumption | omega) | exact tx_32 (by first | assumption | omega) | exact tx_33 (by first | assumption | omega)) (by rfl) ?_
                refine z_iload h dX12_inForce_76 rfl ?_
                refine y_iald h dX12_inForce_78 hR (by first | assumption | exact Nat.le_of_ble_eq_true rfl) (by first | rfl | assumption | exact tx_2 (by first | assumption | omega) | exact tx_18 (by first | assumption | omega) | exact tx_19 (by first | assumption | omega) | exact tx_20 (by first | assumption | omega) | exact tx_27 (by first | assumption | omega) | exact tx_28 (by first | assumption | omega) | exact tx_30 (by first | assumption | omega) | exact tx_31 (by first | assumption | omega) | exact tx_32 (by first | assumption | omega) | exact tx_33 (by first | assumption | omega)) (z_ixn (show i < 100 by omega) (by decide)) ?_
                refine z_istore h dX12_inForce_79 (by rw [hn]; decide) ?_
                refine z_iinc (v := 1) h dX12_inForce_81 rfl (by decide) (by rw [hn]; decide) ?_
                refine z_goto h dX12_inForce_84 9 (by decide) ?_
                have hst : i_f (c (151, 0)) (c (152, 0)) (c (153, 0)) (c (154, 0)) b ho y (i + 1) = (c (154, 0) i, c (153, 0) i) := (if_pos ⟨⟨c_2, c_3⟩, by simp only [z_lt, z_le, z_ie] at *; omega, by simp only [z_lt, z_le, z_ie] at *; omega⟩)
                refine z_loc [(0, vr (100, 0)), (1, vi b), (2, vi ho), (3, vi y), (4, vi (i_f (c (151, 0)) (c (152, 0)) (c (153, 0)) (c (154, 0)) b ho y (i + 1)).2), (5, vi (i_f (c (151, 0)) (c (152, 0)) (c (153, 0)) (c (154, 0)) b ho y (i + 1)).1), (6, vi (nI (i + 1)))] ⟨rfl, rfl, rfl, rfl, by rw [hst]; rfl, by rw [hst]; rfl, congrArg (fun z => some (vi z)) (z_up i), trivial⟩ ?_
                exact ih_9 (i + 1) (by omega) (by omega)
  exact z_loc [(0, vr (100, 0)), (1, vi b), (2, vi ho), (3, vi y), (4, vi (i_f (c (151, 0)) (c (152, 0)) (c (153, 0)) (c (154, 0)) b ho y 0).2), (5, vi (i_f (c (151, 0)) (c (152, 0)) (c (153, 0)) (c (154, 0)) b ho y 0).1), (6, vi (nI 0))] ⟨rfl, rfl, rfl, rfl, rfl, rfl, rfl, trivial⟩ (loop_9 (nr + 1) 0 (by omega) (by omega))
theorem upd_upd {f : Nat → Int32} {k : Nat} {a b : Int32} : upd (upd f k a) k b = upd f k b := by
  funext j
  by_cases e : j = k
  · subst e; rw [pk_us, pk_us]
  · rw [pk_un e, pk_un e, pk_un e]
def mf_c (c : r_c) (j i : Nat) : r_c := r_cf (r_cf c (146, 0) (upd (c (146, 0)) j (g_le i (c (146, 0) j)))) (147, 0) (upd (c (147, 0)) j (g_gr i (c (147, 0) j)))
theorem mf_0 (c : r_c) (j : Nat) : mf_c c j 0 = c := by
  unfold mf_c
  rw [show g_le 0 (c (146, 0) j) = c (146, 0) j from rfl, show g_gr 0 (c (147, 0) j) = c (147, 0) j from rfl, upd_same, upd_same, r_cf_same, r_cf_same]
theorem mf_st {c : r_c} {j i : Nat} {x y : Int32} (hx : x = g_le (i + 1) (c (146, 0) j)) (hy : y = g_gr (i + 1) (c (147, 0) j)) : r_cs (r_cs (mf_c c j i) (146, 0) j x) (147, 0) j y = mf_c c j (i + 1) := by
  subst hx; subst hy
  have e1 : r_cs (mf_c c j i) (146, 0) j (g_le (i + 1) (c (146, 0) j)) = r_cf (r_cf c (146, 0) (upd (c (146, 0)) j (g_le (i + 1) (c (146, 0) j)))) (147, 0) (upd (c (147, 0)) j (g_gr i (c (147, 0) j))) := by
    unfold mf_c
    rw [r_cs, r_cf_ne (t := (147, 0)) (by simp), r_cf_self, upd_upd, r_cf_comm (t := (147, 0)) (u := (146, 0)) rfl, r_cf_cf]
  rw [e1, r_cs, r_cf_self, upd_upd, r_cf_cf]
  rfl
theorem mf_6 {c : r_c} {j i : Nat} : mf_c c j i (146, 0) j = g_le i (c (146, 0) j) := by unfold mf_c; rw [r_cf_ne (by simp), r_cf_self, pk_us]
theorem mf_7 {c : r_c} {j i : Nat} {x : Int32} : r_cs (mf_c c j i) (146, 0) j x (147, 0) j = g_gr i (c (147, 0) j) := by rw [r_cs, r_cf_ne (by simp)]; unfold mf_c; rw [r_cf_self, pk_us]
theorem mf_ne {c : r_c} {j i : Nat} {t : z_T} (h1 : t ≠ (146, 0)) (h2 : t ≠ (147, 0)) : mf_c c j i t = c t := by unfold mf_c; rw [r_cf_ne h2, r_cf_ne h1]
set_option maxHeartbeats 4000000 in
set_option maxRecDepth 100000 in
theorem m_X12_forge (G : z_G) {g : Nat} {w0 w : z_w} {c : r_c} {l : r_l} {r : r_r} (hR : r_p dM (TM g) w0 c l r w) (na : Nat) (hc2 : c (100, 0) 2 = nI na) (hna : na ≤ 100) (b n : Int32) : z_M G yX12_forge cX12_forge 4 (some .int) 3 (0) (0) [vr (100, 0), vi b, vi n] w (fun q w1 => if ix_ok b na ∧ (1 ≤ n ∧ n ≤ 9) ∧ c (149, 0) b.toNatClampNeg + n ≤ 9 then q = some (vi (if 0 < c (148, 0) b.toNatClampNeg - (c (149, 0) b.toNatClampNeg + n) / 2 then c (148, 0) b.toNatClampNeg - (c (149, 0) b.toNatClampNeg + n) / 2 else 0)) ∧ r_p dM (TM g) w0 (r_cs (mf_c c b.toNatClampNeg n.toNatClampNeg) (149, 0) b.toNatClampNeg (c (149, 0) b.toNatClampNeg + n)) (l) (r) w1 else q = some (vi (-1)) ∧ w1 = w) := by
  refine z_met ym_X12_forge (by decide) ⟨Nat.le_of_ble_eq_true rfl, Nat.le_of_ble_eq_true rfl⟩ (fun X hG hn hmc hms hin h hr => ?_)
  have he := hr.2.2.2.2.2.1
  refine z_aload_n h dX12_forge_0 rfl ?_
  refine z_iload_n h dX12_forge_1 rfl ?_
  refine z_callV h dX12_forge_2 (fun _ _ q => z_okv_no he q) (fun _ _ _ t q => absurd q (he t)) (m_X12_isBar _ hR na hc2 hna b) ym_X12_isBar mlX12_267 im_X12_isBar (ci := 12) rfl se_X12_isBar icX12 rfl (r_p.ob hR (by first | assumption | exact Nat.le_of_ble_eq_true rfl) (by first | rfl | assumption | exact tx_2 (by first | assumption | omega) | exact tx_18 (by first | assumption | omega) | exact tx_19 (by first | assumption | omega) | exact tx_20 (by first | assumption | omega) | exact tx_27 (by first | assumption | omega) | exact tx_28 (by first | assumption | omega) | exact tx_30 (by first | assumption | omega) | exact tx_31 (by first | assumption | omega) | exact tx_32 (by first | assumption | omega) | exact tx_33 (by first | assumption | omega))) rfl (by decide) (Nat.le_of_ble_eq_true rfl) ?_
  rintro q1 w1 ⟨rfl, hw1⟩
  have hw1 := hw1.symm; subst hw1
  refine z_if_eq h dX12_forge_5 31 (by decide) (fun c_1 => ?_) (fun c_1 => ?_)
  · skip
    refine z_iconst (v := -1) h dX12_forge_31 (by decide) ?_
    exact z_iret h dX12_forge_32 hr (z_f (fun q => z_bf c_1 q.1) ⟨rfl, rfl⟩)
  · skip
    have hix : ix_ok b na := z_bt c_1
    have hil := ix_lt hix (by omega)
    refine z_iload_n h dX12_forge_8 rfl ?_
    refine z_iconst (v := 1) h dX12_forge_9 (by decide) ?_
    refine z_bipush (v := 9) h dX12_forge_10 (by decide) ?_
    refine z_callS h dX12_forge_12 (fun _ _ q => z_okv_no he q) (fun _ _ _ t q => absurd q (he t)) (m_X12_in _ _ _ _ _) ym_X12_in mlX12_169 sm_X12_in rfl (by decide) (Nat.le_of_ble_eq_true rfl) ?_
    rintro q1 w1 ⟨rfl, hw1⟩
    have hw1 := hw1.symm; subst hw1
    refine z_if_eq h dX12_forge_15 31 (by decide) (fun c_2 => ?_) (fun c_2 => ?_)
    · skip
      refine z_iconst (v := -1) h dX12_forge_31 (by decide) ?_
      exact z_iret h dX12_forge_32 hr (z_f (fun q => z_bf c_2 q.2.1) ⟨rfl, rfl⟩)
    · skip
      refine z_aload_n h dX12_forge_18 rfl ?_
      refine y_getr h dX12_forge_19 hR flX12_106 (by first | assumption | exact Nat.le_of_ble_eq_true rfl) (by first | rfl | assumption | exact tx_2 (by first | assumption | omega) | exact tx_18 (by first | assumption | omega) | exact tx_19 (by first | assumption | omega) | exact tx_20 (by first | assumption | omega) | exact tx_27 (by first | assumption | omega) | exact tx_28 (by first | assumption | omega) | exact tx_30 (by first | assumption | omega) | exact tx_31 (by first | assumption | omega) | exact tx_32 (by first | assumption | omega) | exact tx_33 (by first | assumption | omega)) (by rfl) ?_
      refine z_iload_n h dX12_forge_22 rfl ?_
      refine y_iald h dX12_forge_23 hR (by first | assumption | exact Nat.le_of_ble_eq_true rfl) (by first | rfl | assumption | exact tx_2 (by first | assumption | omega) | exact tx_18 (by first | assumption | omega) | exact tx_19 (by first | assumption | omega) | exact tx_20 (by first | assumption | omega) | exact tx_27 (by first | assumption | omega) | exact tx_28 (by first | assumption | omega) | exact tx_30 (by first | assumption | omega) | exact tx_31 (by first | assumption | omega) | exact tx_32 (by first | assumption | omega) | exact tx_33 (by first | assumption | omega)) (z_ixe (ix_eq hix) (show b.toNatClampNeg < 100 by omega) (by decide)) ?_
      refine z_iload_n h dX12_forge_24 rfl ?_
      refine z_iadd h dX12_forge_25 ?_
      refine z_bipush (v := 9) h dX12_forge_26 (by decide) ?_
      refine z_icmp_le h dX12_forge_28 33 (by decide) (fun c_3 => ?_) (fun c_3 => ?_)
      · skip
        obtain ⟨hnn, hn1, hn9⟩ := z_rng (x := n) 1 9 (z_bt c_2) (by decide) (by decide)
        refine z_iconst (v := 0) h dX12_forge_33 (by decide) ?_
        refine z_istore_n h dX12_forge_34 (by rw [hn]; decide) ?_
        have loop_35 : ∀ (n_ : Nat) (i : Nat) (w : z_w), r_p dM (TM g) w0 (mf_c c b.toNatClampNeg i) l r w → i ≤ n.toNatClampNeg → n.toNatClampNeg + 1 ≤ i + n_ → z_V X 0 0 w 35 [(0, vr (100, 0)), (1, vi b), (2, vi n), (3, vi (nI i))] [] := by
          intro n_
          induction n_ with
          | zero => intros; omega
          | succ n_ ih_35 =>
            intro i w hR hi hN
            refine z_iload_n h dX12_forge_35 rfl ?_
            refine z_iload_n h dX12_forge_36 rfl ?_
            refine z_toe (y := nI n.toNatClampNeg) hnn ?_
            refine z_icmp_ge h dX12_forge_37 94 (by decide) (fun c_4 => ?_) (fun c_4 => ?_)
            · skip
              have e1 : n.toNatClampNeg ≤ i := (nI_leI (by omega) (by omega)).mp c_4
              have hi2 : i = n.toNatClampNeg := by omega
              rw [hi2] at hR
              refine z_aload_n h dX12_forge_94 rfl ?_
              refine y_getr h dX12_forge_95 hR flX12_106 (by first | assumption | exact Nat.le_of_ble_eq_true rfl) (by first | rfl | assumption | exact tx_2 (by first | assumption | omega) | exact tx_18 (by first | assumption | omega) | exact tx_19 (by first | assumption | omega) | exact tx_20 (by first | assumption | omega) | exact tx_27 (by first | assumption | omega) | exact tx_28 (by first | assumption | omega) | exact tx_30 (by first | assumption | omega) | exact tx_31 (by first | assumption | omega) | exact tx_32 (by first | assumption | omega) | exact tx_33 (by first | assumption | omega)) (by rfl) ?_
              refine z_iload_n h dX12_forge_98 rfl ?_
              refine z_dup2_ir h dX12_forge_99 ?_
              refine y_iald h dX12_forge_100 hR (by first | assumption | exact Nat.le_of_ble_eq_true rfl) (by first | rfl | assumption | exact tx_2 (by first | assumption | omega) | exact tx_18 (by first | assumption | omega) | exact tx_19 (by first | assumption | omega) | exact tx_20 (by first | assumption | omega) | exact tx_27 (by first | assumption | omega) | exact tx_28 (by first | assumption | omega) | exact tx_30 (by first | assumption | omega) | exact tx_31 (by first | assumption | omega) | exact tx_32 (by first | assumption | omega) | exact tx_33 (by first | assumption | omega)) (z_ixe (ix_eq hix) (show b.toNatClampNeg < 100 by omega) (by decide)) ?_
              refine z_iload_n h dX12_forge_101 rfl ?_
              refine z_iadd h dX12_forge_102 ?_
              refine z_toe (y := c (149, 0) b.toNatClampNeg + n) (by rw [mf_ne (by simp) (by simp)]) ?_
              refine y_iast h dX12_forge_103 hR (by first | assumption | exact Nat.le_of_ble_eq_true rfl) (by first | rfl | assumption | exact tx_2 (by first | assumption | omega) | exact tx_18 (by first | assumption | omega) | exact tx_19 (by first | assumption | omega) | exact tx_20 (by first | assumption | omega) | exact tx_27 (by first | assumption | omega) | exact tx_28 (by first | assumption | omega) | exact tx_30 (by first | assumption | omega) | exact tx_31 (by first | assumption | omega) | exact tx_32 (by first | assumption | omega) | exact tx_33 (by first | assumption | omega)) (z_ixe (ix_eq hix) (show b.toNatClampNeg < 100 by omega) (by decide)) (fun w hR => ?_)
              refine z_aload_n h dX12_forge_104 rfl ?_
              refine z_iload_n h dX12_forge_105 rfl ?_
              refine z_toe (y := nI b.toNatClampNeg) (ix_eq hix) ?_
              refine z_callV h dX12_forge_106 (fun _ _ q => z_okv_no he q) (fun _ _ _ t q => absurd q (he t)) (m_X12_sortOf _ hR b.toNatClampNeg (by omega)) ym_X12_sortOf mlX12_276 im_X12_sortOf (ci := 12) rfl se_X12_sortOf icX12 rfl (r_p.ob hR (by first | assumption | exact Nat.le_of_ble_eq_true rfl) (by first | rfl | assumption | exact tx_2 (by first | assumption | omega) | exact tx_18 (by first | assumption | omega) | exact tx_19 (by first | assumption | omega) | exact tx_20 (by first | assumption | omega) | exact tx_27 (by first | assumption | omega) | exact tx_28 (by first | assumption | omega) | exact tx_30 (by first | assumption | omega) | exact tx_31 (by first | assumption | omega) | exact tx_32 (by first | assumption | omega) | exact tx_33 (by first | assumption | omega))) rfl (by decide) (Nat.le_of_ble_eq_true rfl) ?_
              rintro q1 w1 ⟨rfl, hw1⟩
              have hw1 := hw1.symm; subst hw1
              exact z_iret h dX12_forge_109 hr (z_t ⟨hix, z_bt c_2, c_3⟩ ⟨z_e1 (by rw [r_cs, r_cf_self, r_cf_ne (by simp), mf_ne (by simp) (by simp), pk_us]), hR⟩)
            · skip
              have e1 : ¬ n.toNatClampNeg ≤ i := fun q => c_4 ((nI_leI (by omega) (by omega)).mpr q)
              refine z_aload_n h dX12_forge_40 rfl ?_
              refine y_getr h dX12_forge_41 hR flX12_97 (by first | assumption | exact Nat.le_of_ble_eq_true rfl) (by first | rfl | assumption | exact tx_2 (by first | assumption | omega) | exact tx_18 (by first | assumption | omega) | exact tx_19 (by first | assumption | omega) | exact tx_20 (by first | assumption | omega) | exact tx_27 (by first | assumption | omega) | exact tx_28 (by first | assumption | omega) | exact tx_30 (by first | assumption | omega) | exact tx_31 (by first | assumption | omega) | exact tx_32 (by first | assumption | omega) | exact tx_33 (by first | assumption | omega)) (by rfl) ?_
              refine z_iload_n h dX12_forge_44 rfl ?_
              refine z_ldc2 h dX12_forge_45 klX12_270 ?_
              refine z_aload_n h dX12_forge_48 rfl ?_
              refine y_getr h dX12_forge_49 hR flX12_97 (by first | assumption | exact Nat.le_of_ble_eq_true rfl) (by first | rfl | assumption | exact tx_2 (by first | assumption | omega) | exact tx_18 (by first | assumption | omega) | exact tx_19 (by first | assumption | omega) | exact tx_20 (by first | assumption | omega) | exact tx_27 (by first | assumption | omega) | exact tx_28 (by first | assumption | omega) | exact tx_30 (by first | assumption | omega) | exact tx_31 (by first | assumption | omega) | exact tx_32 (by first | assumption | omega) | exact tx_33 (by first | assumption | omega)) (by rfl) ?_
              refine z_iload_n h dX12_forge_52 rfl ?_
              refine y_iald h dX12_forge_53 hR (by first | assumption | exact Nat.le_of_ble_eq_true rfl) (by first | rfl | assumption | exact tx_2 (by first | assumption | omega) | exact tx_18 (by first | assumption | omega) | exact tx_19 (by first | assumption | omega) | exact tx_20 (by first | assumption | omega) | exact tx_27 (by first | assumption | omega) | exact tx_28 (by first | assumption | omega) | exact tx_30 (by first | assumption | omega) | exact tx_31 (by first | assumption | omega) | exact tx_32 (by first | assumption | omega) | exact tx_33 (by first | assumption | omega)) (z_ixe (ix_eq hix) (show b.toNatClampNeg < 100 by omega) (by decide)) ?_
              refine z_i2l h dX12_forge_54 ?_
              refine z_lmul h dX12_forge_55 ?_
              refine z_ldc2 h dX12_forge_56 klX12_272 ?_
              refine z_ldiv h dX12_forge_59 (by first | assumption | decide) ?_
              refine z_l2i h dX12_forge_60 ?_
              refine y_iast h dX12_forge_61 hR (by first | assumption | exact Nat.le_of_ble_eq_true rfl) (by first | rfl | assumption | exact tx_2 (by first | assumption | omega) | exact tx_18 (by first | assumption | omega) | exact tx_19 (by first | assumption | omega) | exact tx_20 (by first | assumption | omega) | exact tx_27 (by first | assumption | omega) | exact tx_28 (by first | assumption | omega) | exact tx_30 (by first | assumption | omega) | exact tx_31 (by first | assumption | omega) | exact tx_32 (by first | assumption | omega) | exact tx_33 (by first | assumption | omega)) (z_ixe (ix_eq hix) (show b.toNatClampNeg < 100 by omega) (by decide)) (fun w hR => ?_)
              refine z_aload_n h dX12_forge_62 rfl ?_
              refine y_getr h dX12_forge_63 hR flX12_100 (by first | assumption | exact Nat.le_of_ble_eq_true rfl) (by first | rfl | assumption | exact tx_2 (by first | assumption | omega) | exact tx_18 (by first | assumption | omega) | exact tx_19 (by first | assumption | omega) | exact tx_20 (by first | assumption | omega) | exact tx_27 (by first | assumption | omega) | exact tx_28 (by first | assumption | omega) | exact tx_30 (by first | assumption | omega) | exact tx_31 (by first | assumption | omega) | exact tx_32 (by first | assumption | omega) | exact tx_33 (by first | assumption | omega)) (by rfl) ?_
              refine z_iload_n h dX12_forge_66 rfl ?_
              refine z_ldc2 h dX12_forge_67 klX12_274 ?_
              refine z_aload_n h dX12_forge_70 rfl ?_
              refine y_getr h dX12_forge_71 hR flX12_100 (by first | assumption | exact Nat.le_of_ble_eq_true rfl) (by first | rfl | assumption | exact tx_2 (by first | assumption | omega) | exact tx_18 (by first | assumption | omega) | exact tx_19 (by first | assumption | omega) | exact tx_20 (by first | assumption | omega) | exact tx_27 (by first | assumption | omega) | exact tx_28 (by first | assumption | omega) | exact tx_30 (by first | assumption | omega) | exact tx_31 (by first | assumption | omega) | exact tx_32 (by first | assumption | omega) | exact tx_33 (by first | assumption | omega)) (by rfl) ?_
              refine z_iload_n h dX12_forge_74 rfl ?_
              refine y_iald h dX12_forge_75 hR (by first | assumption | exact Nat.le_of_ble_eq_true rfl) (by first | rfl | assumption | exact tx_2 (by first | assumption | omega) | exact tx_18 (by first | assumption | omega) | exact tx_19 (by first | assumption | omega) | exact tx_20 (by first | assumption | omega) | exact tx_27 (by first | assumption | omega) | exact tx_28 (by first | assumption | omega) | exact tx_30 (by first | assumption | omega) | exact tx_31 (by first | assumption | omega) | exact tx_32 (by first | assumption | omega) | exact tx_33 (by first | assumption | omega)) (z_ixe (ix_eq hix) (show b.toNatClampNeg < 100 by omega) (by decide)) ?_
              refine z_i2l h dX12_forge_76 ?_
              refine z_lmul h dX12_forge_77 ?_
              refine z_ldc2 h dX12_forge_78 klX12_274 ?_
              refine z_ladd h dX12_forge_81 ?_
              refine z_ldc2 h dX12_forge_82 klX12_272 ?_
              refine z_ldiv h dX12_forge_85 (by first | assumption | decide) ?_
              refine z_l2i h dX12_forge_86 ?_
              refine y_iast h dX12_forge_87 hR (by first | assumption | exact Nat.le_of_ble_eq_true rfl) (by first | rfl | assumption | exact tx_2 (by first | assumption | omega) | exact tx_18 (by first | assumption | omega) | exact tx_19 (by first | assumption | omega) | exact tx_20 (by first | assumption | omega) | exact tx_27 (by first | assumption | omega) | exact tx_28 (by first | assumption | omega) | exact tx_30 (by first | assumption | omega) | exact tx_31 (by first | assumption | omega) | exact tx_32 (by first | assumption | omega) | exact tx_33 (by first | assumption | omega)) (z_ixe (ix_eq hix) (show b.toNatClampNeg < 100 by omega) (by decide)) (fun w hR => ?_)
              refine z_iinc (v := 1) h dX12_forge_88 rfl (by decide) (by rw [hn]; decide) ?_
              refine z_goto h dX12_forge_91 35 (by decide) ?_
              refine z_loc [(0, vr (100, 0)), (1, vi b), (2, vi n), (3, vi (nI (i + 1)))] ⟨rfl, rfl, rfl, congrArg (fun z => some (vi z)) (z_up i), trivial⟩ ?_
              exact ih_35 (i + 1) w (by
                rw [mf_st (by rw [mf_6, Int64.mul_comm]; rfl) (by rw [mf_7, Int64.mul_comm]; rfl)] at hR
                exact hR) (by omega) (by omega)
        exact z_loc [(0, vr (100, 0)), (1, vi b), (2, vi n), (3, vi (nI 0))] ⟨rfl, rfl, rfl, rfl, trivial⟩ (loop_35 (n.toNatClampNeg + 1) 0 w (by rw [mf_0]; exact hR) (by omega) (by omega))
      · skip
        refine z_iconst (v := -1) h dX12_forge_31 (by decide) ?_
        exact z_iret h dX12_forge_32 hr (z_f (fun q => c_3 q.2.2) ⟨rfl, rfl⟩)
set_option maxHeartbeats 4000000 in
set_option maxRecDepth 100000 in
theorem m_X12_longer (G : z_G) (w : z_w) (t u : z_T) (n : Nat) (f : Nat → Int32) (hw : w t = some (z_ia n f)) (hu : w u = none) (hn0 : 0 < n) (hm : 2 * n < 60000000) : z_M G yX12_longer cX12_longer 3 (some (.array .int)) 1 (1) (2 * n) [vr t] w (fun q w1 => q = some (vr u) ∧ w1 = z_set w u (z_ia (2 * n) (fun k => if k < n then f k else 0))) := by
  refine z_met ym_X12_longer (by decide) ⟨Nat.le_of_ble_eq_true rfl, Nat.le_of_ble_eq_true rfl⟩ (fun X hG hn hmc hms hin h hr => ?_)
  have he := hr.2.2.2.2.2.1
  have htu : t ≠ u := fun e => by rw [e, hu] at hw; cases hw
  refine z_less (kC' := 0 + 1) (kS' := 0 + (2 * n)) (by omega) (by omega) ?_
  refine z_iconst (v := 2) h dX12_longer_0 (by decide) ?_
  refine z_aload_n h dX12_longer_1 rfl ?_
  refine z_alen h dX12_longer_2 hw (by decide) ?_
  refine z_toe (y := nI n) rfl ?_
  refine z_imul h dX12_longer_3 ?_
  refine z_toe (y := nI (2 * n)) (by show nI 2 * nI n = _; rw [nI_mul]) ?_
  refine z_newarr h dX12_longer_4 he 0 (.inl (fun _ => 0)) ⟨by decide, rfl, ac_int, fun _ _ _ => ⟨(_, .inl (fun _ => 0)), rfl, rfl⟩⟩ trivial rfl (by omega) u hu ?_
  refine z_astore_n h dX12_longer_6 (by rw [hn]; decide) ?_
  refine z_iconst (v := 0) h dX12_longer_7 (by decide) ?_
  refine z_istore_n h dX12_longer_8 (by rw [hn]; decide) ?_
  have loop_9 : ∀ (n_ : Nat) (i : Nat), i ≤ n → n + 1 ≤ i + n_ → z_V X 0 0 (z_set w u (z_ia (2 * n) (fun k => if k < i then f k else 0))) 9 [(0, vr t), (1, vr u), (2, vi (nI i))] [] := by
    intro n_
    induction n_ with
    | zero => intros; omega
    | succ n_ ih_9 =>
      intro i hi hN
      refine z_iload_n h dX12_longer_9 rfl ?_
      refine z_aload_n h dX12_longer_10 rfl ?_
      refine z_alen h dX12_longer_11 (by rw [z_set_ne htu]; exact hw) (by decide) ?_
      refine z_icmp_ge h dX12_longer_12 27 (by decide) (fun c_1 => ?_) (fun c_1 => ?_)
      · skip
        have e1 : n ≤ i := (nI_leI (by omega) (by omega)).mp c_1
        refine z_aload_n h dX12_longer_27 rfl ?_
        exact z_aret h dX12_longer_28 hr (Or.inr ⟨_, rfl⟩) (⟨rfl, by rw [show n = i by omega]⟩)
      · skip
        have e1 : ¬ n ≤ i := fun q => c_1 ((nI_leI (by omega) (by omega)).mpr q)
        refine z_aload_n h dX12_longer_15 rfl ?_
        refine z_iload_n h dX12_longer_16 rfl ?_
        refine z_aload_n h dX12_longer_17 rfl ?_
        refine z_iload_n h dX12_longer_18 rfl ?_
        refine z_iald h dX12_longer_19 (by rw [z_set_ne htu]; exact hw) (z_ixn (show i < n by omega) (by omega)) ?_
        refine z_iast h dX12_longer_20 (z_set_self _ _ _) (z_ixn (show i < 2 * n by omega) (by omega)) ?_
        refine z_iinc (v := 1) h dX12_longer_21 rfl (by decide) (by rw [hn]; decide) ?_
        refine z_goto h dX12_longer_24 9 (by decide) ?_
        refine z_loc [(0, vr t), (1, vr u), (2, vi (nI (i + 1)))] ⟨rfl, rfl, congrArg (fun z => some (vi z)) (z_up i), trivial⟩ ?_
        rw [z_set_set, z_upd_g (g := f)]
        exact ih_9 (i + 1) (by omega) (by omega)
  refine z_weq (w' := (z_set w u (z_ia (2 * n) (fun k => if k < 0 then f k else 0)))) (congrArg (fun z => z_set w u (z_ia (2 * n) z)) (funext fun k => (if_neg (by omega)).symm)) ?_
  exact z_loc [(0, vr t), (1, vr u), (2, vi (nI 0))] ⟨rfl, rfl, rfl, trivial⟩ (loop_9 (n + 1) 0 (by omega) (by omega))
