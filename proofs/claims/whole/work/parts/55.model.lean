/-! the reference: settling, paying -/
theorem s_m1_lt {m : Nat → Nat} (h : ∀ i, i < 8 → m i < 2 ^ 31) : ∀ i, i < 8 → s_m1 m i < 2 ^ 31 := fun i hi => by
  unfold s_m1
  by_cases q : p_sm m 8 = 0
  · rw [if_pos q]
    show (if i = 0 then 1 else 0) < _
    split <;> decide
  · rw [if_neg q]; exact h i hi
set_option maxHeartbeats 4000000 in
set_option maxRecDepth 100000 in
theorem m_X12_settle (G : z_G) {g : Nat} {w0 w : z_w} {c : r_c} {l : r_l} {r : r_r} (hR : r_p dM (TM g) w0 c l r w) (nb : Nat) (hc1 : c (100, 0) 1 = nI nb) (hnb : nb ≤ 12) (hg4 : g ≤ 4) (p bi co nl nr : Nat) (m : Nat → Nat) (hp : p < 60) (hpb : c (155, 0) p = nI bi) (hbi : bi < 100) (hpc : c (156, 0) p = nI co) (hco : co < 2 ^ 22) (hc4 : c (100, 0) 4 = nI nl) (hnl : nl ≤ 256 * 2 ^ g) (hnl8 : nl + 8 ≤ 4096) (hc6 : c (100, 0) 6 = nI nr) (hnr : nr ≤ 100) (hm : ∀ h, h < 8 → m h < 2 ^ 31 ∧ ms_l c bi nr (c (157, 0) p) h nb = lN (m h)) : z_M G yX12_settle cX12_settle 7 (some .int) 2 (if nl + cn (fun h => s_sh co m h - c (158, 0) (8 * p + h)) 8 ≤ 256 * 2 ^ g then 0 else 4) (if nl + cn (fun h => s_sh co m h - c (158, 0) (8 * p + h)) 8 ≤ 256 * 2 ^ g then 0 else 2048 * 2 ^ g) [vr (100, 0), vi (nI p)] w (fun q w1 => q = some (vi (nI (cn (fun h => s_sh co m h - c (158, 0) (8 * p + h)) 8))) ∧ ∃ g1 c1 l1, r_p dM (TM g1) w0 c1 l1 r w1 ∧ MLN c g nl p (fun h => s_sh co m h - c (158, 0) (8 * p + h)) (c (100, 0) 0) 8 c1 g1 ∧ (∀ j, c1 (158, 0) j = if 8 * p ≤ j ∧ j < 8 * p + 8 then s_sh co m (j - 8 * p) else c (158, 0) j) ∧ (∀ k, k ≠ 4 → c1 (100, 0) k = c (100, 0) k) ∧ (∀ t, t ≠ (100, 0) → t ≠ (117, 0) → t ≠ (118, 0) → t ≠ (158, 0) → t ≠ (159, 0) → ¬ (160 ≤ t.1 ∧ t.1 ≤ 163) → c1 t = c t)) := by
  refine z_met ym_X12_settle (by decide) ⟨Nat.le_of_ble_eq_true rfl, Nat.le_of_ble_eq_true rfl⟩ (fun X hG hn hmc hms hin h hr => ?_)
  have he := hr.2.2.2.2.2.1
  obtain ⟨d_, hdd'⟩ : ∃ d_, d_ = (fun h => s_sh co m h - c (158, 0) (8 * p + h)) := ⟨_, rfl⟩
  have hdd : ∀ h, d_ h = s_sh co m h - c (158, 0) (8 * p + h) := fun h => by rw [hdd']
  rw [← hdd']
  obtain ⟨kC0, hkC0⟩ : ∃ k, k = (if nl + cn d_ 8 ≤ 256 * 2 ^ g then 0 else 4) := ⟨_, rfl⟩
  obtain ⟨kS0, hkS0⟩ : ∃ k, k = (if nl + cn d_ 8 ≤ 256 * 2 ^ g then 0 else 2048 * 2 ^ g) := ⟨_, rfl⟩
  rw [← hkC0, ← hkS0]
  have hgp : 0 < 2 ^ g := Nat.pow_pos (by omega)
  have hgp4 : 2 ^ g ≤ 2 ^ 4 := Nat.pow_le_pow_right (by omega) hg4
  refine z_lconst (v := 0) h dX12_settle_0 (by decide) ?_
  refine z_lstore_n h dX12_settle_1 (by rw [hn]; decide) ?_
  refine z_iconst (v := 0) h dX12_settle_2 (by decide) ?_
  refine z_istore h dX12_settle_3 (by rw [hn]; decide) ?_
  have loop_5 : ∀ (n_ : Nat) (h_ : Nat) (lf : Nat → Int64) (w : z_w), r_p dM (TM g) w0 c (r_cf l (116, 0) lf) r w → (∀ i, i < h_ → lf i = lN (m i)) → h_ ≤ 8 → 8 + 1 ≤ h_ + n_ → z_V X kC0 kS0 w 5 [(0, vr (100, 0)), (1, vi (nI p)), (2, vl (lN (p_sm m h_))), (4, vi (nI h_))] [] := by
    intro n_
    induction n_ with
    | zero => intros; omega
    | succ n_ ih_5 =>
      intro h_ lf w hR hlf hh hN
      refine z_iload h dX12_settle_5 rfl ?_
      refine z_bipush (v := 8) h dX12_settle_7 (by decide) ?_
      refine z_icmp_ge h dX12_settle_9 98 (by decide) (fun c_1 => ?_) (fun c_1 => ?_)
      · skip
        have e1 : 8 ≤ h_ := (nI_leI (a := 8) (by omega) (by omega)).mp c_1
        have join_111 : ∀ (lf : Nat → Int64) (w : z_w), r_p dM (TM g) w0 c (r_cf l (116, 0) lf) r w → (∀ i, i < 8 → lf i = lN (s_m1 m i)) → z_V X kC0 kS0 w 111 [(0, vr (100, 0)), (1, vi (nI p))] [] := by
          intro lf w hR hlf
          refine z_aload_n h dX12_settle_111 rfl ?_
          refine z_aload_n h dX12_settle_112 rfl ?_
          refine y_getr h dX12_settle_113 hR flX12_127 (by first | assumption | exact Nat.le_of_ble_eq_true rfl) (by first | rfl | assumption | exact tx_2 (by first | assumption | omega) | exact tx_18 (by first | assumption | omega) | exact tx_19 (by first | assumption | omega) | exact tx_20 (by first | assumption | omega) | exact tx_27 (by first | assumption | omega) | exact tx_28 (by first | assumption | omega) | exact tx_30 (by first | assumption | omega) | exact tx_31 (by first | assumption | omega) | exact tx_32 (by first | assumption | omega) | exact tx_33 (by first | assumption | omega)) (by rfl) ?_
          refine z_iload_n h dX12_settle_116 rfl ?_
          refine y_iald h dX12_settle_117 hR (by first | assumption | exact Nat.le_of_ble_eq_true rfl) (by first | rfl | assumption | exact tx_2 (by first | assumption | omega) | exact tx_18 (by first | assumption | omega) | exact tx_19 (by first | assumption | omega) | exact tx_20 (by first | assumption | omega) | exact tx_27 (by first | assumption | omega) | exact tx_28 (by first | assumption | omega) | exact tx_30 (by first | assumption | omega) | exact tx_31 (by first | assumption | omega) | exact tx_32 (by first | assumption | omega) | exact tx_33 (by first | assumption | omega)) (z_ixn (show p < 60 by omega) (by decide)) ?_
          refine z_toe (y := nI co) hpc ?_
          refine z_i2l h dX12_settle_118 ?_
          refine z_tole (y := lN co) (nI_l (by omega)) ?_
          refine z_bipush (v := 8) h dX12_settle_119 (by decide) ?_
          refine z_toe (y := nI 8) rfl ?_
          refine z_callV h dX12_settle_121 (fun _ _ q => z_okv_no he q) (fun _ _ _ t q => absurd q (he t)) (m_X12_partAmong _ hR 8 co (s_m1 m) (by omega) (by omega) hco (fun i hi => ⟨s_m1_lt (fun i hi => (hm i hi).1) i hi, by rw [r_cf_self]; exact hlf i hi⟩) (s_m1_pos m)) ym_X12_partAmong mlX12_173 im_X12_partAmong (ci := 12) rfl se_X12_partAmong icX12 rfl (r_p.ob hR (by first | assumption | exact Nat.le_of_ble_eq_true rfl) (by first | rfl | assumption | exact tx_2 (by first | assumption | omega) | exact tx_18 (by first | assumption | omega) | exact tx_19 (by first | assumption | omega) | exact tx_20 (by first | assumption | omega) | exact tx_27 (by first | assumption | omega) | exact tx_28 (by first | assumption | omega) | exact tx_30 (by first | assumption | omega) | exact tx_31 (by first | assumption | omega) | exact tx_32 (by first | assumption | omega) | exact tx_33 (by first | assumption | omega))) rfl (by decide) (Nat.le_of_ble_eq_true rfl) ?_
          rintro q1 w ⟨rfl, mo, hR⟩
          obtain ⟨lX, hlX⟩ : ∃ lX, lX = r_cf l (116, 0) lf := ⟨_, rfl⟩
          rw [← hlX] at hR
          obtain ⟨cZ, hcZ⟩ : ∃ cZ, cZ = MP c (fun i => if i < 8 then nI (part co (s_m1 m) 8 i) else c (117, 0) i) mo := ⟨_, rfl⟩
          rw [← hcZ] at hR
          have nZ : ∀ t, t ≠ (117, 0) → t ≠ (118, 0) → cZ t = c t := fun t h1 h2 => by rw [hcZ, mp_ne h1 h2]
          have s117 : ∀ i, i < 8 → cZ (117, 0) i = s_sh co m i := fun i hi => by rw [hcZ, mp_S, if_pos hi]; exact s_sh_m1 hi
          refine z_iconst (v := 0) h dX12_settle_124 (by decide) ?_
          refine z_istore h dX12_settle_125 (by rw [hn]; decide) ?_
          refine z_iconst (v := 0) h dX12_settle_127 (by decide) ?_
          refine z_istore h dX12_settle_128 (by rw [hn]; decide) ?_
          have loop_130 : ∀ (n_ : Nat) (h_ : Nat) (w : z_w) (c1 : r_c) (g1 kC kS : Nat), r_p dM (TM g1) w0 c1 lX r w → MLN c g nl p d_ (c (100, 0) 0) h_ c1 g1 → (∀ i, i < 8 → c1 (117, 0) i = s_sh co m i) → (∀ j, c1 (158, 0) j = if 8 * p ≤ j ∧ j < 8 * p + h_ then s_sh co m (j - 8 * p) else c (158, 0) j) → (∀ k, k ≠ 4 → c1 (100, 0) k = c (100, 0) k) → (∀ t, t ≠ (100, 0) → t ≠ (117, 0) → t ≠ (118, 0) → t ≠ (158, 0) → t ≠ (159, 0) → ¬ (160 ≤ t.1 ∧ t.1 ≤ 163) → c1 t = c t) → ((g1 = g ∧ (nl + cn d_ 8 ≤ 256 * 2 ^ g ∨ (kC = 4 ∧ kS = 2048 * 2 ^ g))) ∨ g1 = g + 1) → h_ ≤ 8 → 8 + 1 ≤ h_ + n_ → z_V X kC kS w 130 [(0, vr (100, 0)), (1, vi (nI p)), (4, vi (nI (cn d_ h_))), (5, vi (nI h_))] [] := by
            intro n_
            induction n_ with
            | zero => intros; omega
            | succ n_ ih_130 =>
              intro h_ w c1 g1 kC kS hR hLN h117 h158 h100 hfr hbud hi hN
              have hcl8 := cn_le d_ h_
              have hcm := cn_mono d_ hi
              refine z_iload h dX12_settle_130 rfl ?_
              refine z_bipush (v := 8) h dX12_settle_132 (by decide) ?_
              refine z_icmp_ge h dX12_settle_134 318 (by decide) (fun c_5 => ?_) (fun c_5 => ?_)
              · skip
                have e1 : 8 ≤ h_ := (nI_leI (a := 8) (by omega) (by omega)).mp c_5
                refine z_iload h dX12_settle_318 rfl ?_
                exact z_iret h dX12_settle_320 hr (⟨by rw [← hdd', show h_ = 8 by omega], g1, c1, lX, hR, by rw [← hdd']; exact (show h_ = 8 by omega) ▸ hLN, fun j => by rw [h158 j, show h_ = 8 by omega], h100, hfr⟩)
              · skip
                have e1 : ¬ 8 ≤ h_ := fun q => c_5 ((nI_leI (a := 8) (by omega) (by omega)).mpr q)
                refine z_aload_n h dX12_settle_137 rfl ?_
                refine y_getr h dX12_settle_138 hR flX12_38 (by first | assumption | exact Nat.le_of_ble_eq_true rfl) (by first | rfl | assumption | exact tx_2 (by first | assumption | omega) | exact tx_18 (by first | assumption | omega) | exact tx_19 (by first | assumption | omega) | exact tx_20 (by first | assumption | omega) | exact tx_27 (by first | assumption | omega) | exact tx_28 (by first | assumption | omega) | exact tx_30 (by first | assumption | omega) | exact tx_31 (by first | assumption | omega) | exact tx_32 (by first | assumption | omega) | exact tx_33 (by first | assumption | omega)) (by rfl) ?_
                refine z_iload h dX12_settle_141 rfl ?_
                refine y_iald h dX12_settle_143 hR (by first | assumption | exact Nat.le_of_ble_eq_true rfl) (by first | rfl | assumption | exact tx_2 (by first | assumption | omega) | exact tx_18 (by first | assumption | omega) | exact tx_19 (by first | assumption | omega) | exact tx_20 (by first | assumption | omega) | exact tx_27 (by first | assumption | omega) | exact tx_28 (by first | assumption | omega) | exact tx_30 (by first | assumption | omega) | exact tx_31 (by first | assumption | omega) | exact tx_32 (by first | assumption | omega) | exact tx_33 (by first | assumption | omega)) (z_ixn (show h_ < 12 by omega) (by decide)) ?_
                rw [h117 h_ (by omega)]
                refine z_aload_n h dX12_settle_144 rfl ?_
                refine y_getr h dX12_settle_145 hR flX12_133 (by first | assumption | exact Nat.le_of_ble_eq_true rfl) (by first | rfl | assumption | exact tx_2 (by first | assumption | omega) | exact tx_18 (by first | assumption | omega) | exact tx_19 (by first | assumption | omega) | exact tx_20 (by first | assumption | omega) | exact tx_27 (by first | assumption | omega) | exact tx_28 (by first | assumption | omega) | exact tx_30 (by first | assumption | omega) | exact tx_31 (by first | assumption | omega) | exact tx_32 (by first | assumption | omega) | exact tx_33 (by first | assumption | omega)) (by rfl) ?_
                refine z_bipush (v := 8) h dX12_settle_148 (by decide) ?_
                refine z_iload_n h dX12_settle_150 rfl ?_
                refine z_imul h dX12_settle_151 ?_
                refine z_iload h dX12_settle_152 rfl ?_
                refine z_iadd h dX12_settle_154 ?_
                refine z_toe (y := nI (8 * p + h_)) (by show nI 8 * nI p + nI h_ = _; rw [nI_mul, nI_add]) ?_
                refine y_iald h dX12_settle_155 hR (by first | assumption | exact Nat.le_of_ble_eq_true rfl) (by first | rfl | assumption | exact tx_2 (by first | assumption | omega) | exact tx_18 (by first | assumption | omega) | exact tx_19 (by first | assumption | omega) | exact tx_20 (by first | assumption | omega) | exact tx_27 (by first | assumption | omega) | exact tx_28 (by first | assumption | omega) | exact tx_30 (by first | assumption | omega) | exact tx_31 (by first | assumption | omega) | exact tx_32 (by first | assumption | omega) | exact tx_33 (by first | assumption | omega)) (z_ixn (show 8 * p + h_ < 480 by omega) (by decide)) ?_
                refine z_isub h dX12_settle_156 ?_
                refine z_toe (y := d_ h_) (by rw [h158, if_neg (by omega), hdd]) ?_
                refine z_istore h dX12_settle_157 (by rw [hn]; decide) ?_
                refine z_iload h dX12_settle_159 rfl ?_
                refine z_if_ne h dX12_settle_161 167 (by decide) (fun c_6 => ?_) (fun c_6 => ?_)
                · skip
                  have hd0 : ¬ d_ h_ = 0 := c_6
                  have join_223 : ∀ (g2 kC2 kS2 : Nat) (c2 : r_c) (w : z_w), r_p dM (TM g2) w0 c2 lX r w → MGR c1 g1 (nl + cn d_ h_) c2 g2 → ((g2 = g ∧ (nl + cn d_ 8 ≤ 256 * 2 ^ g ∨ (kC2 = 4 ∧ kS2 = 2048 * 2 ^ g))) ∨ g2 = g + 1) → z_V X kC2 kS2 w 223 [(0, vr (100, 0)), (1, vi (nI p)), (4, vi (nI (cn d_ h_))), (5, vi (nI h_)), (6, vi (d_ h_))] [] := by
                    intro g2 kC2 kS2 c2 w hR hM hbud2
                    have hg2 : g2 ≤ 5 := by
                      rcases hbud2 with ⟨q, _⟩ | q <;> omega
                    have hp2 : 2 ^ g2 ≤ 2 ^ 5 := Nat.pow_le_pow_right (by omega) hg2
                    have hm2 := hM.2.1
                    have hMf := hM.2.2.2
                    have o100 : c2 (100, 0) = c1 (100, 0) := hMf (100, 0) (by simp)
                    have o4 : c2 (100, 0) 4 = nI (nl + cn d_ h_) := by rw [o100]; exact hLN.2.2.2.2
                    have o0 : c2 (100, 0) 0 = c (100, 0) 0 := by rw [o100]; exact h100 0 (by decide)
                    refine z_aload_n h dX12_settle_223 rfl ?_
                    refine y_getr h dX12_settle_224 hR flX12_139 (by first | assumption | exact Nat.le_of_ble_eq_true rfl) (by first | rfl | assumption | exact tx_2 (by first | assumption | omega) | exact tx_18 (by first | assumption | omega) | exact tx_19 (by first | assumption | omega) | exact tx_20 (by first | assumption | omega) | exact tx_27 (by first | assumption | omega) | exact tx_28 (by first | assumption | omega) | exact tx_30 (by first | assumption | omega) | exact tx_31 (by first | assumption | omega) | exact tx_32 (by first | assumption | omega) | exact tx_33 (by first | assumption | omega)) (by rfl) ?_
                    refine z_aload_n h dX12_settle_227 rfl ?_
                    refine y_geti h dX12_settle_228 hR flX12_287 (by first | assumption | exact Nat.le_of_ble_eq_true rfl) (by first | rfl | assumption | exact tx_2 (by first | assumption | omega) | exact tx_18 (by first | assumption | omega) | exact tx_19 (by first | assumption | omega) | exact tx_20 (by first | assumption | omega) | exact tx_27 (by first | assumption | omega) | exact tx_28 (by first | assumption | omega) | exact tx_30 (by first | assumption | omega) | exact tx_31 (by first | assumption | omega) | exact tx_32 (by first | assumption | omega) | exact tx_33 (by first | assumption | omega)) (by rfl) ?_
                    refine z_toe (y := nI (nl + cn d_ h_)) (o4) ?_
                    refine z_aload_n h dX12_settle_231 rfl ?_
                    refine y_geti h dX12_settle_232 hR flX12_191 (by first | assumption | exact Nat.le_of_ble_eq_true rfl) (by first | rfl | assumption | exact tx_2 (by first | assumption | omega) | exact tx_18 (by first | assumption | omega) | exact tx_19 (by first | assumption | omega) | exact tx_20 (by first | assumption | omega) | exact tx_27 (by first | assumption | omega) | exact tx_28 (by first | assumption | omega) | exact tx_30 (by first | assumption | omega) | exact tx_31 (by first | assumption | omega) | exact tx_32 (by first | assumption | omega) | exact tx_33 (by first | assumption | omega)) (by rfl) ?_
                    rw [o0]
                    refine y_iast h dX12_settle_235 hR (by first | assumption | exact Nat.le_of_ble_eq_true rfl) (tm_160 (Nat.le_refl g2)) (z_ixn (show nl + cn d_ h_ < 256 * 2 ^ g2 by omega) (by omega)) (fun w hR => ?_)
                    obtain ⟨cP, hcP⟩ : ∃ cP, cP = r_cs c2 (160, g2) (nl + cn d_ h_) (c (100, 0) 0) := ⟨_, rfl⟩
                    rw [← hcP] at hR
                    have eP : cP (160, g2) = upd (c2 (160, g2)) (nl + cn d_ h_) (c (100, 0) 0) := by rw [hcP, r_cs, r_cf_self]
                    have nP : ∀ t, t ≠ (160, g2) → cP t = c2 t := fun t h => by rw [hcP, r_cs, r_cf_ne h]
                    have pP : cP (100, 0) = c2 (100, 0) := nP _ (by simp)
                    refine z_aload_n h dX12_settle_236 rfl ?_
                    refine y_getr h dX12_settle_237 hR flX12_142 (by first | assumption | exact Nat.le_of_ble_eq_true rfl) (by first | rfl | assumption | exact tx_2 (by first | assumption | omega) | exact tx_18 (by first | assumption | omega) | exact tx_19 (by first | assumption | omega) | exact tx_20 (by first | assumption | omega) | exact tx_27 (by first | assumption | omega) | exact tx_28 (by first | assumption | omega) | exact tx_30 (by first | assumption | omega) | exact tx_31 (by first | assumption | omega) | exact tx_32 (by first | assumption | omega) | exact tx_33 (by first | assumption | omega)) (by rfl) ?_
                    refine z_aload_n h dX12_settle_240 rfl ?_
                    refine y_geti h dX12_settle_241 hR flX12_287 (by first | assumption | exact Nat.le_of_ble_eq_true rfl) (by first | rfl | assumption | exact tx_2 (by first | assumption | omega) | exact tx_18 (by first | assumption | omega) | exact tx_19 (by first | assumption | omega) | exact tx_20 (by first | assumption | omega) | exact tx_27 (by first | assumption | omega) | exact tx_28 (by first | assumption | omega) | exact tx_30 (by first | assumption | omega) | exact tx_31 (by first | assumption | omega) | exact tx_32 (by first | assumption | omega) | exact tx_33 (by first | assumption | omega)) (by rfl) ?_
                    refine z_toe (y := nI (nl + cn d_ h_)) (by rw [pP]; exact o4) ?_
                    refine z_iload_n h dX12_settle_244 rfl ?_
                    refine y_iast h dX12_settle_245 hR (by first | assumption | exact Nat.le_of_ble_eq_true rfl) (tm_161 (Nat.le_refl g2)) (z_ixn (show nl + cn d_ h_ < 256 * 2 ^ g2 by omega) (by omega)) (fun w hR => ?_)
                    obtain ⟨cQ, hcQ⟩ : ∃ cQ, cQ = r_cs cP (161, g2) (nl + cn d_ h_) (nI p) := ⟨_, rfl⟩
                    rw [← hcQ] at hR
                    have eQ : cQ (161, g2) = upd (cP (161, g2)) (nl + cn d_ h_) (nI p) := by rw [hcQ, r_cs, r_cf_self]
                    have nQ : ∀ t, t ≠ (161, g2) → cQ t = cP t := fun t h => by rw [hcQ, r_cs, r_cf_ne h]
                    have pQ : cQ (100, 0) = c2 (100, 0) := (nQ _ (by simp)).trans pP
                    refine z_aload_n h dX12_settle_246 rfl ?_
                    refine y_getr h dX12_settle_247 hR flX12_145 (by first | assumption | exact Nat.le_of_ble_eq_true rfl) (by first | rfl | assumption | exact tx_2 (by first | assumption | omega) | exact tx_18 (by first | assumption | omega) | exact tx_19 (by first | assumption | omega) | exact tx_20 (by first | assumption | omega) | exact tx_27 (by first | assumption | omega) | exact tx_28 (by first | assumption | omega) | exact tx_30 (by first | assumption | omega) | exact tx_31 (by first | assumption | omega) | exact tx_32 (by first | assumption | omega) | exact tx_33 (by first | assumption | omega)) (by rfl) ?_
                    refine z_aload_n h dX12_settle_250 rfl ?_
                    refine y_geti h dX12_settle_251 hR flX12_287 (by first | assumption | exact Nat.le_of_ble_eq_true rfl) (by first | rfl | assumption | exact tx_2 (by first | assumption | omega) | exact tx_18 (by first | assumption | omega) | exact tx_19 (by first | assumption | omega) | exact tx_20 (by first | assumption | omega) | exact tx_27 (by first | assumption | omega) | exact tx_28 (by first | assumption | omega) | exact tx_30 (by first | assumption | omega) | exact tx_31 (by first | assumption | omega) | exact tx_32 (by first | assumption | omega) | exact tx_33 (by first | assumption | omega)) (by rfl) ?_
                    refine z_toe (y := nI (nl + cn d_ h_)) (by rw [pQ]; exact o4) ?_
                    refine z_iload h dX12_settle_254 rfl ?_
                    refine y_iast h dX12_settle_256 hR (by first | assumption | exact Nat.le_of_ble_eq_true rfl) (tm_162 (Nat.le_refl g2)) (z_ixn (show nl + cn d_ h_ < 256 * 2 ^ g2 by omega) (by omega)) (fun w hR => ?_)
                    obtain ⟨cR, hcR⟩ : ∃ cR, cR = r_cs cQ (162, g2) (nl + cn d_ h_) (nI h_) := ⟨_, rfl⟩
                    rw [← hcR] at hR
                    have eR : cR (162, g2) = upd (cQ (162, g2)) (nl + cn d_ h_) (nI h_) := by rw [hcR, r_cs, r_cf_self]
                    have nR : ∀ t, t ≠ (162, g2) → cR t = cQ t := fun t h => by rw [hcR, r_cs, r_cf_ne h]
                    have pR : cR (100, 0) = c2 (100, 0) := (nR _ (by simp)).trans pQ
                    refine z_aload_n h dX12_settle_257 rfl ?_
                    refine y_getr h dX12_settle_258 hR flX12_148 (by first | assumption | exact Nat.le_of_ble_eq_true rfl) (by first | rfl | assumption | exact tx_2 (by first | assumption | omega) | exact tx_18 (by first | assumption | omega) | exact tx_19 (by first | assumption | omega) | exact tx_20 (by first | assumption | omega) | exact tx_27 (by first | assumption | omega) | exact tx_28 (by first | assumption | omega) | exact tx_30 (by first | assumption | omega) | exact tx_31 (by first | assumption | omega) | exact tx_32 (by first | assumption | omega) | exact tx_33 (by first | assumption | omega)) (by rfl) ?_
                    refine z_aload_n h dX12_settle_261 rfl ?_
                    refine y_geti h dX12_settle_262 hR flX12_287 (by first | assumption | exact Nat.le_of_ble_eq_true rfl) (by first | rfl | assumption | exact tx_2 (by first | assumption | omega) | exact tx_18 (by first | assumption | omega) | exact tx_19 (by first | assumption | omega) | exact tx_20 (by first | assumption | omega) | exact tx_27 (by first | assumption | omega) | exact tx_28 (by first | assumption | omega) | exact tx_30 (by first | assumption | omega) | exact tx_31 (by first | assumption | omega) | exact tx_32 (by first | assumption | omega) | exact tx_33 (by first | assumption | omega)) (by rfl) ?_
                    refine z_toe (y := nI (nl + cn d_ h_)) (by rw [pR]; exact o4) ?_
                    refine z_iload h dX12_settle_265 rfl ?_
                    refine y_iast h dX12_settle_267 hR (by first | assumption | exact Nat.le_of_ble_eq_true rfl) (tm_163 (Nat.le_refl g2)) (z_ixn (show nl + cn d_ h_ < 256 * 2 ^ g2 by omega) (by omega)) (fun w hR => ?_)
                    obtain ⟨cS, hcS⟩ : ∃ cS, cS = r_cs cR (163, g2) (nl + cn d_ h_) (d_ h_) := ⟨_, rfl⟩
                    rw [← hcS] at hR
                    have eS : cS (163, g2) = upd (cR (163, g2)) (nl + cn d_ h_) (d_ h_) := by rw [hcS, r_cs, r_cf_self]
                    have nS : ∀ t, t ≠ (163, g2) → cS t = cR t := fun t h => by rw [hcS, r_cs, r_cf_ne h]
                    have pS : cS (100, 0) = c2 (100, 0) := (nS _ (by simp)).trans pR
                    refine z_aload_n h dX12_settle_268 rfl ?_
                    refine z_dup_r h dX12_settle_269 ?_
                    refine y_geti h dX12_settle_270 hR flX12_287 (by first | assumption | exact Nat.le_of_ble_eq_true rfl) (by first | rfl | assumption | exact tx_2 (by first | assumption | omega) | exact tx_18 (by first | assumption | omega) | exact tx_19 (by first | assumption | omega) | exact tx_20 (by first | assumption | omega) | exact tx_27 (by first | assumption | omega) | exact tx_28 (by first | assumption | omega) | exact tx_30 (by first | assumption | omega) | exact tx_31 (by first | assumption | omega) | exact tx_32 (by first | assumption | omega) | exact tx_33 (by first | assumption | omega)) (by rfl) ?_
                    refine z_iconst (v := 1) h dX12_settle_273 (by decide) ?_
                    refine z_iadd h dX12_settle_274 ?_
                    refine z_toe (y := nI (nl + cn d_ h_ + 1)) (by rw [pS, o4]; exact z_up _) ?_
                    refine y_put h dX12_settle_275 he hR flX12_287 rfl (by first | assumption | exact Nat.le_of_ble_eq_true rfl) (by first | rfl | assumption | exact tx_2 (by first | assumption | omega) | exact tx_18 (by first | assumption | omega) | exact tx_19 (by first | assumption | omega) | exact tx_20 (by first | assumption | omega) | exact tx_27 (by first | assumption | omega) | exact tx_28 (by first | assumption | omega) | exact tx_30 (by first | assumption | omega) | exact tx_31 (by first | assumption | omega) | exact tx_32 (by first | assumption | omega) | exact tx_33 (by first | assumption | omega)) (by rfl) (fun w hR => ?_)
                    obtain ⟨cT, hcT⟩ : ∃ cT, cT = r_cs cS (100, 0) (4) (nI (nl + cn d_ h_ + 1)) := ⟨_, rfl⟩
                    rw [← hcT] at hR
                    have eT : cT (100, 0) = upd (cS (100, 0)) (4) (nI (nl + cn d_ h_ + 1)) := by rw [hcT, r_cs, r_cf_self]
                    have nT : ∀ t, t ≠ (100, 0) → cT t = cS t := fun t h => by rw [hcT, r_cs, r_cf_ne h]
                    refine z_aload_n h dX12_settle_278 rfl ?_
                    refine y_getr h dX12_settle_279 hR flX12_133 (by first | assumption | exact Nat.le_of_ble_eq_true rfl) (by first | rfl | assumption | exact tx_2 (by first | assumption | omega) | exact tx_18 (by first | assumption | omega) | exact tx_19 (by first | assumption | omega) | exact tx_20 (by first | assumption | omega) | exact tx_27 (by first | assumption | omega) | exact tx_28 (by first | assumption | omega) | exact tx_30 (by first | assumption | omega) | exact tx_31 (by first | assumption | omega) | exact tx_32 (by first | assumption | omega) | exact tx_33 (by first | assumption | omega)) (by rfl) ?_
                    refine z_bipush (v := 8) h dX12_settle_282 (by decide) ?_
                    refine z_iload_n h dX12_settle_284 rfl ?_
                    refine z_imul h dX12_settle_285 ?_
                    refine z_iload h dX12_settle_286 rfl ?_
                    refine z_iadd h dX12_settle_288 ?_
                    refine z_toe (y := nI (8 * p + h_)) (by show nI 8 * nI p + nI h_ = _; rw [nI_mul, nI_add]) ?_
                    refine z_aload_n h dX12_settle_289 rfl ?_
                    refine y_getr h dX12_settle_290 hR flX12_38 (by first | assumption | exact Nat.le_of_ble_eq_true rfl) (by first | rfl | assumption | exact tx_2 (by first | assumption | omega) | exact tx_18 (by first | assumption | omega) | exact tx_19 (by first | assumption | omega) | exact tx_20 (by first | assumption | omega) | exact tx_27 (by first | assumption | omega) | exact tx_28 (by first | assumption | omega) | exact tx_30 (by first | assumption | omega) | exact tx_31 (by first | assumption | omega) | exact tx_32 (by first | assumption | omega) | exact tx_33 (by first | assumption | omega)) (by rfl) ?_
                    refine z_iload h dX12_settle_293 rfl ?_
                    refine y_iald h dX12_settle_295 hR (by first | assumption | exact Nat.le_of_ble_eq_true rfl) (by first | rfl | assumption | exact tx_2 (by first | assumption | omega) | exact tx_18 (by first | assumption | omega) | exact tx_19 (by first | assumption | omega) | exact tx_20 (by first | assumption | omega) | exact tx_27 (by first | assumption | omega) | exact tx_28 (by first | assumption | omega) | exact tx_30 (by first | assumption | omega) | exact tx_31 (by first | assumption | omega) | exact tx_32 (by first | assumption | omega) | exact tx_33 (by first | assumption | omega)) (z_ixn (show h_ < 12 by omega) (by decide)) ?_
                    refine z_toe (y := s_sh co m h_) (by rw [nT _ (by simp), nS _ (by simp), nR _ (by simp), nQ _ (by simp), nP _ (by simp), hMf _ (by simp)]; exact h117 h_ (by omega)) ?_
                    refine y_iast h dX12_settle_296 hR (by first | assumption | exact Nat.le_of_ble_eq_true rfl) (by first | rfl | assumption | exact tx_2 (by first | assumption | omega) | exact tx_18 (by first | assumption | omega) | exact tx_19 (by first | assumption | omega) | exact tx_20 (by first | assumption | omega) | exact tx_27 (by first | assumption | omega) | exact tx_28 (by first | assumption | omega) | exact tx_30 (by first | assumption | omega) | exact tx_31 (by first | assumption | omega) | exact tx_32 (by first | assumption | omega) | exact tx_33 (by first | assumption | omega)) (z_ixn (show 8 * p + h_ < 480 by omega) (by decide)) (fun w hR => ?_)
                    obtain ⟨cU, hcU⟩ : ∃ cU, cU = r_cs cT (158, 0) (8 * p + h_) (s_sh co m h_) := ⟨_, rfl⟩
                    rw [← hcU] at hR
                    have eU : cU (158, 0) = upd (cT (158, 0)) (8 * p + h_) (s_sh co m h_) := by rw [hcU, r_cs, r_cf_self]
                    have nU : ∀ t, t ≠ (158, 0) → cU t = cT t := fun t h => by rw [hcU, r_cs, r_cf_ne h]
                    refine z_aload_n h dX12_settle_297 rfl ?_
                    refine y_getr h dX12_settle_298 hR flX12_136 (by first | assumption | exact Nat.le_of_ble_eq_true rfl) (by first | rfl | assumption | exact tx_2 (by first | assumption | omega) | exact tx_18 (by first | assumption | omega) | exact tx_19 (by first | assumption | omega) | exact tx_20 (by first | assumption | omega) | exact tx_27 (by first | assumption | omega) | exact tx_28 (by first | assumption | omega) | exact tx_30 (by first | assumption | omega) | exact tx_31 (by first | assumption | omega) | exact tx_32 (by first | assumption | omega) | exact tx_33 (by first | assumption | omega)) (by rfl) ?_
                    refine z_iload h dX12_settle_301 rfl ?_
                    refine z_dup2_ir h dX12_settle_303 ?_
                    refine y_iald h dX12_settle_304 hR (by first | assumption | exact Nat.le_of_ble_eq_true rfl) (by first | rfl | assumption | exact tx_2 (by first | assumption | omega) | exact tx_18 (by first | assumption | omega) | exact tx_19 (by first | assumption | omega) | exact tx_20 (by first | assumption | omega) | exact tx_27 (by first | assumption | omega) | exact tx_28 (by first | assumption | omega) | exact tx_30 (by first | assumption | omega) | exact tx_31 (by first | assumption | omega) | exact tx_32 (by first | assumption | omega) | exact tx_33 (by first | assumption | omega)) (z_ixn (show h_ < 8 by omega) (by decide)) ?_
                    refine z_toe (y := c1 (159, 0) h_) (by rw [nU _ (by simp), nT _ (by simp), nS _ (by simp), nR _ (by simp), nQ _ (by simp), nP _ (by simp), hMf _ (by simp)]) ?_
                    refine z_iload h dX12_settle_305 rfl ?_
                    refine z_iadd h dX12_settle_307 ?_
                    refine y_iast h dX12_settle_308 hR (by first | assumption | exact Nat.le_of_ble_eq_true rfl) (by first | rfl | assumption | exact tx_2 (by first | assumption | omega) | exact tx_18 (by first | assumption | omega) | exact tx_19 (by first | assumption | omega) | exact tx_20 (by first | assumption | omega) | exact tx_27 (by first | assumption | omega) | exact tx_28 (by first | assumption | omega) | exact tx_30 (by first | assumption | omega) | exact tx_31 (by first | assumption | omega) | exact tx_32 (by first | assumption | omega) | exact tx_33 (by first | assumption | omega)) (z_ixn (show h_ < 8 by omega) (by decide)) (fun w hR => ?_)
                    obtain ⟨cV, hcV⟩ : ∃ cV, cV = r_cs cU (159, 0) (h_) (c1 (159, 0) h_ + d_ h_) := ⟨_, rfl⟩
                    rw [← hcV] at hR
                    have eV : cV (159, 0) = upd (cU (159, 0)) (h_) (c1 (159, 0) h_ + d_ h_) := by rw [hcV, r_cs, r_cf_self]
                    have nV : ∀ t, t ≠ (159, 0) → cV t = cU t := fun t h => by rw [hcV, r_cs, r_cf_ne h]
                    have nST : ∀ t : z_T, t ≠ (100, 0) → t ≠ (158, 0) → t ≠ (159, 0) → ¬ (160 ≤ t.1 ∧ t.1 ≤ 163) → cV t = c1 t := fun t h1 h2 h3 h4 => by
                      have hne : ∀ k, 160 ≤ k → k ≤ 163 → t ≠ (k, g2) := fun k a b e => h4 (by rw [e]; exact ⟨a, b⟩)
                      rw [nV t h3, nU t h2, nT t h1, nS t (hne 163 (by omega) (by omega)), nR t (hne 162 (by omega) (by omega)), nQ t (hne 161 (by omega) (by omega)), nP t (hne 160 (by omega) (by omega)), hMf t h4]
                    refine z_iinc (v := 1) h dX12_settle_309 rfl (by decide) (by rw [hn]; decide) ?_
                    refine z_iinc (v := 1) h dX12_settle_312 rfl (by decide) (by rw [hn]; decide) ?_
                    refine z_goto h dX12_settle_315 130 (by decide) ?_
                    refine z_loc [(0, vr (100, 0)), (1, vi (nI p)), (4, vi (nI (cn d_ (h_ + 1)))), (5, vi (nI (h_ + 1)))] ⟨rfl, rfl, congrArg (fun z => some (vi z)) ?_, congrArg (fun z => some (vi z)) (z_up h_), trivial⟩ ?_
                    · show nI (cn d_ h_) + 1 = nI (cn d_ h_ + if d_ h_ = 0 then 0 else 1); rw [if_neg hd0]; exact z_up _
                    refine ih_130 (h_ + 1) w cV g2 kC2 kS2 hR (MLN_step hLN hd0 hnl (by omega) hM (fun k hk => ⟨?_, ?_, ?_, ?_⟩) ?_ ?_ ?_ ?_ ?_ ?_) (fun i hi => ?_) (fun j => ?_) (fun k hk => ?_) (fun t h1 h2 h3 h4 h5 h6 => ?_) hbud2 (by omega) (by omega)
                    · rw [nV _ (by simp), nU _ (by simp), nT _ (by simp), nS _ (by simp), nR _ (by simp), nQ _ (by simp), eP, pk_un hk]
                    · rw [nV _ (by simp), nU _ (by simp), nT _ (by simp), nS _ (by simp), nR _ (by simp), eQ, pk_un hk, nP _ (by simp)]
                    · rw [nV _ (by simp), nU _ (by simp), nT _ (by simp), nS _ (by simp), eR, pk_un hk, nQ _ (by simp), nP _ (by simp)]
                    · rw [nV _ (by simp), nU _ (by simp), nT _ (by simp), eS, pk_un hk, nR _ (by simp), nQ _ (by simp), nP _ (by simp)]
                    · rw [nV _ (by simp), nU _ (by simp), nT _ (by simp), nS _ (by simp), nR _ (by simp), nQ _ (by simp), eP, pk_us]
                    · rw [nV _ (by simp), nU _ (by simp), nT _ (by simp), nS _ (by simp), nR _ (by simp), eQ, pk_us]
                    · rw [nV _ (by simp), nU _ (by simp), nT _ (by simp), nS _ (by simp), eR, pk_us]
                    · rw [nV _ (by simp), nU _ (by simp), nT _ (by simp), eS, pk_us]
                    · rw [eV, nU _ (by simp), nT _ (by simp), nS _ (by simp), nR _ (by simp), nQ _ (by simp), nP _ (by simp), hMf _ (by simp)]
                    · rw [nV _ (by simp), nU _ (by simp), eT, pk_us]
                    · rw [nST _ (by simp) (by simp) (by simp) (by simp)]; exact h117 i hi
                    · rw [nV _ (by simp), eU]
                      by_cases q : j = 8 * p + h_
                      · subst q
                        rw [pk_us, if_pos (by omega), show 8 * p + h_ - 8 * p = h_ by omega]
                      · rw [pk_un q, nT _ (by simp), nS _ (by simp), nR _ (by simp), nQ _ (by simp), nP _ (by simp), hMf _ (by simp), h158 j]
                        by_cases q2 : 8 * p ≤ j ∧ j < 8 * p + h_
                        · rw [if_pos q2, if_pos (by omega)]
                        · rw [if_neg q2, if_neg (by omega)]
                    · rw [nV _ (by simp), nU _ (by simp), eT, pk_un hk, pS, o100]; exact h100 k hk
                    · rw [nST t h1 h4 h5 h6]; exact hfr t h1 h2 h3 h4 h5 h6
                  have hle : nl + cn d_ h_ ≤ 256 * 2 ^ g1 := by
                    rcases hLN.1 with ⟨q1, q2⟩ | ⟨q1, q2⟩
                    · rw [q1]; exact q2
                    · rw [q1, Nat.pow_succ]; omega
                  have hg15 : g1 ≤ 5 := by
                    rcases hLN.1 with ⟨q1, q2⟩ | ⟨q1, q2⟩ <;> omega
                  have hp15 : 2 ^ g1 ≤ 2 ^ 5 := Nat.pow_le_pow_right (by omega) hg15
                  by_cases hw : nl + cn d_ h_ < 256 * 2 ^ g1
                  · skip
                    refine z_aload_n h dX12_settle_167 rfl ?_
                    refine y_geti h dX12_settle_168 hR flX12_287 (by first | assumption | exact Nat.le_of_ble_eq_true rfl) (by first | rfl | assumption | exact tx_2 (by first | assumption | omega) | exact tx_18 (by first | assumption | omega) | exact tx_19 (by first | assumption | omega) | exact tx_20 (by first | assumption | omega) | exact tx_27 (by first | assumption | omega) | exact tx_28 (by first | assumption | omega) | exact tx_30 (by first | assumption | omega) | exact tx_31 (by first | assumption | omega) | exact tx_32 (by first | assumption | omega) | exact tx_33 (by first | assumption | omega)) (by rfl) ?_
                    refine z_toe (y := nI (nl + cn d_ h_)) (hLN.2.2.2.2) ?_
                    refine z_aload_n h dX12_settle_171 rfl ?_
                    refine y_getr h dX12_settle_172 hR flX12_139 (by first | assumption | exact Nat.le_of_ble_eq_true rfl) (by first | rfl | assumption | exact tx_2 (by first | assumption | omega) | exact tx_18 (by first | assumption | omega) | exact tx_19 (by first | assumption | omega) | exact tx_20 (by first | assumption | omega) | exact tx_27 (by first | assumption | omega) | exact tx_28 (by first | assumption | omega) | exact tx_30 (by first | assumption | omega) | exact tx_31 (by first | assumption | omega) | exact tx_32 (by first | assumption | omega) | exact tx_33 (by first | assumption | omega)) (by rfl) ?_
                    refine y_len h dX12_settle_175 hR (by first | assumption | exact Nat.le_of_ble_eq_true rfl) (tm_160 (Nat.le_refl g1)) (by rfl) ?_
                    refine z_icmp_ne h dX12_settle_176 223 (by decide) (fun c_7 => ?_) (fun c_7 => ?_)
                    · skip
                      refine z_loc [(0, vr (100, 0)), (1, vi (nI p)), (4, vi (nI (cn d_ h_))), (5, vi (nI h_)), (6, vi (d_ h_))] ⟨rfl, rfl, rfl, rfl, rfl, trivial⟩ ?_
                      exact join_223 g1 kC kS c1 w hR (MGR_a hw) hbud
                    · skip
                      exact absurd ((nI_eq (by omega) (by omega)).mp c_7) (by omega)
                  · skip
                    have hweq : nl + cn d_ h_ = 256 * 2 ^ g1 := by omega
                    have hgg : g1 = g ∧ kC = 4 ∧ kS = 2048 * 2 ^ g := by
                      have hlt : cn d_ h_ < cn d_ 8 := cn_lt d_ (by omega) hd0
                      rcases hLN.1 with ⟨q1, q2⟩ | ⟨q1, q2⟩
                      · subst q1
                        rcases hbud with ⟨-, b⟩ | b
                        · rcases b with b | b
                          · omega
                          · exact ⟨rfl, b⟩
                        · omega
                      · exact absurd hw (by rw [q1, Nat.pow_succ]; omega)
                    refine z_less (kC' := 0 + 1 + 1 + 1 + 1) (kS' := 0 + 2 * (256 * 2 ^ g1) + 2 * (256 * 2 ^ g1) + 2 * (256 * 2 ^ g1) + 2 * (256 * 2 ^ g1)) (by omega) (by rw [hgg.2.2, hgg.1]; omega) ?_
                    refine z_aload_n h dX12_settle_167 rfl ?_
                    refine y_geti h dX12_settle_168 hR flX12_287 (by first | assumption | exact Nat.le_of_ble_eq_true rfl) (by first | rfl | assumption | exact tx_2 (by first | assumption | omega) | exact tx_18 (by first | assumption | omega) | exact tx_19 (by first | assumption | omega) | exact tx_20 (by first | assumption | omega) | exact tx_27 (by first | assumption | omega) | exact tx_28 (by first | assumption | omega) | exact tx_30 (by first | assumption | omega) | exact tx_31 (by first | assumption | omega) | exact tx_32 (by first | assumption | omega) | exact tx_33 (by first | assumption | omega)) (by rfl) ?_
                    refine z_toe (y := nI (nl + cn d_ h_)) (hLN.2.2.2.2) ?_
                    refine z_aload_n h dX12_settle_171 rfl ?_
                    refine y_getr h dX12_settle_172 hR flX12_139 (by first | assumption | exact Nat.le_of_ble_eq_true rfl) (by first | rfl | assumption | exact tx_2 (by first | assumption | omega) | exact tx_18 (by first | assumption | omega) | exact tx_19 (by first | assumption | omega) | exact tx_20 (by first | assumption | omega) | exact tx_27 (by first | assumption | omega) | exact tx_28 (by first | assumption | omega) | exact tx_30 (by first | assumption | omega) | exact tx_31 (by first | assumption | omega) | exact tx_32 (by first | assumption | omega) | exact tx_33 (by first | assumption | omega)) (by rfl) ?_
                    refine y_len h dX12_settle_175 hR (by first | assumption | exact Nat.le_of_ble_eq_true rfl) (tm_160 (Nat.le_refl g1)) (by rfl) ?_
                    refine z_icmp_ne h dX12_settle_176 223 (by decide) (fun c_7 => ?_) (fun c_7 => ?_)
                    · skip
                      exact absurd (by rw [hweq]) c_7
                    · skip
                      have hg1p : 2 ^ g1 ≤ 2 ^ 4 := Nat.pow_le_pow_right (by omega) (by omega)
                      have hg1q : 0 < 2 ^ g1 := Nat.pow_pos (by omega)
                      have w100 : w (100, 0) = some (z_ob 12 (r_row (c1 (100, 0)) 0 (MO g1))) := hR.ob (Nat.le_of_ble_eq_true rfl) rfl
                      have w160 : w (160, g1) = some (z_ia (256 * 2 ^ g1) (c1 (160, g1))) := hR.ia (Nat.le_of_ble_eq_true rfl) (tm_160 (Nat.le_refl g1))
                      have w161 : w (161, g1) = some (z_ia (256 * 2 ^ g1) (c1 (161, g1))) := hR.ia (Nat.le_of_ble_eq_true rfl) (tm_161 (Nat.le_refl g1))
                      have w162 : w (162, g1) = some (z_ia (256 * 2 ^ g1) (c1 (162, g1))) := hR.ia (Nat.le_of_ble_eq_true rfl) (tm_162 (Nat.le_refl g1))
                      have w163 : w (163, g1) = some (z_ia (256 * 2 ^ g1) (c1 (163, g1))) := hR.ia (Nat.le_of_ble_eq_true rfl) (tm_163 (Nat.le_refl g1))
                      have f160 : w (160, g1 + 1) = none := hR.free (Nat.le_of_ble_eq_true rfl) (tm_free (by omega))
                      have f161 : w (161, g1 + 1) = none := hR.free (Nat.le_of_ble_eq_true rfl) (tm_free (by omega))
                      have f162 : w (162, g1 + 1) = none := hR.free (Nat.le_of_ble_eq_true rfl) (tm_free (by omega))
                      have f163 : w (163, g1 + 1) = none := hR.free (Nat.le_of_ble_eq_true rfl) (tm_free (by omega))
                      refine z_aload_n h dX12_settle_179 rfl ?_
                      refine z_aload_n h dX12_settle_180 rfl ?_
                      refine z_get h dX12_settle_181 flX12_139 (by first | assumption | rfl | (repeat (first | exact z_set_self _ _ _ | assumption | refine z_skip rfl ?_))) rfl ?_
                      refine z_callS h dX12_settle_184 (fun _ _ q => z_okv_no he q) (fun _ _ _ t q => absurd q (he t)) (m_X12_longer _ _ (160, g1) (160, g1 + 1) (256 * 2 ^ g1) (c1 (160, g1)) (by repeat (first | assumption | refine z_skip rfl ?_)) (by repeat (first | assumption | refine z_skip rfl ?_)) (by omega) (by omega)) ym_X12_longer mlX12_290 sm_X12_longer rfl (by decide) (Nat.le_of_ble_eq_true rfl) ?_
                      rintro q1 w1 ⟨rfl, rfl⟩
                      refine z_put h dX12_settle_187 he flX12_139 (by first | assumption | rfl | (repeat (first | exact z_set_self _ _ _ | assumption | refine z_skip rfl ?_))) (Nat.le_of_ble_eq_true rfl) (z_fit_r (Or.inr ⟨_, rfl⟩) _) ?_
                      refine z_aload_n h dX12_settle_190 rfl ?_
                      refine z_aload_n h dX12_settle_191 rfl ?_
                      refine z_get h dX12_settle_192 flX12_142 (by first | assumption | rfl | (repeat (first | exact z_set_self _ _ _ | assumption | refine z_skip rfl ?_))) rfl ?_
                      refine z_callS h dX12_settle_195 (fun _ _ q => z_okv_no he q) (fun _ _ _ t q => absurd q (he t)) (m_X12_longer _ _ (161, g1) (161, g1 + 1) (256 * 2 ^ g1) (c1 (161, g1)) (by repeat (first | assumption | refine z_skip rfl ?_)) (by repeat (first | assumption | refine z_skip rfl ?_)) (by omega) (by omega)) ym_X12_longer mlX12_290 sm_X12_longer rfl (by decide) (Nat.le_of_ble_eq_true rfl) ?_
                      rintro q1 w1 ⟨rfl, rfl⟩
                      refine z_put h dX12_settle_198 he flX12_142 (by first | assumption | rfl | (repeat (first | exact z_set_self _ _ _ | assumption | refine z_skip rfl ?_))) (Nat.le_of_ble_eq_true rfl) (z_fit_r (Or.inr ⟨_, rfl⟩) _) ?_
                      refine z_aload_n h dX12_settle_201 rfl ?_
                      refine z_aload_n h dX12_settle_202 rfl ?_
                      refine z_get h dX12_settle_203 flX12_145 (by first | assumption | rfl | (repeat (first | exact z_set_self _ _ _ | assumption | refine z_skip rfl ?_))) rfl ?_
                      refine z_callS h dX12_settle_206 (fun _ _ q => z_okv_no he q) (fun _ _ _ t q => absurd q (he t)) (m_X12_longer _ _ (162, g1) (162, g1 + 1) (256 * 2 ^ g1) (c1 (162, g1)) (by repeat (first | assumption | refine z_skip rfl ?_)) (by repeat (first | assumption | refine z_skip rfl ?_)) (by omega) (by omega)) ym_X12_longer mlX12_290 sm_X12_longer rfl (by decide) (Nat.le_of_ble_eq_true rfl) ?_
                      rintro q1 w1 ⟨rfl, rfl⟩
                      refine z_put h dX12_settle_209 he flX12_145 (by first | assumption | rfl | (repeat (first | exact z_set_self _ _ _ | assumption | refine z_skip rfl ?_))) (Nat.le_of_ble_eq_true rfl) (z_fit_r (Or.inr ⟨_, rfl⟩) _) ?_
                      refine z_aload_n h dX12_settle_212 rfl ?_
                      refine z_aload_n h dX12_settle_213 rfl ?_
                      refine z_get h dX12_settle_214 flX12_148 (by first | assumption | rfl | (repeat (first | exact z_set_self _ _ _ | assumption | refine z_skip rfl ?_))) rfl ?_
                      refine z_callS h dX12_settle_217 (fun _ _ q => z_okv_no he q) (fun _ _ _ t q => absurd q (he t)) (m_X12_longer _ _ (163, g1) (163, g1 + 1) (256 * 2 ^ g1) (c1 (163, g1)) (by repeat (first | assumption | refine z_skip rfl ?_)) (by repeat (first | assumption | refine z_skip rfl ?_)) (by omega) (by omega)) ym_X12_longer mlX12_290 sm_X12_longer rfl (by decide) (Nat.le_of_ble_eq_true rfl) ?_
                      rintro q1 w1 ⟨rfl, rfl⟩
                      refine z_put h dX12_settle_220 he flX12_148 (by first | assumption | rfl | (repeat (first | exact z_set_self _ _ _ | assumption | refine z_skip rfl ?_))) (Nat.le_of_ble_eq_true rfl) (z_fit_r (Or.inr ⟨_, rfl⟩) _) ?_
                      refine z_loc [(0, vr (100, 0)), (1, vi (nI p)), (4, vi (nI (cn d_ h_))), (5, vi (nI h_)), (6, vi (d_ h_))] ⟨rfl, rfl, rfl, rfl, rfl, trivial⟩ ?_
                      refine join_223 (g1 + 1) 0 0 (mlg_c c1 g1) _ ?_ (MGR_b hweq) (Or.inr (by rw [hgg.1]))
                      exact mlg_new hR (2 * (256 * 2 ^ g1)) (by rw [Nat.pow_succ]; omega) (z_set_self _ _ _) (by repeat (first | exact z_set_self _ _ _ | refine z_skip rfl ?_)) (by repeat (first | exact z_set_self _ _ _ | refine z_skip rfl ?_)) (by repeat (first | exact z_set_self _ _ _ | refine z_skip rfl ?_)) (by repeat (first | exact z_set_self _ _ _ | refine z_skip rfl ?_)) ((((((((z_fr.rf.set (by simp)).set (by simp)).set (by simp)).set (by simp)).set (by simp)).set (by simp)).set (by simp)).set (by simp))
                · skip
                  have hd0 : d_ h_ = 0 := c_6
                  refine z_goto h dX12_settle_164 312 (by decide) ?_
                  refine z_iinc (v := 1) h dX12_settle_312 rfl (by decide) (by rw [hn]; decide) ?_
                  refine z_goto h dX12_settle_315 130 (by decide) ?_
                  refine z_loc [(0, vr (100, 0)), (1, vi (nI p)), (4, vi (nI (cn d_ (h_ + 1)))), (5, vi (nI (h_ + 1)))] ⟨rfl, rfl, congrArg (fun z => some (vi z)) ?_, congrArg (fun z => some (vi z)) (z_up h_), trivial⟩ ?_
                  · show nI (cn d_ h_) = nI (cn d_ h_ + if d_ h_ = 0 then 0 else 1); rw [if_pos hd0]; rfl
                  exact ih_130 (h_ + 1) w c1 g1 kC kS hR (MLN_skip hLN hd0) h117 (fun j => by
                    rw [h158 j]
                    by_cases q : j = 8 * p + h_
                    · subst q
                      rw [if_neg (by omega), if_pos (by omega), show 8 * p + h_ - 8 * p = h_ by omega]
                      exact (z_sub0 (by rw [hdd] at hd0; exact hd0)).symm
                    · by_cases q2 : 8 * p ≤ j ∧ j < 8 * p + h_
                      · rw [if_pos q2, if_pos (by omega)]
                      · rw [if_neg q2, if_neg (by omega)]) h100 hfr hbud (by omega) (by omega)
          refine z_loc [(0, vr (100, 0)), (1, vi (nI p)), (4, vi (nI (cn d_ 0))), (5, vi (nI 0))] ⟨rfl, rfl, rfl, rfl, trivial⟩ ?_
          refine loop_130 (8 + 1) 0 w cZ g _ _ hR (MLN_0 hnl hc4 nZ) s117 (fun j => by rw [nZ _ (by simp) (by simp), if_neg (by omega)]) (fun k _ => by rw [nZ _ (by simp) (by simp)]) (fun t _ h2 h3 _ _ _ => nZ t h2 h3) (Or.inl ⟨rfl, ?_⟩) (by omega) (by omega)
          by_cases q : nl + cn d_ 8 ≤ 256 * 2 ^ g
          · exact Or.inl q
          · exact Or.inr ⟨by rw [hkC0, if_neg q], by rw [hkS0, if_neg q]⟩
        refine z_lload_n h dX12_settle_98 rfl ?_
        refine z_lconst (v := 0) h dX12_settle_99 (by decide) ?_
        refine z_lcmp h dX12_settle_100 ?_
        refine z_if_ne h dX12_settle_101 111 (by decide) (fun c_4 => ?_) (fun c_4 => ?_)
        · skip
          have hS : ¬ p_sm m 8 = 0 := fun q => c_4 ((lg_cmp_eq _ _).mpr (by rw [show h_ = 8 by omega, q]; rfl))
          have h88 : h_ = 8 := by omega
          rw [h88] at hlf
          refine z_loc [(0, vr (100, 0)), (1, vi (nI p))] ⟨rfl, rfl, trivial⟩ ?_
          exact join_111 _ _ hR (fun i hi => by rw [hlf i hi]; unfold s_m1; rw [if_neg hS])
        · skip
          have hS : p_sm m 8 = 0 := by
            have q := (lg_cmp_eq _ _).mp c_4
            rw [show h_ = 8 by omega, z_lN0] at q
            have hbd := p_sm_bd (f := m) (b := 2 ^ 31) (n := 8) (fun i hi => Nat.le_of_lt (hm i hi).1)
            exact (pk_lEQ (by omega) (by decide)).mp q
          have h88 : h_ = 8 := by omega
          rw [h88] at hlf
          refine z_aload_n h dX12_settle_104 rfl ?_
          refine y_getr h dX12_settle_105 hR flX12_34 (by first | assumption | exact Nat.le_of_ble_eq_true rfl) (by first | rfl | assumption | exact tx_2 (by first | assumption | omega) | exact tx_18 (by first | assumption | omega) | exact tx_19 (by first | assumption | omega) | exact tx_20 (by first | assumption | omega) | exact tx_27 (by first | assumption | omega) | exact tx_28 (by first | assumption | omega) | exact tx_30 (by first | assumption | omega) | exact tx_31 (by first | assumption | omega) | exact tx_32 (by first | assumption | omega) | exact tx_33 (by first | assumption | omega)) (by rfl) ?_
          refine z_iconst (v := 0) h dX12_settle_108 (by decide) ?_
          refine z_lconst (v := 1) h dX12_settle_109 (by decide) ?_
          refine y_last h dX12_settle_110 hR (by first | assumption | exact Nat.le_of_ble_eq_true rfl) (by first | rfl | assumption | exact tx_2 (by first | assumption | omega) | exact tx_18 (by first | assumption | omega) | exact tx_19 (by first | assumption | omega) | exact tx_20 (by first | assumption | omega) | exact tx_27 (by first | assumption | omega) | exact tx_28 (by first | assumption | omega) | exact tx_30 (by first | assumption | omega) | exact tx_31 (by first | assumption | omega) | exact tx_32 (by first | assumption | omega) | exact tx_33 (by first | assumption | omega)) (z_ixn (j := 0) (show 0 < 12 by omega) (by decide)) (fun w hR => ?_)
          refine z_loc [(0, vr (100, 0)), (1, vi (nI p))] ⟨rfl, rfl, trivial⟩ ?_
          rw [r_cf_cf, r_cf_self] at hR
          exact join_111 _ _ hR (fun i hi => by
            unfold s_m1
            rw [if_pos hS]
            by_cases e : i = 0
            · subst e; rw [pk_uLs]; rfl
            · rw [pk_uLn e, hlf i hi, if_neg e]
              have := p_sm_one (f := m) hi
              rw [show m i = 0 by omega])
      · skip
        have e1 : ¬ 8 ≤ h_ := fun q => c_1 ((nI_leI (a := 8) (by omega) (by omega)).mpr q)
        refine z_aload_n h dX12_settle_12 rfl ?_
        refine y_getr h dX12_settle_13 hR flX12_34 (by first | assumption | exact Nat.le_of_ble_eq_true rfl) (by first | rfl | assumption | exact tx_2 (by first | assumption | omega) | exact tx_18 (by first | assumption | omega) | exact tx_19 (by first | assumption | omega) | exact tx_20 (by first | assumption | omega) | exact tx_27 (by first | assumption | omega) | exact tx_28 (by first | assumption | omega) | exact tx_30 (by first | assumption | omega) | exact tx_31 (by first | assumption | omega) | exact tx_32 (by first | assumption | omega) | exact tx_33 (by first | assumption | omega)) (by rfl) ?_
        refine z_iload h dX12_settle_16 rfl ?_
        refine z_lconst (v := 0) h dX12_settle_18 (by decide) ?_
        refine y_last h dX12_settle_19 hR (by first | assumption | exact Nat.le_of_ble_eq_true rfl) (by first | rfl | assumption | exact tx_2 (by first | assumption | omega) | exact tx_18 (by first | assumption | omega) | exact tx_19 (by first | assumption | omega) | exact tx_20 (by first | assumption | omega) | exact tx_27 (by first | assumption | omega) | exact tx_28 (by first | assumption | omega) | exact tx_30 (by first | assumption | omega) | exact tx_31 (by first | assumption | omega) | exact tx_32 (by first | assumption | omega) | exact tx_33 (by first | assumption | omega)) (z_ixn (show h_ < 12 by omega) (by decide)) (fun w hR => ?_)
        refine z_iconst (v := 0) h dX12_settle_20 (by decide) ?_
        refine z_istore h dX12_settle_21 (by rw [hn]; decide) ?_
        have loop_23 : ∀ (k_ : Nat) (b : Nat) (lf : Nat → Int64) (w : z_w), r_p dM (TM g) w0 c (r_cf l (116, 0) lf) r w → (∀ i, i < h_ → lf i = lN (m i)) → lf h_ = ms_l c bi nr (c (157, 0) p) h_ b → b ≤ nb → nb + 1 ≤ b + k_ → z_V X kC0 kS0 w 23 [(0, vr (100, 0)), (1, vi (nI p)), (2, vl (lN (p_sm m h_))), (4, vi (nI h_)), (5, vi (nI b))] [] := by
          intro k_
          induction k_ with
          | zero => intros; omega
          | succ k_ ih_23 =>
            intro b lf w hR hlf hlh hb hN
            refine z_iload h dX12_settle_23 rfl ?_
            refine z_aload_n h dX12_settle_25 rfl ?_
            refine y_geti h dX12_settle_26 hR flX12_166 (by first | assumption | exact Nat.le_of_ble_eq_true rfl) (by first | rfl | assumption | exact tx_2 (by first | assumption | omega) | exact tx_18 (by first | assumption | omega) | exact tx_19 (by first | assumption | omega) | exact tx_20 (by first | assumption | omega) | exact tx_27 (by first | assumption | omega) | exact tx_28 (by first | assumption | omega) | exact tx_30 (by first | assumption | omega) | exact tx_31 (by first | assumption | omega) | exact tx_32 (by first | assumption | omega) | exact tx_33 (by first | assumption | omega)) (by rfl) ?_
            refine z_toe (y := nI nb) hc1 ?_
            refine z_icmp_ge h dX12_settle_29 82 (by decide) (fun c_2 => ?_) (fun c_2 => ?_)
            · skip
              have e1 : nb ≤ b := (nI_leI (by omega) (by omega)).mp c_2
              refine z_lload_n h dX12_settle_82 rfl ?_
              refine z_aload_n h dX12_settle_83 rfl ?_
              refine y_getr h dX12_settle_84 hR flX12_34 (by first | assumption | exact Nat.le_of_ble_eq_true rfl) (by first | rfl | assumption | exact tx_2 (by first | assumption | omega) | exact tx_18 (by first | assumption | omega) | exact tx_19 (by first | assumption | omega) | exact tx_20 (by first | assumption | omega) | exact tx_27 (by first | assumption | omega) | exact tx_28 (by first | assumption | omega) | exact tx_30 (by first | assumption | omega) | exact tx_31 (by first | assumption | omega) | exact tx_32 (by first | assumption | omega) | exact tx_33 (by first | assumption | omega)) (by rfl) ?_
              refine z_iload h dX12_settle_87 rfl ?_
              refine y_lald h dX12_settle_89 hR (by first | assumption | exact Nat.le_of_ble_eq_true rfl) (by first | rfl | assumption | exact tx_2 (by first | assumption | omega) | exact tx_18 (by first | assumption | omega) | exact tx_19 (by first | assumption | omega) | exact tx_20 (by first | assumption | omega) | exact tx_27 (by first | assumption | omega) | exact tx_28 (by first | assumption | omega) | exact tx_30 (by first | assumption | omega) | exact tx_31 (by first | assumption | omega) | exact tx_32 (by first | assumption | omega) | exact tx_33 (by first | assumption | omega)) (z_ixn (show h_ < 12 by omega) (by decide)) ?_
              refine z_ladd h dX12_settle_90 ?_
              refine z_lstore_n h dX12_settle_91 (by rw [hn]; decide) ?_
              refine z_iinc (v := 1) h dX12_settle_92 rfl (by decide) (by rw [hn]; decide) ?_
              refine z_goto h dX12_settle_95 5 (by decide) ?_
              refine z_loc [(0, vr (100, 0)), (1, vi (nI p)), (2, vl (lN (p_sm m (h_ + 1)))), (4, vi (nI (h_ + 1)))] ⟨rfl, rfl, congrArg (fun z => some (vl z)) (by rw [r_cf_self, hlh, show b = nb by omega, (hm h_ (by omega)).2, lN_add]; rfl), congrArg (fun z => some (vi z)) (z_up h_), trivial⟩ ?_
              exact ih_5 (h_ + 1) _ w hR (fun i hi => by
                by_cases e : i = h_
                · subst e; rw [hlh, show b = nb by omega, (hm i (by omega)).2]
                · exact hlf i (by omega)) (by omega) (by omega)
            · skip
              have e1 : ¬ nb ≤ b := fun q => c_2 ((nI_leI (by omega) (by omega)).mpr q)
              refine z_aload_n h dX12_settle_32 rfl ?_
              refine y_getr h dX12_settle_33 hR flX12_34 (by first | assumption | exact Nat.le_of_ble_eq_true rfl) (by first | rfl | assumption | exact tx_2 (by first | assumption | omega) | exact tx_18 (by first | assumption | omega) | exact tx_19 (by first | assumption | omega) | exact tx_20 (by first | assumption | omega) | exact tx_27 (by first | assumption | omega) | exact tx_28 (by first | assumption | omega) | exact tx_30 (by first | assumption | omega) | exact tx_31 (by first | assumption | omega) | exact tx_32 (by first | assumption | omega) | exact tx_33 (by first | assumption | omega)) (by rfl) ?_
              refine z_iload h dX12_settle_36 rfl ?_
              refine z_dup2_ir h dX12_settle_38 ?_
              refine y_lald h dX12_settle_39 hR (by first | assumption | exact Nat.le_of_ble_eq_true rfl) (by first | rfl | assumption | exact tx_2 (by first | assumption | omega) | exact tx_18 (by first | assumption | omega) | exact tx_19 (by first | assumption | omega) | exact tx_20 (by first | assumption | omega) | exact tx_27 (by first | assumption | omega) | exact tx_28 (by first | assumption | omega) | exact tx_30 (by first | assumption | omega) | exact tx_31 (by first | assumption | omega) | exact tx_32 (by first | assumption | omega) | exact tx_33 (by first | assumption | omega)) (z_ixn (show h_ < 12 by omega) (by decide)) ?_
              refine z_aload_n h dX12_settle_40 rfl ?_
              refine y_getr h dX12_settle_41 hR flX12_91 (by first | assumption | exact Nat.le_of_ble_eq_true rfl) (by first | rfl | assumption | exact tx_2 (by first | assumption | omega) | exact tx_18 (by first | assumption | omega) | exact tx_19 (by first | assumption | omega) | exact tx_20 (by first | assumption | omega) | exact tx_27 (by first | assumption | omega) | exact tx_28 (by first | assumption | omega) | exact tx_30 (by first | assumption | omega) | exact tx_31 (by first | assumption | omega) | exact tx_32 (by first | assumption | omega) | exact tx_33 (by first | assumption | omega)) (by rfl) ?_
              refine z_bipush (v := 12) h dX12_settle_44 (by decide) ?_
              refine z_aload_n h dX12_settle_46 rfl ?_
              refine y_getr h dX12_settle_47 hR flX12_124 (by first | assumption | exact Nat.le_of_ble_eq_true rfl) (by first | rfl | assumption | exact tx_2 (by first | assumption | omega) | exact tx_18 (by first | assumption | omega) | exact tx_19 (by first | assumption | omega) | exact tx_20 (by first | assumption | omega) | exact tx_27 (by first | assumption | omega) | exact tx_28 (by first | assumption | omega) | exact tx_30 (by first | assumption | omega) | exact tx_31 (by first | assumption | omega) | exact tx_32 (by first | assumption | omega) | exact tx_33 (by first | assumption | omega)) (by rfl) ?_
              refine z_iload_n h dX12_settle_50 rfl ?_
              refine y_iald h dX12_settle_51 hR (by first | assumption | exact Nat.le_of_ble_eq_true rfl) (by first | rfl | assumption | exact tx_2 (by first | assumption | omega) | exact tx_18 (by first | assumption | omega) | exact tx_19 (by first | assumption | omega) | exact tx_20 (by first | assumption | omega) | exact tx_27 (by first | assumption | omega) | exact tx_28 (by first | assumption | omega) | exact tx_30 (by first | assumption | omega) | exact tx_31 (by first | assumption | omega) | exact tx_32 (by first | assumption | omega) | exact tx_33 (by first | assumption | omega)) (z_ixn (show p < 60 by omega) (by decide)) ?_
              refine z_toe (y := nI bi) hpb ?_
              refine z_imul h dX12_settle_52 ?_
              refine z_iload h dX12_settle_53 rfl ?_
              refine z_iadd h dX12_settle_55 ?_
              refine z_toe (y := nI (12 * bi + b)) (by show nI 12 * nI bi + nI b = _; rw [nI_mul, nI_add]) ?_
              refine y_iald h dX12_settle_56 hR (by first | assumption | exact Nat.le_of_ble_eq_true rfl) (by first | rfl | assumption | exact tx_2 (by first | assumption | omega) | exact tx_18 (by first | assumption | omega) | exact tx_19 (by first | assumption | omega) | exact tx_20 (by first | assumption | omega) | exact tx_27 (by first | assumption | omega) | exact tx_28 (by first | assumption | omega) | exact tx_30 (by first | assumption | omega) | exact tx_31 (by first | assumption | omega) | exact tx_32 (by first | assumption | omega) | exact tx_33 (by first | assumption | omega)) (z_ixn (show 12 * bi + b < 1200 by omega) (by decide)) ?_
              refine z_i2l h dX12_settle_57 ?_
              refine z_aload_n h dX12_settle_58 rfl ?_
              refine z_iload h dX12_settle_59 rfl ?_
              refine z_iload h dX12_settle_61 rfl ?_
              refine z_aload_n h dX12_settle_63 rfl ?_
              refine y_getr h dX12_settle_64 hR flX12_130 (by first | assumption | exact Nat.le_of_ble_eq_true rfl) (by first | rfl | assumption | exact tx_2 (by first | assumption | omega) | exact tx_18 (by first | assumption | omega) | exact tx_19 (by first | assumption | omega) | exact tx_20 (by first | assumption | omega) | exact tx_27 (by first | assumption | omega) | exact tx_28 (by first | assumption | omega) | exact tx_30 (by first | assumption | omega) | exact tx_31 (by first | assumption | omega) | exact tx_32 (by first | assumption | omega) | exact tx_33 (by first | assumption | omega)) (by rfl) ?_
              refine z_iload_n h dX12_settle_67 rfl ?_
              refine y_iald h dX12_settle_68 hR (by first | assumption | exact Nat.le_of_ble_eq_true rfl) (by first | rfl | assumption | exact tx_2 (by first | assumption | omega) | exact tx_18 (by first | assumption | omega) | exact tx_19 (by first | assumption | omega) | exact tx_20 (by first | assumption | omega) | exact tx_27 (by first | assumption | omega) | exact tx_28 (by first | assumption | omega) | exact tx_30 (by first | assumption | omega) | exact tx_31 (by first | assumption | omega) | exact tx_32 (by first | assumption | omega) | exact tx_33 (by first | assumption | omega)) (z_ixn (show p < 60 by omega) (by decide)) ?_
              refine z_callV h dX12_settle_69 (fun _ _ q => z_okv_no he q) (fun _ _ _ t q => absurd q (he t)) (m_X12_inForce _ hR nr hc6 hnr (nI b) (nI h_) _) ym_X12_inForce mlX12_283 im_X12_inForce (ci := 12) rfl se_X12_inForce icX12 rfl (r_p.ob hR (by first | assumption | exact Nat.le_of_ble_eq_true rfl) (by first | rfl | assumption | exact tx_2 (by first | assumption | omega) | exact tx_18 (by first | assumption | omega) | exact tx_19 (by first | assumption | omega) | exact tx_20 (by first | assumption | omega) | exact tx_27 (by first | assumption | omega) | exact tx_28 (by first | assumption | omega) | exact tx_30 (by first | assumption | omega) | exact tx_31 (by first | assumption | omega) | exact tx_32 (by first | assumption | omega) | exact tx_33 (by first | assumption | omega))) rfl (by decide) (Nat.le_of_ble_eq_true rfl) ?_
              rintro q1 w1 ⟨rfl, hw1⟩
              have hw1 := hw1.symm; subst hw1
              refine z_i2l h dX12_settle_72 ?_
              refine z_lmul h dX12_settle_73 ?_
              refine z_ladd h dX12_settle_74 ?_
              refine y_last h dX12_settle_75 hR (by first | assumption | exact Nat.le_of_ble_eq_true rfl) (by first | rfl | assumption | exact tx_2 (by first | assumption | omega) | exact tx_18 (by first | assumption | omega) | exact tx_19 (by first | assumption | omega) | exact tx_20 (by first | assumption | omega) | exact tx_27 (by first | assumption | omega) | exact tx_28 (by first | assumption | omega) | exact tx_30 (by first | assumption | omega) | exact tx_31 (by first | assumption | omega) | exact tx_32 (by first | assumption | omega) | exact tx_33 (by first | assumption | omega)) (z_ixn (show h_ < 12 by omega) (by decide)) (fun w hR => ?_)
              refine z_iinc (v := 1) h dX12_settle_76 rfl (by decide) (by rw [hn]; decide) ?_
              refine z_goto h dX12_settle_79 23 (by decide) ?_
              refine z_loc [(0, vr (100, 0)), (1, vi (nI p)), (2, vl (lN (p_sm m h_))), (4, vi (nI h_)), (5, vi (nI (b + 1)))] ⟨rfl, rfl, rfl, rfl, congrArg (fun z => some (vi z)) (z_up b), trivial⟩ ?_
              rw [r_cf_cf, r_cf_self] at hR
              exact ih_23 (b + 1) _ w hR (fun i hi => by rw [pk_uLn (show i ≠ h_ by omega)]; exact hlf i hi) (by rw [pk_uLs, hlh]; rfl) (by omega) (by omega)
        rw [r_cf_cf, r_cf_self] at hR
        exact z_loc [(0, vr (100, 0)), (1, vi (nI p)), (2, vl (lN (p_sm m h_))), (4, vi (nI h_)), (5, vi (nI 0))] ⟨rfl, rfl, rfl, rfl, rfl, trivial⟩ (loop_23 (nb + 1) 0 _ w hR (fun i hi => by rw [pk_uLn (show i ≠ h_ by omega)]; exact hlf i hi) (by rw [pk_uLs]; rfl) (by omega) (by omega))
  exact z_loc [(0, vr (100, 0)), (1, vi (nI p)), (2, vl (lN (p_sm m 0))), (4, vi (nI 0))] ⟨rfl, rfl, rfl, rfl, trivial⟩ (loop_5 (8 + 1) 0 (l (116, 0)) w (by rw [r_cf_same]; exact hR) (fun i hi => by omega) (by omega) (by omega))
