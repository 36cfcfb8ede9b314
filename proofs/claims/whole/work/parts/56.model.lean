/-! the reference: paying, and again -/
theorem ms_l_congr {c c' : r_c} {bi nr : Nat} {y : Int32} {h : Nat} (h0 : c' (144, 0) = c (144, 0)) (h1 : c' (151, 0) = c (151, 0)) (h2 : c' (152, 0) = c (152, 0)) (h3 : c' (153, 0) = c (153, 0)) (h4 : c' (154, 0) = c (154, 0)) : ∀ n, ms_l c' bi nr y h n = ms_l c bi nr y h n
  | 0 => rfl
  | n + 1 => by rw [ms_l, ms_l, ms_l_congr h0 h1 h2 h3 h4 n, h0, h1, h2, h3, h4]
theorem MLN_base {c c' c1 : r_c} {g g1 nl p h : Nat} {d : Nat → Int32} {now : Int32} (hf : ∀ t : z_T, 159 ≤ t.1 → c' t = c t) (H : MLN c' g nl p d now h c1 g1) : MLN c g nl p d now h c1 g1 := by
  obtain ⟨h1, h2, h3, h4, h5⟩ := H
  refine ⟨h1, fun k hk => ?_, h3, fun j => ?_, h5⟩
  · rw [← hf (160, g) (by simp), ← hf (161, g) (by simp), ← hf (162, g) (by simp), ← hf (163, g) (by simp)]
    exact h2 k hk
  · rw [← hf (159, 0) (by simp)]
    exact h4 j
set_option maxHeartbeats 4000000 in
set_option maxRecDepth 100000 in
theorem m_X12_again (G : z_G) {g : Nat} {w0 w : z_w} {c : r_c} {l : r_l} {r : r_r} (hR : r_p dM (TM g) w0 c l r w) (nb : Nat) (hc1 : c (100, 0) 1 = nI nb) (hnb : nb ≤ 12) (hg4 : g ≤ 4) (nl nr : Nat) (m : Nat → Nat) (hc4 : c (100, 0) 4 = nI nl) (hnl : nl ≤ 256 * 2 ^ g) (hnl8 : nl + 8 ≤ 4096) (hc6 : c (100, 0) 6 = nI nr) (hnr : nr ≤ 100) (np : Nat) (hc3 : c (100, 0) 3 = nI np) (hnp : np ≤ 60) (x : Int32) (bi co : Nat) (hpb : ix_ok x np → c (155, 0) x.toNatClampNeg = nI bi ∧ bi < 100 ∧ c (156, 0) x.toNatClampNeg = nI co) (hco : co < 2 ^ 22) (hm : ix_ok x np → ∀ h, h < 8 → m h < 2 ^ 31 ∧ ms_l c bi nr (c (157, 0) x.toNatClampNeg) h nb = lN (m h)) (d : Nat → Int32) (hd : d = fun h => s_sh co m h - c (158, 0) (8 * x.toNatClampNeg + h)) : z_M G yX12_again cX12_again 2 (some .int) 3 ((if nl + cn d 8 ≤ 256 * 2 ^ g then 0 else 4)) ((if nl + cn d 8 ≤ 256 * 2 ^ g then 0 else 2048 * 2 ^ g)) [vr (100, 0), vi x] w (fun q w1 => if ix_ok x np then q = some (vi (nI (cn d 8))) ∧ ∃ g1 c1 l1, r_p dM (TM g1) w0 c1 l1 r w1 ∧ MLN c g nl x.toNatClampNeg d (c (100, 0) 0) 8 c1 g1 ∧ (∀ j, c1 (158, 0) j = if 8 * x.toNatClampNeg ≤ j ∧ j < 8 * x.toNatClampNeg + 8 then s_sh co m (j - 8 * x.toNatClampNeg) else c (158, 0) j) ∧ (∀ k, k ≠ 4 → c1 (100, 0) k = c (100, 0) k) ∧ (∀ t, t ≠ (100, 0) → t ≠ (117, 0) → t ≠ (118, 0) → t ≠ (158, 0) → t ≠ (159, 0) → ¬ (160 ≤ t.1 ∧ t.1 ≤ 163) → c1 t = c t) else q = some (vi (-1)) ∧ w1 = w) := by
  refine z_met ym_X12_again (by decide) ⟨Nat.le_of_ble_eq_true rfl, Nat.le_of_ble_eq_true rfl⟩ (fun X hG hn hmc hms hin h hr => ?_)
  have he := hr.2.2.2.2.2.1
  refine z_less (kC' := 0 + (if nl + cn d 8 ≤ 256 * 2 ^ g then 0 else 4)) (kS' := 0 + (if nl + cn d 8 ≤ 256 * 2 ^ g then 0 else 2048 * 2 ^ g)) (by omega) (by omega) ?_
  refine z_iload_n h dX12_again_0 rfl ?_
  refine z_iconst (v := 0) h dX12_again_1 (by decide) ?_
  refine z_aload_n h dX12_again_2 rfl ?_
  refine y_geti h dX12_again_3 hR flX12_294 (by first | assumption | exact Nat.le_of_ble_eq_true rfl) (by first | rfl | assumption | exact tx_2 (by first | assumption | omega) | exact tx_18 (by first | assumption | omega) | exact tx_19 (by first | assumption | omega) | exact tx_20 (by first | assumption | omega) | exact tx_27 (by first | assumption | omega) | exact tx_28 (by first | assumption | omega) | exact tx_30 (by first | assumption | omega) | exact tx_31 (by first | assumption | omega) | exact tx_32 (by first | assumption | omega) | exact tx_33 (by first | assumption | omega)) (by rfl) ?_
  rw [hc3]
  refine z_iconst (v := 1) h dX12_again_6 (by decide) ?_
  refine z_isub h dX12_again_7 ?_
  refine z_callS h dX12_again_8 (fun _ _ q => z_okv_no he q) (fun _ _ _ t q => absurd q (he t)) (m_X12_in _ _ _ _ _) ym_X12_in mlX12_169 sm_X12_in rfl (by decide) (Nat.le_of_ble_eq_true rfl) ?_
  rintro q1 w1 ⟨rfl, hw1⟩
  have hw1 := hw1.symm; subst hw1
  refine z_if_eq h dX12_again_11 22 (by decide) (fun c_1 => ?_) (fun c_1 => ?_)
  · skip
    refine z_iconst (v := -1) h dX12_again_22 (by decide) ?_
    exact z_iret h dX12_again_23 hr (z_f (fun q => z_bf c_1 ((ix_in (by omega)).mpr q)) ⟨rfl, rfl⟩)
  · skip
    have hix : ix_ok x np := (ix_in (by omega)).mp (z_bt c_1)
    refine z_aload_n h dX12_again_14 rfl ?_
    refine z_iload_n h dX12_again_15 rfl ?_
    have hset := m_X12_settle (x_G X) hR nb hc1 hnb hg4 x.toNatClampNeg bi co nl nr m (by have := ix_lt hix (by omega); omega) (hpb hix).1 (hpb hix).2.1 (hpb hix).2.2 hco hc4 hnl hnl8 hc6 hnr (hm hix)
    rw [← hd] at hset
    refine z_toe (y := nI x.toNatClampNeg) (ix_eq hix) ?_
    refine z_callV h dX12_again_16 (fun _ _ q => z_okv_no he q) (fun _ _ _ t q => absurd q (he t)) (hset) ym_X12_settle mlX12_297 im_X12_settle (ci := 12) rfl se_X12_settle icX12 rfl (r_p.ob hR (by first | assumption | exact Nat.le_of_ble_eq_true rfl) (by first | rfl | assumption | exact tx_2 (by first | assumption | omega) | exact tx_18 (by first | assumption | omega) | exact tx_19 (by first | assumption | omega) | exact tx_20 (by first | assumption | omega) | exact tx_27 (by first | assumption | omega) | exact tx_28 (by first | assumption | omega) | exact tx_30 (by first | assumption | omega) | exact tx_31 (by first | assumption | omega) | exact tx_32 (by first | assumption | omega) | exact tx_33 (by first | assumption | omega))) rfl (by decide) (Nat.le_of_ble_eq_true rfl) ?_
    rintro q1 w ⟨rfl, g1, c1, l1, hR, hLN, h158, h100, hfr⟩
    refine z_goto h dX12_again_19 23 (by decide) ?_
    exact z_iret h dX12_again_23 hr (z_t hix ⟨rfl, g1, c1, l1, hR, hLN, h158, h100, hfr⟩)
set_option maxHeartbeats 4000000 in
set_option maxRecDepth 100000 in
theorem m_X12_pay (G : z_G) {g : Nat} {w0 w : z_w} {c : r_c} {l : r_l} {r : r_r} (hR : r_p dM (TM g) w0 c l r w) (nb : Nat) (hc1 : c (100, 0) 1 = nI nb) (hnb : nb ≤ 12) (hg4 : g ≤ 4) (nl nr : Nat) (m : Nat → Nat) (hc4 : c (100, 0) 4 = nI nl) (hnl : nl ≤ 256 * 2 ^ g) (hnl8 : nl + 8 ≤ 4096) (hc6 : c (100, 0) 6 = nI nr) (hnr : nr ≤ 100) (np : Nat) (hc3 : c (100, 0) 3 = nI np) (hnp : np ≤ 60) (na : Nat) (hc2 : c (100, 0) 2 = nI na) (hna : na ≤ 100) (x n : Int32) (hm : ∀ h, h < 8 → m h < 2 ^ 31 ∧ ms_l c x.toNatClampNeg nr (c (100, 0) 0) h nb = lN (m h)) (d : Nat → Int32) (hd : d = fun h => s_sh n.toNatClampNeg m h - c (158, 0) (8 * np + h)) : z_M G yX12_pay cX12_pay 3 (some .int) 3 ((if nl + cn d 8 ≤ 256 * 2 ^ g then 0 else 4)) ((if nl + cn d 8 ≤ 256 * 2 ^ g then 0 else 2048 * 2 ^ g)) [vr (100, 0), vi x, vi n] w (fun q w1 => if ix_ok x na ∧ (1 ≤ n ∧ n ≤ 1000000) ∧ np < 60 then q = some (vi (nI np)) ∧ ∃ g1 c1 l1, r_p dM (TM g1) w0 c1 l1 r w1 ∧ MLN c g nl np d (c (100, 0) 0) 8 c1 g1 ∧ (∀ j, c1 (158, 0) j = if 8 * np ≤ j ∧ j < 8 * np + 8 then s_sh n.toNatClampNeg m (j - 8 * np) else c (158, 0) j) ∧ c1 (155, 0) = upd (c (155, 0)) np x ∧ c1 (156, 0) = upd (c (156, 0)) np n ∧ c1 (157, 0) = upd (c (157, 0)) np (c (100, 0) 0) ∧ c1 (100, 0) 3 = nI (np + 1) ∧ (∀ k, k ≠ 3 → k ≠ 4 → c1 (100, 0) k = c (100, 0) k) ∧ (∀ t, t ≠ (100, 0) → t ≠ (117, 0) → t ≠ (118, 0) → t ≠ (155, 0) → t ≠ (156, 0) → t ≠ (157, 0) → t ≠ (158, 0) → t ≠ (159, 0) → ¬ (160 ≤ t.1 ∧ t.1 ≤ 163) → c1 t = c t) else q = some (vi (-1)) ∧ w1 = w) := by
  refine z_met ym_X12_pay (by decide) ⟨Nat.le_of_ble_eq_true rfl, Nat.le_of_ble_eq_true rfl⟩ (fun X hG hn hmc hms hin h hr => ?_)
  have he := hr.2.2.2.2.2.1
  refine z_less (kC' := 0 + (if nl + cn d 8 ≤ 256 * 2 ^ g then 0 else 4)) (kS' := 0 + (if nl + cn d 8 ≤ 256 * 2 ^ g then 0 else 2048 * 2 ^ g)) (by omega) (by omega) ?_
  refine z_aload_n h dX12_pay_0 rfl ?_
  refine z_iload_n h dX12_pay_1 rfl ?_
  refine z_callV h dX12_pay_2 (fun _ _ q => z_okv_no he q) (fun _ _ _ t q => absurd q (he t)) (m_X12_isBar _ hR na hc2 hna x) ym_X12_isBar mlX12_267 im_X12_isBar (ci := 12) rfl se_X12_isBar icX12 rfl (r_p.ob hR (by first | assumption | exact Nat.le_of_ble_eq_true rfl) (by first | rfl | assumption | exact tx_2 (by first | assumption | omega) | exact tx_18 (by first | assumption | omega) | exact tx_19 (by first | assumption | omega) | exact tx_20 (by first | assumption | omega) | exact tx_27 (by first | assumption | omega) | exact tx_28 (by first | assumption | omega) | exact tx_30 (by first | assumption | omega) | exact tx_31 (by first | assumption | omega) | exact tx_32 (by first | assumption | omega) | exact tx_33 (by first | assumption | omega))) rfl (by decide) (Nat.le_of_ble_eq_true rfl) ?_
  rintro q1 w1 ⟨rfl, hw1⟩
  have hw1 := hw1.symm; subst hw1
  refine z_if_eq h dX12_pay_5 27 (by decide) (fun c_1 => ?_) (fun c_1 => ?_)
  · skip
    refine z_iconst (v := -1) h dX12_pay_27 (by decide) ?_
    exact z_iret h dX12_pay_28 hr (z_f (fun q => z_bf c_1 q.1) ⟨rfl, rfl⟩)
  · skip
    refine z_iload_n h dX12_pay_8 rfl ?_
    refine z_iconst (v := 1) h dX12_pay_9 (by decide) ?_
    refine z_ldc h dX12_pay_10 kcX12_194 ?_
    refine z_callS h dX12_pay_12 (fun _ _ q => z_okv_no he q) (fun _ _ _ t q => absurd q (he t)) (m_X12_in _ _ _ _ _) ym_X12_in mlX12_169 sm_X12_in rfl (by decide) (Nat.le_of_ble_eq_true rfl) ?_
    rintro q1 w1 ⟨rfl, hw1⟩
    have hw1 := hw1.symm; subst hw1
    refine z_if_eq h dX12_pay_15 27 (by decide) (fun c_2 => ?_) (fun c_2 => ?_)
    · skip
      refine z_iconst (v := -1) h dX12_pay_27 (by decide) ?_
      exact z_iret h dX12_pay_28 hr (z_f (fun q => z_bf c_2 q.2.1) ⟨rfl, rfl⟩)
    · skip
      refine z_aload_n h dX12_pay_18 rfl ?_
      refine y_geti h dX12_pay_19 hR flX12_294 (by first | assumption | exact Nat.le_of_ble_eq_true rfl) (by first | rfl | assumption | exact tx_2 (by first | assumption | omega) | exact tx_18 (by first | assumption | omega) | exact tx_19 (by first | assumption | omega) | exact tx_20 (by first | assumption | omega) | exact tx_27 (by first | assumption | omega) | exact tx_28 (by first | assumption | omega) | exact tx_30 (by first | assumption | omega) | exact tx_31 (by first | assumption | omega) | exact tx_32 (by first | assumption | omega) | exact tx_33 (by first | assumption | omega)) (by rfl) ?_
      rw [hc3]
      refine z_bipush (v := 60) h dX12_pay_22 (by decide) ?_
      refine z_icmp_ne h dX12_pay_24 29 (by decide) (fun c_3 => ?_) (fun c_3 => ?_)
      · skip
        have hnp9 : np < 60 := by
          have : np ≠ 60 := fun q => c_3 (by rw [q]; rfl)
          omega
        have hix : ix_ok x na := z_bt c_1
        obtain ⟨hnn, hn1, hn9⟩ := z_rng (x := n) 1 1000000 (z_bt c_2) (by decide) (by decide)
        refine z_aload_n h dX12_pay_29 rfl ?_
        refine y_getr h dX12_pay_30 hR flX12_124 (by first | assumption | exact Nat.le_of_ble_eq_true rfl) (by first | rfl | assumption | exact tx_2 (by first | assumption | omega) | exact tx_18 (by first | assumption | omega) | exact tx_19 (by first | assumption | omega) | exact tx_20 (by first | assumption | omega) | exact tx_27 (by first | assumption | omega) | exact tx_28 (by first | assumption | omega) | exact tx_30 (by first | assumption | omega) | exact tx_31 (by first | assumption | omega) | exact tx_32 (by first | assumption | omega) | exact tx_33 (by first | assumption | omega)) (by rfl) ?_
        refine z_aload_n h dX12_pay_33 rfl ?_
        refine y_geti h dX12_pay_34 hR flX12_294 (by first | assumption | exact Nat.le_of_ble_eq_true rfl) (by first | rfl | assumption | exact tx_2 (by first | assumption | omega) | exact tx_18 (by first | assumption | omega) | exact tx_19 (by first | assumption | omega) | exact tx_20 (by first | assumption | omega) | exact tx_27 (by first | assumption | omega) | exact tx_28 (by first | assumption | omega) | exact tx_30 (by first | assumption | omega) | exact tx_31 (by first | assumption | omega) | exact tx_32 (by first | assumption | omega) | exact tx_33 (by first | assumption | omega)) (by rfl) ?_
        refine z_toe (y := nI np) (hc3) ?_
        refine z_iload_n h dX12_pay_37 rfl ?_
        refine y_iast h dX12_pay_38 hR (by first | assumption | exact Nat.le_of_ble_eq_true rfl) (by first | rfl | assumption | exact tx_2 (by first | assumption | omega) | exact tx_18 (by first | assumption | omega) | exact tx_19 (by first | assumption | omega) | exact tx_20 (by first | assumption | omega) | exact tx_27 (by first | assumption | omega) | exact tx_28 (by first | assumption | omega) | exact tx_30 (by first | assumption | omega) | exact tx_31 (by first | assumption | omega) | exact tx_32 (by first | assumption | omega) | exact tx_33 (by first | assumption | omega)) (z_ixn (show np < 60 by omega) (by decide)) (fun w hR => ?_)
        obtain ⟨cP, hcP⟩ : ∃ cP, cP = r_cs c (155, 0) (np) (x) := ⟨_, rfl⟩
        rw [← hcP] at hR
        have eP : cP (155, 0) = upd (c (155, 0)) (np) (x) := by rw [hcP, r_cs, r_cf_self]
        have nP : ∀ t, t ≠ (155, 0) → cP t = c t := fun t h => by rw [hcP, r_cs, r_cf_ne h]
        refine z_aload_n h dX12_pay_39 rfl ?_
        refine y_getr h dX12_pay_40 hR flX12_127 (by first | assumption | exact Nat.le_of_ble_eq_true rfl) (by first | rfl | assumption | exact tx_2 (by first | assumption | omega) | exact tx_18 (by first | assumption | omega) | exact tx_19 (by first | assumption | omega) | exact tx_20 (by first | assumption | omega) | exact tx_27 (by first | assumption | omega) | exact tx_28 (by first | assumption | omega) | exact tx_30 (by first | assumption | omega) | exact tx_31 (by first | assumption | omega) | exact tx_32 (by first | assumption | omega) | exact tx_33 (by first | assumption | omega)) (by rfl) ?_
        refine z_aload_n h dX12_pay_43 rfl ?_
        refine y_geti h dX12_pay_44 hR flX12_294 (by first | assumption | exact Nat.le_of_ble_eq_true rfl) (by first | rfl | assumption | exact tx_2 (by first | assumption | omega) | exact tx_18 (by first | assumption | omega) | exact tx_19 (by first | assumption | omega) | exact tx_20 (by first | assumption | omega) | exact tx_27 (by first | assumption | omega) | exact tx_28 (by first | assumption | omega) | exact tx_30 (by first | assumption | omega) | exact tx_31 (by first | assumption | omega) | exact tx_32 (by first | assumption | omega) | exact tx_33 (by first | assumption | omega)) (by rfl) ?_
        refine z_toe (y := nI np) (by rw [nP _ (by simp)]; exact hc3) ?_
        refine z_iload_n h dX12_pay_47 rfl ?_
        refine y_iast h dX12_pay_48 hR (by first | assumption | exact Nat.le_of_ble_eq_true rfl) (by first | rfl | assumption | exact tx_2 (by first | assumption | omega) | exact tx_18 (by first | assumption | omega) | exact tx_19 (by first | assumption | omega) | exact tx_20 (by first | assumption | omega) | exact tx_27 (by first | assumption | omega) | exact tx_28 (by first | assumption | omega) | exact tx_30 (by first | assumption | omega) | exact tx_31 (by first | assumption | omega) | exact tx_32 (by first | assumption | omega) | exact tx_33 (by first | assumption | omega)) (z_ixn (show np < 60 by omega) (by decide)) (fun w hR => ?_)
        obtain ⟨cQ, hcQ⟩ : ∃ cQ, cQ = r_cs cP (156, 0) (np) (n) := ⟨_, rfl⟩
        rw [← hcQ] at hR
        have eQ : cQ (156, 0) = upd (cP (156, 0)) (np) (n) := by rw [hcQ, r_cs, r_cf_self]
        have nQ : ∀ t, t ≠ (156, 0) → cQ t = cP t := fun t h => by rw [hcQ, r_cs, r_cf_ne h]
        refine z_aload_n h dX12_pay_49 rfl ?_
        refine y_getr h dX12_pay_50 hR flX12_130 (by first | assumption | exact Nat.le_of_ble_eq_true rfl) (by first | rfl | assumption | exact tx_2 (by first | assumption | omega) | exact tx_18 (by first | assumption | omega) | exact tx_19 (by first | assumption | omega) | exact tx_20 (by first | assumption | omega) | exact tx_27 (by first | assumption | omega) | exact tx_28 (by first | assumption | omega) | exact tx_30 (by first | assumption | omega) | exact tx_31 (by first | assumption | omega) | exact tx_32 (by first | assumption | omega) | exact tx_33 (by first | assumption | omega)) (by rfl) ?_
        refine z_aload_n h dX12_pay_53 rfl ?_
        refine y_geti h dX12_pay_54 hR flX12_294 (by first | assumption | exact Nat.le_of_ble_eq_true rfl) (by first | rfl | assumption | exact tx_2 (by first | assumption | omega) | exact tx_18 (by first | assumption | omega) | exact tx_19 (by first | assumption | omega) | exact tx_20 (by first | assumption | omega) | exact tx_27 (by first | assumption | omega) | exact tx_28 (by first | assumption | omega) | exact tx_30 (by first | assumption | omega) | exact tx_31 (by first | assumption | omega) | exact tx_32 (by first | assumption | omega) | exact tx_33 (by first | assumption | omega)) (by rfl) ?_
        refine z_toe (y := nI np) (by rw [nQ _ (by simp), nP _ (by simp)]; exact hc3) ?_
        refine z_aload_n h dX12_pay_57 rfl ?_
        refine y_geti h dX12_pay_58 hR flX12_191 (by first | assumption | exact Nat.le_of_ble_eq_true rfl) (by first | rfl | assumption | exact tx_2 (by first | assumption | omega) | exact tx_18 (by first | assumption | omega) | exact tx_19 (by first | assumption | omega) | exact tx_20 (by first | assumption | omega) | exact tx_27 (by first | assumption | omega) | exact tx_28 (by first | assumption | omega) | exact tx_30 (by first | assumption | omega) | exact tx_31 (by first | assumption | omega) | exact tx_32 (by first | assumption | omega) | exact tx_33 (by first | assumption | omega)) (by rfl) ?_
        rw [nQ _ (by simp), nP _ (by simp)]
        refine y_iast h dX12_pay_61 hR (by first | assumption | exact Nat.le_of_ble_eq_true rfl) (by first | rfl | assumption | exact tx_2 (by first | assumption | omega) | exact tx_18 (by first | assumption | omega) | exact tx_19 (by first | assumption | omega) | exact tx_20 (by first | assumption | omega) | exact tx_27 (by first | assumption | omega) | exact tx_28 (by first | assumption | omega) | exact tx_30 (by first | assumption | omega) | exact tx_31 (by first | assumption | omega) | exact tx_32 (by first | assumption | omega) | exact tx_33 (by first | assumption | omega)) (z_ixn (show np < 60 by omega) (by decide)) (fun w hR => ?_)
        obtain ⟨cR, hcR⟩ : ∃ cR, cR = r_cs cQ (157, 0) (np) (c (100, 0) 0) := ⟨_, rfl⟩
        rw [← hcR] at hR
        have eR : cR (157, 0) = upd (cQ (157, 0)) (np) (c (100, 0) 0) := by rw [hcR, r_cs, r_cf_self]
        have nR : ∀ t, t ≠ (157, 0) → cR t = cQ t := fun t h => by rw [hcR, r_cs, r_cf_ne h]
        refine z_aload_n h dX12_pay_62 rfl ?_
        refine z_dup_r h dX12_pay_63 ?_
        refine y_geti h dX12_pay_64 hR flX12_294 (by first | assumption | exact Nat.le_of_ble_eq_true rfl) (by first | rfl | assumption | exact tx_2 (by first | assumption | omega) | exact tx_18 (by first | assumption | omega) | exact tx_19 (by first | assumption | omega) | exact tx_20 (by first | assumption | omega) | exact tx_27 (by first | assumption | omega) | exact tx_28 (by first | assumption | omega) | exact tx_30 (by first | assumption | omega) | exact tx_31 (by first | assumption | omega) | exact tx_32 (by first | assumption | omega) | exact tx_33 (by first | assumption | omega)) (by rfl) ?_
        refine z_iconst (v := 1) h dX12_pay_67 (by decide) ?_
        refine z_iadd h dX12_pay_68 ?_
        refine z_toe (y := nI (np + 1)) (by rw [nR _ (by simp), nQ _ (by simp), nP _ (by simp), hc3]; exact z_up np) ?_
        refine y_put h dX12_pay_69 he hR flX12_294 rfl (by first | assumption | exact Nat.le_of_ble_eq_true rfl) (by first | rfl | assumption | exact tx_2 (by first | assumption | omega) | exact tx_18 (by first | assumption | omega) | exact tx_19 (by first | assumption | omega) | exact tx_20 (by first | assumption | omega) | exact tx_27 (by first | assumption | omega) | exact tx_28 (by first | assumption | omega) | exact tx_30 (by first | assumption | omega) | exact tx_31 (by first | assumption | omega) | exact tx_32 (by first | assumption | omega) | exact tx_33 (by first | assumption | omega)) (by rfl) (fun w hR => ?_)
        obtain ⟨cS, hcS⟩ : ∃ cS, cS = r_cs cR (100, 0) (3) (nI (np + 1)) := ⟨_, rfl⟩
        rw [← hcS] at hR
        have eS : cS (100, 0) = upd (cR (100, 0)) (3) (nI (np + 1)) := by rw [hcS, r_cs, r_cf_self]
        have nS : ∀ t, t ≠ (100, 0) → cS t = cR t := fun t h => by rw [hcS, r_cs, r_cf_ne h]
        refine z_aload_n h dX12_pay_72 rfl ?_
        refine z_aload_n h dX12_pay_73 rfl ?_
        refine y_geti h dX12_pay_74 hR flX12_294 (by first | assumption | exact Nat.le_of_ble_eq_true rfl) (by first | rfl | assumption | exact tx_2 (by first | assumption | omega) | exact tx_18 (by first | assumption | omega) | exact tx_19 (by first | assumption | omega) | exact tx_20 (by first | assumption | omega) | exact tx_27 (by first | assumption | omega) | exact tx_28 (by first | assumption | omega) | exact tx_30 (by first | assumption | omega) | exact tx_31 (by first | assumption | omega) | exact tx_32 (by first | assumption | omega) | exact tx_33 (by first | assumption | omega)) (by rfl) ?_
        refine z_iconst (v := 1) h dX12_pay_77 (by decide) ?_
        refine z_isub h dX12_pay_78 ?_
        have hY : ∀ t : z_T, t ≠ (155, 0) → t ≠ (156, 0) → t ≠ (157, 0) → t ≠ (100, 0) → cS t = c t := fun t h1 h2 h3 h4 => by rw [nS t h4, nR t h3, nQ t h2, nP t h1]
        have hYk : ∀ k, k ≠ 3 → cS (100, 0) k = c (100, 0) k := fun k hk => by rw [eS, pk_un hk, nR _ (by simp), nQ _ (by simp), nP _ (by simp)]
        have y155 : cS (155, 0) = upd (c (155, 0)) np x := by rw [nS _ (by simp), nR _ (by simp), nQ _ (by simp), eP]
        have y156 : cS (156, 0) = upd (c (156, 0)) np n := by rw [nS _ (by simp), nR _ (by simp), eQ, nP _ (by simp)]
        have y157 : cS (157, 0) = upd (c (157, 0)) np (c (100, 0) 0) := by rw [nS _ (by simp), eR, nQ _ (by simp), nP _ (by simp)]
        have y158 : cS (158, 0) = c (158, 0) := hY _ (by simp) (by simp) (by simp) (by simp)
        have hset := m_X12_settle (x_G X) hR nb ((hYk 1 (by decide)).trans hc1) hnb hg4 np x.toNatClampNeg n.toNatClampNeg nl nr m (by omega) (by rw [y155, pk_us]; exact ix_eq hix) (by have := ix_lt hix (by omega); omega) (by rw [y156, pk_us]; exact hnn) (by omega) ((hYk 4 (by decide)).trans hc4) hnl hnl8 ((hYk 6 (by decide)).trans hc6) hnr (fun h hh => ⟨(hm h hh).1, by rw [y157, pk_us, ms_l_congr (hY (144, 0) (by simp) (by simp) (by simp) (by simp)) (hY (151, 0) (by simp) (by simp) (by simp) (by simp)) (hY (152, 0) (by simp) (by simp) (by simp) (by simp)) (hY (153, 0) (by simp) (by simp) (by simp) (by simp)) (hY (154, 0) (by simp) (by simp) (by simp) (by simp))]; exact (hm h hh).2⟩)
        rw [y158, ← hd] at hset
        refine z_toe (y := nI np) (by show cS (100, 0) 3 - 1 = _; rw [eS, pk_us]; exact nI_pred np) ?_
        refine z_callV h dX12_pay_79 (fun _ _ q => z_okv_no he q) (fun _ _ _ t q => absurd q (he t)) (hset) ym_X12_settle mlX12_297 im_X12_settle (ci := 12) rfl se_X12_settle icX12 rfl (r_p.ob hR (by first | assumption | exact Nat.le_of_ble_eq_true rfl) (by first | rfl | assumption | exact tx_2 (by first | assumption | omega) | exact tx_18 (by first | assumption | omega) | exact tx_19 (by first | assumption | omega) | exact tx_20 (by first | assumption | omega) | exact tx_27 (by first | assumption | omega) | exact tx_28 (by first | assumption | omega) | exact tx_30 (by first | assumption | omega) | exact tx_31 (by first | assumption | omega) | exact tx_32 (by first | assumption | omega) | exact tx_33 (by first | assumption | omega))) rfl (by decide) (Nat.le_of_ble_eq_true rfl) ?_
        rintro q1 w ⟨rfl, g1, c1, l1, hR, hLN, h158, h100, hfr⟩
        refine z_pop_i h dX12_pay_82 ?_
        refine z_aload_n h dX12_pay_83 rfl ?_
        refine y_geti h dX12_pay_84 hR flX12_294 (by first | assumption | exact Nat.le_of_ble_eq_true rfl) (by first | rfl | assumption | exact tx_2 (by first | assumption | omega) | exact tx_18 (by first | assumption | omega) | exact tx_19 (by first | assumption | omega) | exact tx_20 (by first | assumption | omega) | exact tx_27 (by first | assumption | omega) | exact tx_28 (by first | assumption | omega) | exact tx_30 (by first | assumption | omega) | exact tx_31 (by first | assumption | omega) | exact tx_32 (by first | assumption | omega) | exact tx_33 (by first | assumption | omega)) (by rfl) ?_
        refine z_iconst (v := 1) h dX12_pay_87 (by decide) ?_
        refine z_isub h dX12_pay_88 ?_
        refine z_toe (y := nI np) (by show c1 (100, 0) 3 - 1 = _; rw [h100 3 (by decide), eS, pk_us]; exact nI_pred np) ?_
        exact z_iret h dX12_pay_89 hr (z_t ⟨hix, z_bt c_2, hnp9⟩ ⟨rfl, g1, c1, l1, hR, MLN_base (fun t ht => hY t (fun e => by rw [e] at ht; simp at ht) (fun e => by rw [e] at ht; simp at ht) (fun e => by rw [e] at ht; simp at ht) (fun e => by rw [e] at ht; simp at ht)) (by rw [← hYk 0 (by decide)]; exact hLN), h158, by rw [hfr (155, 0) (by simp) (by simp) (by simp) (by simp) (by simp) (by simp)]; exact y155, by rw [hfr (156, 0) (by simp) (by simp) (by simp) (by simp) (by simp) (by simp)]; exact y156, by rw [hfr (157, 0) (by simp) (by simp) (by simp) (by simp) (by simp) (by simp)]; exact y157, by rw [h100 3 (by decide), eS, pk_us], fun k hk3 hk4 => (h100 k hk4).trans (hYk k hk3), fun t h1 h2 h3 h4 h5 h6 h7 h8 h9 => (hfr t h1 h2 h3 h7 h8 h9).trans (hY t h4 h5 h6 h1)⟩)
      · skip
        have hnp9 : np = 60 := (nI_eq (a := np) (b := 60) (by omega) (by decide)).mp c_3
        refine z_iconst (v := -1) h dX12_pay_27 (by decide) ?_
        exact z_iret h dX12_pay_28 hr (z_f (fun q => by omega) ⟨rfl, rfl⟩)
