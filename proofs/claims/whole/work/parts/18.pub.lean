/-! the class: its public methods, the short ones -/
/-- the class's world: the table, the counts, the rows of references -/
def XR (nb na np g : Nat) (w0 : z_w) (c : r_c) (l : r_l) (r : r_r) (w : z_w) : Prop :=
  r_p dX (TX nb na np g) w0 c l r w ∧ nb ≤ 12 ∧ na ≤ 100 ∧ np ≤ 60 ∧ g ≤ 6 ∧ c (0, 0) 2 = nI nb ∧ c (0, 0) 8 = nI na ∧ c (0, 0) 12 = nI np ∧ (∀ i, i < nb → r (1, 0) i = some (2, i)) ∧ (∀ i, i < na → r (17, 0) i = some (18, i)) ∧ ∀ i, i < np → r (26, 0) i = some (27, i)
def n_sel (x : Int32) : List (Int32 × Int32) → Int32 → Int32
  | [], d => d
  | q :: r, d => if x = q.1 then q.2 else n_sel x r d
theorem n_item {f : Nat → Int32} {x : Int32} {n m : Nat} (h : ix_ok x n) (hnm : n ≤ m) (hm : m < 2 ^ 31) : (if ¬ x < 0 ∧ ¬ nI m ≤ x then f x.toNatClampNeg else 0) = f x.toNatClampNeg := by
  have hl := ix_lt h (by omega)
  refine if_pos ⟨h.1, fun q => ?_⟩
  rw [ix_eq h] at q
  have := (nI_leI hm (by omega)).mp q
  omega
theorem z_ifq {A B C D : Prop} [Decidable A] (h : if A then B else C) (hp : A → B → D) (hn : ¬ A → C → D) : D := by
  by_cases q : A
  · rw [if_pos q] at h; exact hp q h
  · rw [if_neg q] at h; exact hn q h
set_option maxHeartbeats 4000000 in
set_option maxRecDepth 100000 in
theorem m_X11_test (G : z_G) {nb na np g : Nat} {w0 w : z_w} {c : r_c} {l : r_l} {r : r_r} (hX : XR nb na np g w0 c l r w) (b a e : Int32) : z_M G yX11_test cX11_test 5 (some .boolean) 3 (0) (0) [vr (0, 0), vi b, vi a, vi e] w (fun q w1 => if ix_ok b nb ∧ (0 ≤ a ∧ a ≤ 1000) ∧ (a ≤ e ∧ e ≤ 1000) ∧ ¬ (c (2, b.toNatClampNeg) 4 < a ∨ e < c (2, b.toNatClampNeg) 3) then q = some (vi 1) ∧ r_p dX (TX nb na np g) w0 (r_cs (r_cs c (2, b.toNatClampNeg) 3 (if c (2, b.toNatClampNeg) 3 < a then a else c (2, b.toNatClampNeg) 3)) (2, b.toNatClampNeg) 4 (if e < c (2, b.toNatClampNeg) 4 then e else c (2, b.toNatClampNeg) 4)) (l) (r) w1 else q = some (vi 0) ∧ w1 = w) := by
  refine z_met ym_X11_test (by decide) ⟨Nat.le_of_ble_eq_true rfl, Nat.le_of_ble_eq_true rfl⟩ (fun X hG hn hmc hms hin h hr => ?_)
  have he := hr.2.2.2.2.2.1
  obtain ⟨hR, hnb, hna, hnp, hg6, hc2, hc8, hc12, hr1, hr17, hr26⟩ := id hX
  refine z_aload_n h dX11_test_0 rfl ?_
  refine z_iload_n h dX11_test_1 rfl ?_
  refine z_callV h dX11_test_2 (fun _ _ q => z_okv_no he q) (fun _ _ _ t q => absurd q (he t)) (m_X11_bogAt _ hR b hc2 hnb hr1) ym_X11_bogAt mlX11_99 im_X11_bogAt (ci := 11) rfl se_X11_bogAt icX11 rfl (r_p.ob hR (by first | assumption | exact Nat.le_of_ble_eq_true rfl) (by first | rfl | assumption | exact tx_2 (by first | assumption | omega) | exact tx_18 (by first | assumption | omega) | exact tx_19 (by first | assumption | omega) | exact tx_20 (by first | assumption | omega) | exact tx_27 (by first | assumption | omega) | exact tx_28 (by first | assumption | omega) | exact tx_30 (by first | assumption | omega) | exact tx_31 (by first | assumption | omega) | exact tx_32 (by first | assumption | omega) | exact tx_33 (by first | assumption | omega))) rfl (by decide) (Nat.le_of_ble_eq_true rfl) ?_
  rintro r w1 ⟨hw1, hq⟩
  have hw1 := hw1.symm; subst hw1
  by_cases hix : ix_ok b nb
  · skip
    rw [if_pos hix] at hq; subst hq
    refine z_astore h dX11_test_5 (by rw [hn]; decide) ?_
    refine z_aload h dX11_test_7 rfl ?_
    refine z_ifnull h dX11_test_9 ?_
    refine z_iload_n h dX11_test_12 rfl ?_
    refine z_iconst (v := 0) h dX11_test_13 (by decide) ?_
    refine z_sipush (v := 1000) h dX11_test_14 (by decide) ?_
    refine z_callS h dX11_test_17 (fun _ _ q => z_okv_no he q) (fun _ _ _ t q => absurd q (he t)) (m_X11_within _ _ _ _ _) ym_X11_within mlX11_92 sm_X11_within rfl (by decide) (Nat.le_of_ble_eq_true rfl) ?_
    rintro q1 w1 ⟨rfl, hw1⟩
    have hw1 := hw1.symm; subst hw1
    refine z_if_eq h dX11_test_20 34 (by decide) (fun c_1 => ?_) (fun c_1 => ?_)
    · skip
      refine z_iconst (v := 0) h dX11_test_34 (by decide) ?_
      exact z_zret h dX11_test_35 hr rfl (z_f (fun q => z_bf c_1 q.2.1) ⟨rfl, rfl⟩)
    · skip
      refine z_iload_n h dX11_test_23 rfl ?_
      refine z_iload_n h dX11_test_24 rfl ?_
      refine z_sipush (v := 1000) h dX11_test_25 (by decide) ?_
      refine z_callS h dX11_test_28 (fun _ _ q => z_okv_no he q) (fun _ _ _ t q => absurd q (he t)) (m_X11_within _ _ _ _ _) ym_X11_within mlX11_92 sm_X11_within rfl (by decide) (Nat.le_of_ble_eq_true rfl) ?_
      rintro q1 w1 ⟨rfl, hw1⟩
      have hw1 := hw1.symm; subst hw1
      refine z_if_ne h dX11_test_31 36 (by decide) (fun c_2 => ?_) (fun c_2 => ?_)
      · skip
        refine z_aload h dX11_test_36 rfl ?_
        refine z_iload_n h dX11_test_38 rfl ?_
        refine z_iload_n h dX11_test_39 rfl ?_
        refine z_callV h dX11_test_40 (fun _ _ q => z_okv_no he q) (fun _ _ _ t q => absurd q (he t)) (y_X1_narrow _ hR b.toNatClampNeg (ix_lt hix (by omega)) a e) ym_X1_narrow mlX11_103 im_X1_narrow (ci := 1) rfl se_X1_narrow icX1 rfl (r_p.ob hR (Nat.le_of_ble_eq_true rfl) (tx_2 (ix_lt hix (by omega)))) rfl (by decide) (Nat.le_of_ble_eq_true rfl) ?_
        rintro q1 w1 hz
        obtain ⟨y, hy, hpo, hnar⟩ : ∃ y, q1 = some (vi y) ∧ (fun q w1 => if ix_ok b nb ∧ (0 ≤ a ∧ a ≤ 1000) ∧ (a ≤ e ∧ e ≤ 1000) ∧ ¬ (c (2, b.toNatClampNeg) 4 < a ∨ e < c (2, b.toNatClampNeg) 3) then q = some (vi 1) ∧ r_p dX (TX nb na np g) w0 (r_cs (r_cs c (2, b.toNatClampNeg) 3 (if c (2, b.toNatClampNeg) 3 < a then a else c (2, b.toNatClampNeg) 3)) (2, b.toNatClampNeg) 4 (if e < c (2, b.toNatClampNeg) 4 then e else c (2, b.toNatClampNeg) 4)) (l) (r) w1 else q = some (vi 0) ∧ w1 = w) (some (vi y)) w1 ∧ narrow .boolean (.int y) = .int y := by
          refine z_ifq hz (fun h1 h2 => ⟨0, h2.1, z_f (fun q => q.2.2.2 h1) ⟨rfl, h2.2⟩, rfl⟩) (fun h1 h2 => ⟨1, h2.1, z_t ⟨hix, z_bt c_1, z_bt c_2, h1⟩ ⟨rfl, h2.2⟩, rfl⟩)
        subst hy
        exact z_zret h dX11_test_43 hr hnar (hpo)
      · skip
        refine z_iconst (v := 0) h dX11_test_34 (by decide) ?_
        exact z_zret h dX11_test_35 hr rfl (z_f (fun q => z_bf c_2 q.2.2.1) ⟨rfl, rfl⟩)
  · skip
    rw [if_neg hix] at hq; subst hq
    refine z_astoreN h dX11_test_5 (by rw [hn]; decide) ?_
    refine z_aloadN h dX11_test_7 rfl ?_
    refine z_ifnullN h dX11_test_9 34 (by decide) ?_
    refine z_iconst (v := 0) h dX11_test_34 (by decide) ?_
    exact z_zret h dX11_test_35 hr rfl (z_f (fun q => hix q.1) ⟨rfl, rfl⟩)
set_option maxHeartbeats 4000000 in
set_option maxRecDepth 100000 in
theorem m_X11_dig (G : z_G) {nb na np g : Nat} {w0 w : z_w} {c : r_c} {l : r_l} {r : r_r} (hX : XR nb na np g w0 c l r w) (b k : Int32) : z_M G yX11_dig cX11_dig 4 (some .int) 2 (0) (0) [vr (0, 0), vi b, vi k] w (fun q w1 => if ix_ok b nb ∧ (1 ≤ k ∧ k ≤ c (2, b.toNatClampNeg) 0) ∧ ¬ (¬ c (2, b.toNatClampNeg) 5 = -1 ∧ ¬ c (2, b.toNatClampNeg) 5 = c (0, 0) 0 ∧ c (0, 0) 0 - c (2, b.toNatClampNeg) 5 < c (2, b.toNatClampNeg) 2) then q = some (vi (c (4, 0) b.toNatClampNeg + k)) ∧ r_p dX (TX nb na np g) w0 (r_cs (r_cs (r_cs c (2, b.toNatClampNeg) 0 (c (2, b.toNatClampNeg) 0 - k)) (2, b.toNatClampNeg) 5 (c (0, 0) 0)) (4, 0) b.toNatClampNeg (c (4, 0) b.toNatClampNeg + k)) (l) (r) w1 else q = some (vi (-1)) ∧ w1 = w) := by
  refine z_met ym_X11_dig (by decide) ⟨Nat.le_of_ble_eq_true rfl, Nat.le_of_ble_eq_true rfl⟩ (fun X hG hn hmc hms hin h hr => ?_)
  have he := hr.2.2.2.2.2.1
  obtain ⟨hR, hnb, hna, hnp, hg6, hc2, hc8, hc12, hr1, hr17, hr26⟩ := id hX
  refine z_aload_n h dX11_dig_0 rfl ?_
  refine z_iload_n h dX11_dig_1 rfl ?_
  refine z_callV h dX11_dig_2 (fun _ _ q => z_okv_no he q) (fun _ _ _ t q => absurd q (he t)) (m_X11_bogAt _ hR b hc2 hnb hr1) ym_X11_bogAt mlX11_99 im_X11_bogAt (ci := 11) rfl se_X11_bogAt icX11 rfl (r_p.ob hR (by first | assumption | exact Nat.le_of_ble_eq_true rfl) (by first | rfl | assumption | exact tx_2 (by first | assumption | omega) | exact tx_18 (by first | assumption | omega) | exact tx_19 (by first | assumption | omega) | exact tx_20 (by first | assumption | omega) | exact tx_27 (by first | assumption | omega) | exact tx_28 (by first | assumption | omega) | exact tx_30 (by first | assumption | omega) | exact tx_31 (by first | assumption | omega) | exact tx_32 (by first | assumption | omega) | exact tx_33 (by first | assumption | omega))) rfl (by decide) (Nat.le_of_ble_eq_true rfl) ?_
  rintro r w1 ⟨hw1, hq⟩
  have hw1 := hw1.symm; subst hw1
  by_cases hix : ix_ok b nb
  · skip
    rw [if_pos hix] at hq; subst hq
    refine z_astore_n h dX11_dig_5 (by rw [hn]; decide) ?_
    refine z_aload_n h dX11_dig_6 rfl ?_
    refine z_ifnull h dX11_dig_7 ?_
    refine z_iload_n h dX11_dig_10 rfl ?_
    refine z_iconst (v := 1) h dX11_dig_11 (by decide) ?_
    refine z_aload_n h dX11_dig_12 rfl ?_
    refine y_geti h dX11_dig_13 hR flX11_107 (by first | assumption | exact Nat.le_of_ble_eq_true rfl) (tx_2 (ix_lt hix (by omega))) (by rfl) ?_
    refine z_callS h dX11_dig_16 (fun _ _ q => z_okv_no he q) (fun _ _ _ t q => absurd q (he t)) (m_X11_within _ _ _ _ _) ym_X11_within mlX11_92 sm_X11_within rfl (by decide) (Nat.le_of_ble_eq_true rfl) ?_
    rintro q1 w1 ⟨rfl, hw1⟩
    have hw1 := hw1.symm; subst hw1
    refine z_if_eq h dX11_dig_19 33 (by decide) (fun c_1 => ?_) (fun c_1 => ?_)
    · skip
      refine z_iconst (v := -1) h dX11_dig_33 (by decide) ?_
      exact z_iret h dX11_dig_34 hr (z_f (fun q => z_bf c_1 q.2.1) ⟨rfl, rfl⟩)
    · skip
      refine z_aload_n h dX11_dig_22 rfl ?_
      refine z_aload_n h dX11_dig_23 rfl ?_
      refine y_geti h dX11_dig_24 hR flX11_110 (by first | assumption | exact Nat.le_of_ble_eq_true rfl) (by first | rfl | assumption | exact tx_2 (by first | assumption | omega) | exact tx_18 (by first | assumption | omega) | exact tx_19 (by first | assumption | omega) | exact tx_20 (by first | assumption | omega) | exact tx_27 (by first | assumption | omega) | exact tx_28 (by first | assumption | omega) | exact tx_30 (by first | assumption | omega) | exact tx_31 (by first | assumption | omega) | exact tx_32 (by first | assumption | omega) | exact tx_33 (by first | assumption | omega)) (by rfl) ?_
      refine z_callV h dX11_dig_27 (fun _ _ q => z_okv_no he q) (fun _ _ _ t q => absurd q (he t)) (y_X1_restsIn _ hR b.toNatClampNeg (ix_lt hix (by omega)) _) ym_X1_restsIn mlX11_113 im_X1_restsIn (ci := 1) rfl se_X1_restsIn icX1 rfl (r_p.ob hR (Nat.le_of_ble_eq_true rfl) (tx_2 (ix_lt hix (by omega)))) rfl (by decide) (Nat.le_of_ble_eq_true rfl) ?_
      rintro q1 w1 ⟨rfl, hw1⟩
      have hw1 := hw1.symm; subst hw1
      refine z_if_eq h dX11_dig_30 35 (by decide) (fun c_2 => ?_) (fun c_2 => ?_)
      · skip
        refine z_aload_n h dX11_dig_35 rfl ?_
        refine z_dup_r h dX11_dig_36 ?_
        refine y_geti h dX11_dig_37 hR flX11_107 (by first | assumption | exact Nat.le_of_ble_eq_true rfl) (tx_2 (ix_lt hix (by omega))) (by rfl) ?_
        refine z_iload_n h dX11_dig_40 rfl ?_
        refine z_isub h dX11_dig_41 ?_
        refine y_put h dX11_dig_42 he hR flX11_107 rfl (by first | assumption | exact Nat.le_of_ble_eq_true rfl) (tx_2 (ix_lt hix (by omega))) (by rfl) (fun w hR => ?_)
        refine z_aload_n h dX11_dig_45 rfl ?_
        refine z_aload_n h dX11_dig_46 rfl ?_
        refine y_geti h dX11_dig_47 hR flX11_110 (by first | assumption | exact Nat.le_of_ble_eq_true rfl) (by first | rfl | assumption | exact tx_2 (by first | assumption | omega) | exact tx_18 (by first | assumption | omega) | exact tx_19 (by first | assumption | omega) | exact tx_20 (by first | assumption | omega) | exact tx_27 (by first | assumption | omega) | exact tx_28 (by first | assumption | omega) | exact tx_30 (by first | assumption | omega) | exact tx_31 (by first | assumption | omega) | exact tx_32 (by first | assumption | omega) | exact tx_33 (by first | assumption | omega)) (by rfl) ?_
        refine y_put h dX11_dig_50 he hR flX11_117 rfl (by first | assumption | exact Nat.le_of_ble_eq_true rfl) (tx_2 (ix_lt hix (by omega))) (by rfl) (fun w hR => ?_)
        refine z_aload_n h dX11_dig_53 rfl ?_
        refine y_getr h dX11_dig_54 hR flX11_18 (by first | assumption | exact Nat.le_of_ble_eq_true rfl) (by first | rfl | assumption | exact tx_2 (by first | assumption | omega) | exact tx_18 (by first | assumption | omega) | exact tx_19 (by first | assumption | omega) | exact tx_20 (by first | assumption | omega) | exact tx_27 (by first | assumption | omega) | exact tx_28 (by first | assumption | omega) | exact tx_30 (by first | assumption | omega) | exact tx_31 (by first | assumption | omega) | exact tx_32 (by first | assumption | omega) | exact tx_33 (by first | assumption | omega)) (by rfl) ?_
        refine z_iload_n h dX11_dig_57 rfl ?_
        refine z_toe (y := nI b.toNatClampNeg) (ix_eq hix) ?_
        refine z_iload_n h dX11_dig_58 rfl ?_
        refine z_callV h dX11_dig_59 (fun _ _ q => z_okv_no he q) (fun _ _ _ t q => absurd q (he t)) (y_X10_addOre _ hR b.toNatClampNeg k (by have := ix_lt hix (by omega); omega)) ym_X10_addOre mlX11_120 im_X10_addOre (ci := 10) rfl se_X10_addOre icX10 rfl (r_p.ob hR (by first | assumption | exact Nat.le_of_ble_eq_true rfl) (by first | rfl | assumption | exact tx_2 (by first | assumption | omega) | exact tx_18 (by first | assumption | omega) | exact tx_19 (by first | assumption | omega) | exact tx_20 (by first | assumption | omega) | exact tx_27 (by first | assumption | omega) | exact tx_28 (by first | assumption | omega) | exact tx_30 (by first | assumption | omega) | exact tx_31 (by first | assumption | omega) | exact tx_32 (by first | assumption | omega) | exact tx_33 (by first | assumption | omega))) rfl (by decide) (Nat.le_of_ble_eq_true rfl) ?_
        rintro q1 w1 ⟨hq1, hR⟩
        subst hq1
        exact z_iret h dX11_dig_62 hr (z_t ⟨hix, z_bt c_1, z_bf c_2⟩ ⟨rfl, hR⟩)
      · skip
        refine z_iconst (v := -1) h dX11_dig_33 (by decide) ?_
        exact z_iret h dX11_dig_34 hr (z_f (fun q => q.2.2 (z_bt c_2)) ⟨rfl, rfl⟩)
  · skip
    rw [if_neg hix] at hq; subst hq
    refine z_astore_nN h dX11_dig_5 (by rw [hn]; decide) ?_
    refine z_aload_nN h dX11_dig_6 rfl ?_
    refine z_ifnullN h dX11_dig_7 33 (by decide) ?_
    refine z_iconst (v := -1) h dX11_dig_33 (by decide) ?_
    exact z_iret h dX11_dig_34 hr (z_f (fun q => hix q.1) ⟨rfl, rfl⟩)
set_option maxHeartbeats 4000000 in
set_option maxRecDepth 100000 in
theorem m_X11_coal (G : z_G) {nb na np g : Nat} {w0 w : z_w} {c : r_c} {l : r_l} {r : r_r} (hX : XR nb na np g w0 c l r w) (x k : Int32) : z_M G yX11_coal cX11_coal 3 (some .int) 2 (0) (0) [vr (0, 0), vi x, vi k] w (fun q w1 => if (1 ≤ k ∧ k ≤ 10000) ∧ ix_ok x 8 ∧ c (5, 0) x.toNatClampNeg + k ≤ 1000000 then q = some (vi (c (5, 0) x.toNatClampNeg + k)) ∧ r_p dX (TX nb na np g) w0 (r_cs c (5, 0) x.toNatClampNeg (c (5, 0) x.toNatClampNeg + k)) (l) (r) w1 else q = some (vi (-1)) ∧ w1 = w) := by
  refine z_met ym_X11_coal (by decide) ⟨Nat.le_of_ble_eq_true rfl, Nat.le_of_ble_eq_true rfl⟩ (fun X hG hn hmc hms hin h hr => ?_)
  have he := hr.2.2.2.2.2.1
  obtain ⟨hR, hnb, hna, hnp, hg6, hc2, hc8, hc12, hr1, hr17, hr26⟩ := id hX
  refine z_iload_n h dX11_coal_0 rfl ?_
  refine z_iconst (v := 1) h dX11_coal_1 (by decide) ?_
  refine z_sipush (v := 10000) h dX11_coal_2 (by decide) ?_
  refine z_callS h dX11_coal_5 (fun _ _ q => z_okv_no he q) (fun _ _ _ t q => absurd q (he t)) (m_X11_within _ _ _ _ _) ym_X11_within mlX11_92 sm_X11_within rfl (by decide) (Nat.le_of_ble_eq_true rfl) ?_
  rintro q1 w1 ⟨rfl, hw1⟩
  have hw1 := hw1.symm; subst hw1
  refine z_if_eq h dX11_coal_8 23 (by decide) (fun c_1 => ?_) (fun c_1 => ?_)
  · skip
    refine z_iconst (v := -1) h dX11_coal_23 (by decide) ?_
    exact z_iret h dX11_coal_24 hr (z_f (fun q => z_bf c_1 q.1) ⟨rfl, rfl⟩)
  · skip
    refine z_aload_n h dX11_coal_11 rfl ?_
    refine y_getr h dX11_coal_12 hR flX11_18 (by first | assumption | exact Nat.le_of_ble_eq_true rfl) (by first | rfl | assumption | exact tx_2 (by first | assumption | omega) | exact tx_18 (by first | assumption | omega) | exact tx_19 (by first | assumption | omega) | exact tx_20 (by first | assumption | omega) | exact tx_27 (by first | assumption | omega) | exact tx_28 (by first | assumption | omega) | exact tx_30 (by first | assumption | omega) | exact tx_31 (by first | assumption | omega) | exact tx_32 (by first | assumption | omega) | exact tx_33 (by first | assumption | omega)) (by rfl) ?_
    refine z_iload_n h dX11_coal_15 rfl ?_
    refine z_iload_n h dX11_coal_16 rfl ?_
    refine z_callV h dX11_coal_17 (fun _ _ q => z_okv_no he q) (fun _ _ _ t q => absurd q (he t)) (y_X10_addCoal _ hR x k) ym_X10_addCoal mlX11_124 im_X10_addCoal (ci := 10) rfl se_X10_addCoal icX10 rfl (r_p.ob hR (by first | assumption | exact Nat.le_of_ble_eq_true rfl) (by first | rfl | assumption | exact tx_2 (by first | assumption | omega) | exact tx_18 (by first | assumption | omega) | exact tx_19 (by first | assumption | omega) | exact tx_20 (by first | assumption | omega) | exact tx_27 (by first | assumption | omega) | exact tx_28 (by first | assumption | omega) | exact tx_30 (by first | assumption | omega) | exact tx_31 (by first | assumption | omega) | exact tx_32 (by first | assumption | omega) | exact tx_33 (by first | assumption | omega))) rfl (by decide) (Nat.le_of_ble_eq_true rfl) ?_
    rintro q1 w1 hz
    obtain ⟨y, hy, hpo⟩ : ∃ y, q1 = some (vi y) ∧ (fun q w1 => if (1 ≤ k ∧ k ≤ 10000) ∧ ix_ok x 8 ∧ c (5, 0) x.toNatClampNeg + k ≤ 1000000 then q = some (vi (c (5, 0) x.toNatClampNeg + k)) ∧ r_p dX (TX nb na np g) w0 (r_cs c (5, 0) x.toNatClampNeg (c (5, 0) x.toNatClampNeg + k)) (l) (r) w1 else q = some (vi (-1)) ∧ w1 = w) (some (vi y)) w1 :=
      z_ifq hz (fun h1 h2 => ⟨_, h2.1, z_t ⟨z_bt c_1, h1⟩ ⟨rfl, h2.2⟩⟩) (fun h1 h2 => ⟨_, h2.1, z_f (fun q => h1 q.2) ⟨rfl, h2.2⟩⟩)
    subst hy
    refine z_goto h dX11_coal_20 24 (by decide) ?_
    exact z_iret h dX11_coal_24 hr (hpo)
set_option maxHeartbeats 4000000 in
set_option maxRecDepth 100000 in
theorem m_X11_ground (G : z_G) {nb na np g : Nat} {w0 w : z_w} {c : r_c} {l : r_l} {r : r_r} (hX : XR nb na np g w0 c l r w) (b x : Int32) : z_M G yX11_ground cX11_ground 4 (some .int) 2 (0) (0) [vr (0, 0), vi b, vi x] w (fun q w1 => q = some (vi (if ix_ok b nb then n_sel x [(0, (c (2, b.toNatClampNeg) 0)), (1, (c (2, b.toNatClampNeg) 1)), (2, (c (2, b.toNatClampNeg) 2)), (3, (c (2, b.toNatClampNeg) 3)), (4, (c (2, b.toNatClampNeg) 4)), (5, (c (2, b.toNatClampNeg) 5)), (6, (c (4, 0) b.toNatClampNeg))] (-1) else -1)) ∧ w1 = w) := by
  refine z_met ym_X11_ground (by decide) ⟨Nat.le_of_ble_eq_true rfl, Nat.le_of_ble_eq_true rfl⟩ (fun X hG hn hmc hms hin h hr => ?_)
  have he := hr.2.2.2.2.2.1
  obtain ⟨hR, hnb, hna, hnp, hg6, hc2, hc8, hc12, hr1, hr17, hr26⟩ := id hX
  refine z_aload_n h dX11_ground_0 rfl ?_
  refine z_iload_n h dX11_ground_1 rfl ?_
  refine z_callV h dX11_ground_2 (fun _ _ q => z_okv_no he q) (fun _ _ _ t q => absurd q (he t)) (m_X11_bogAt _ hR b hc2 hnb hr1) ym_X11_bogAt mlX11_99 im_X11_bogAt (ci := 11) rfl se_X11_bogAt icX11 rfl (r_p.ob hR (by first | assumption | exact Nat.le_of_ble_eq_true rfl) (by first | rfl | assumption | exact tx_2 (by first | assumption | omega) | exact tx_18 (by first | assumption | omega) | exact tx_19 (by first | assumption | omega) | exact tx_20 (by first | assumption | omega) | exact tx_27 (by first | assumption | omega) | exact tx_28 (by first | assumption | omega) | exact tx_30 (by first | assumption | omega) | exact tx_31 (by first | assumption | omega) | exact tx_32 (by first | assumption | omega) | exact tx_33 (by first | assumption | omega))) rfl (by decide) (Nat.le_of_ble_eq_true rfl) ?_
  rintro r w1 ⟨hw1, hq⟩
  have hw1 := hw1.symm; subst hw1
  by_cases hix : ix_ok b nb
  · skip
    rw [if_pos hix] at hq; subst hq
    refine z_astore_n h dX11_ground_5 (by rw [hn]; decide) ?_
    refine z_aload_n h dX11_ground_6 rfl ?_
    refine z_ifnonnull h dX11_ground_7 12 (by decide) ?_
    refine z_iload_n h dX11_ground_12 rfl ?_
    by_cases s_1_0 : x = 0
    · skip
      refine z_tblIn h dX11_ground_13 56 (off := 43) (by rw [s_1_0]; decide) (by rw [s_1_0]; decide) (by rw [s_1_0]; rfl) (by decide) ?_
      refine z_aload_n h dX11_ground_56 rfl ?_
      refine y_geti h dX11_ground_57 hR flX11_107 (by first | assumption | exact Nat.le_of_ble_eq_true rfl) (tx_2 (ix_lt hix (by omega))) (by rfl) ?_
      exact z_iret h dX11_ground_60 hr (⟨z_e1 (by rw [if_pos hix, s_1_0]; rfl), rfl⟩)
    by_cases s_1_1 : x = 1
    · skip
      refine z_tblIn h dX11_ground_13 61 (off := 48) (by rw [s_1_1]; decide) (by rw [s_1_1]; decide) (by rw [s_1_1]; rfl) (by decide) ?_
      refine z_aload_n h dX11_ground_61 rfl ?_
      refine y_geti h dX11_ground_62 hR flX11_134 (by first | assumption | exact Nat.le_of_ble_eq_true rfl) (tx_2 (ix_lt hix (by omega))) (by rfl) ?_
      exact z_iret h dX11_ground_65 hr (⟨z_e1 (by rw [if_pos hix, s_1_1]; rfl), rfl⟩)
    by_cases s_1_2 : x = 2
    · skip
      refine z_tblIn h dX11_ground_13 66 (off := 53) (by rw [s_1_2]; decide) (by rw [s_1_2]; decide) (by rw [s_1_2]; rfl) (by decide) ?_
      refine z_aload_n h dX11_ground_66 rfl ?_
      refine y_geti h dX11_ground_67 hR flX11_137 (by first | assumption | exact Nat.le_of_ble_eq_true rfl) (tx_2 (ix_lt hix (by omega))) (by rfl) ?_
      exact z_iret h dX11_ground_70 hr (⟨z_e1 (by rw [if_pos hix, s_1_2]; rfl), rfl⟩)
    by_cases s_1_3 : x = 3
    · skip
      refine z_tblIn h dX11_ground_13 71 (off := 58) (by rw [s_1_3]; decide) (by rw [s_1_3]; decide) (by rw [s_1_3]; rfl) (by decide) ?_
      refine z_aload_n h dX11_ground_71 rfl ?_
      refine y_geti h dX11_ground_72 hR flX11_140 (by first | assumption | exact Nat.le_of_ble_eq_true rfl) (tx_2 (ix_lt hix (by omega))) (by rfl) ?_
      exact z_iret h dX11_ground_75 hr (⟨z_e1 (by rw [if_pos hix, s_1_3]; rfl), rfl⟩)
    by_cases s_1_4 : x = 4
    · skip
      refine z_tblIn h dX11_ground_13 76 (off := 63) (by rw [s_1_4]; decide) (by rw [s_1_4]; decide) (by rw [s_1_4]; rfl) (by decide) ?_
      refine z_aload_n h dX11_ground_76 rfl ?_
      refine y_geti h dX11_ground_77 hR flX11_143 (by first | assumption | exact Nat.le_of_ble_eq_true rfl) (tx_2 (ix_lt hix (by omega))) (by rfl) ?_
      exact z_iret h dX11_ground_80 hr (⟨z_e1 (by rw [if_pos hix, s_1_4]; rfl), rfl⟩)
    by_cases s_1_5 : x = 5
    · skip
      refine z_tblIn h dX11_ground_13 81 (off := 68) (by rw [s_1_5]; decide) (by rw [s_1_5]; decide) (by rw [s_1_5]; rfl) (by decide) ?_
      refine z_aload_n h dX11_ground_81 rfl ?_
      refine y_geti h dX11_ground_82 hR flX11_117 (by first | assumption | exact Nat.le_of_ble_eq_true rfl) (tx_2 (ix_lt hix (by omega))) (by rfl) ?_
      exact z_iret h dX11_ground_85 hr (⟨z_e1 (by rw [if_pos hix, s_1_5]; rfl), rfl⟩)
    by_cases s_1_6 : x = 6
    · skip
      refine z_tblIn h dX11_ground_13 86 (off := 73) (by rw [s_1_6]; decide) (by rw [s_1_6]; decide) (by rw [s_1_6]; rfl) (by decide) ?_
      refine z_aload_n h dX11_ground_86 rfl ?_
      refine y_getr h dX11_ground_87 hR flX11_18 (by first | assumption | exact Nat.le_of_ble_eq_true rfl) (by first | rfl | assumption | exact tx_2 (by first | assumption | omega) | exact tx_18 (by first | assumption | omega) | exact tx_19 (by first | assumption | omega) | exact tx_20 (by first | assumption | omega) | exact tx_27 (by first | assumption | omega) | exact tx_28 (by first | assumption | omega) | exact tx_30 (by first | assumption | omega) | exact tx_31 (by first | assumption | omega) | exact tx_32 (by first | assumption | omega) | exact tx_33 (by first | assumption | omega)) (by rfl) ?_
      refine y_getr h dX11_ground_90 hR flX11_146 (by first | assumption | exact Nat.le_of_ble_eq_true rfl) (by first | rfl | assumption | exact tx_2 (by first | assumption | omega) | exact tx_18 (by first | assumption | omega) | exact tx_19 (by first | assumption | omega) | exact tx_20 (by first | assumption | omega) | exact tx_27 (by first | assumption | omega) | exact tx_28 (by first | assumption | omega) | exact tx_30 (by first | assumption | omega) | exact tx_31 (by first | assumption | omega) | exact tx_32 (by first | assumption | omega) | exact tx_33 (by first | assumption | omega)) (by rfl) ?_
      refine z_iload_n h dX11_ground_93 rfl ?_
      refine z_callS h dX11_ground_94 (fun _ _ q => z_okv_no he q) (fun _ _ _ t q => absurd q (he t)) (m_X11_itemOf _ _ (4, 0) 12 (c (4, 0)) b (hR.ia (Nat.le_of_ble_eq_true rfl) rfl) (by decide)) ym_X11_itemOf mlX11_148 sm_X11_itemOf rfl (by decide) (Nat.le_of_ble_eq_true rfl) ?_
      rintro q1 w1 ⟨rfl, hw1⟩
      have hw1 := hw1.symm; subst hw1
      exact z_iret h dX11_ground_97 hr (⟨z_e1 (by rw [if_pos hix, s_1_6, n_item hix hnb (by decide)]; rfl), rfl⟩)
    refine z_tblOut h dX11_ground_13 98 (by have a0 := lv_neT s_1_0 (a := 0) (by decide); have a1 := lv_neT s_1_1 (a := 1) (by decide); have a2 := lv_neT s_1_2 (a := 2) (by decide); have a3 := lv_neT s_1_3 (a := 3) (by decide); have a4 := lv_neT s_1_4 (a := 4) (by decide); have a5 := lv_neT s_1_5 (a := 5) (by decide); have a6 := lv_neT s_1_6 (a := 6) (by decide); omega) (by decide) ?_
    refine z_iconst (v := -1) h dX11_ground_98 (by decide) ?_
    exact z_iret h dX11_ground_99 hr (⟨z_e1 (by rw [if_pos hix]; simp only [n_sel, s_1_0, s_1_1, s_1_2, s_1_3, s_1_4, s_1_5, s_1_6, if_false]), rfl⟩)
  · skip
    rw [if_neg hix] at hq; subst hq
    refine z_astore_nN h dX11_ground_5 (by rw [hn]; decide) ?_
    refine z_aload_nN h dX11_ground_6 rfl ?_
    refine z_ifnonnullN h dX11_ground_7 ?_
    refine z_iconst (v := -1) h dX11_ground_10 (by decide) ?_
    exact z_iret h dX11_ground_11 hr (⟨z_e1 (if_neg hix).symm, rfl⟩)
set_option maxHeartbeats 4000000 in
set_option maxRecDepth 100000 in
theorem m_X11_water (G : z_G) {nb na np g : Nat} {w0 w : z_w} {c : r_c} {l : r_l} {r : r_r} (hX : XR nb na np g w0 c l r w) (x : Int32) : z_M G yX11_water cX11_water 2 (some .boolean) 2 (0) (0) [vr (0, 0), vi x] w (fun q w1 => if 0 ≤ x ∧ x ≤ 9 then q = some (vi 1) ∧ r_p dX (TX nb na np g) w0 (r_cs c (13, 0) 12 x) (l) (r) w1 else q = some (vi 0) ∧ w1 = w) := by
  refine z_met ym_X11_water (by decide) ⟨Nat.le_of_ble_eq_true rfl, Nat.le_of_ble_eq_true rfl⟩ (fun X hG hn hmc hms hin h hr => ?_)
  have he := hr.2.2.2.2.2.1
  obtain ⟨hR, hnb, hna, hnp, hg6, hc2, hc8, hc12, hr1, hr17, hr26⟩ := id hX
  refine z_iload_n h dX11_water_0 rfl ?_
  refine z_iconst (v := 0) h dX11_water_1 (by decide) ?_
  refine z_bipush (v := 9) h dX11_water_2 (by decide) ?_
  refine z_callS h dX11_water_4 (fun _ _ q => z_okv_no he q) (fun _ _ _ t q => absurd q (he t)) (m_X11_within _ _ _ _ _) ym_X11_within mlX11_92 sm_X11_within rfl (by decide) (Nat.le_of_ble_eq_true rfl) ?_
  rintro q1 w1 ⟨rfl, hw1⟩
  have hw1 := hw1.symm; subst hw1
  refine z_if_ne h dX11_water_7 12 (by decide) (fun c_1 => ?_) (fun c_1 => ?_)
  · skip
    refine z_aload_n h dX11_water_12 rfl ?_
    refine y_getr h dX11_water_13 hR flX11_39 (by first | assumption | exact Nat.le_of_ble_eq_true rfl) (by first | rfl | assumption | exact tx_2 (by first | assumption | omega) | exact tx_18 (by first | assumption | omega) | exact tx_19 (by first | assumption | omega) | exact tx_20 (by first | assumption | omega) | exact tx_27 (by first | assumption | omega) | exact tx_28 (by first | assumption | omega) | exact tx_30 (by first | assumption | omega) | exact tx_31 (by first | assumption | omega) | exact tx_32 (by first | assumption | omega) | exact tx_33 (by first | assumption | omega)) (by rfl) ?_
    refine z_iload_n h dX11_water_16 rfl ?_
    refine y_put h dX11_water_17 he hR flX11_171 rfl (by first | assumption | exact Nat.le_of_ble_eq_true rfl) (by first | rfl | assumption | exact tx_2 (by first | assumption | omega) | exact tx_18 (by first | assumption | omega) | exact tx_19 (by first | assumption | omega) | exact tx_20 (by first | assumption | omega) | exact tx_27 (by first | assumption | omega) | exact tx_28 (by first | assumption | omega) | exact tx_30 (by first | assumption | omega) | exact tx_31 (by first | assumption | omega) | exact tx_32 (by first | assumption | omega) | exact tx_33 (by first | assumption | omega)) (by rfl) (fun w hR => ?_)
    refine z_iconst (v := 1) h dX11_water_20 (by decide) ?_
    exact z_zret h dX11_water_21 hr rfl (z_t (z_bt c_1) ⟨rfl, hR⟩)
  · skip
    refine z_iconst (v := 0) h dX11_water_10 (by decide) ?_
    exact z_zret h dX11_water_11 hr rfl (z_f (z_bf c_1) ⟨rfl, rfl⟩)
set_option maxHeartbeats 4000000 in
set_option maxRecDepth 100000 in
theorem m_X11_gap (G : z_G) {nb na np g : Nat} {w0 w : z_w} {c : r_c} {l : r_l} {r : r_r} (hX : XR nb na np g w0 c l r w) (x : Int32) : z_M G yX11_gap cX11_gap 2 (some .boolean) 2 (0) (0) [vr (0, 0), vi x] w (fun q w1 => if 1 ≤ x ∧ x ≤ 30 then q = some (vi 1) ∧ r_p dX (TX nb na np g) w0 (r_cs c (13, 0) 13 x) (l) (r) w1 else q = some (vi 0) ∧ w1 = w) := by
  refine z_met ym_X11_gap (by decide) ⟨Nat.le_of_ble_eq_true rfl, Nat.le_of_ble_eq_true rfl⟩ (fun X hG hn hmc hms hin h hr => ?_)
  have he := hr.2.2.2.2.2.1
  obtain ⟨hR, hnb, hna, hnp, hg6, hc2, hc8, hc12, hr1, hr17, hr26⟩ := id hX
  refine z_iload_n h dX11_gap_0 rfl ?_
  refine z_iconst (v := 1) h dX11_gap_1 (by decide) ?_
  refine z_bipush (v := 30) h dX11_gap_2 (by decide) ?_
  refine z_callS h dX11_gap_4 (fun _ _ q => z_okv_no he q) (fun _ _ _ t q => absurd q (he t)) (m_X11_within _ _ _ _ _) ym_X11_within mlX11_92 sm_X11_within rfl (by decide) (Nat.le_of_ble_eq_true rfl) ?_
  rintro q1 w1 ⟨rfl, hw1⟩
  have hw1 := hw1.symm; subst hw1
  refine z_if_ne h dX11_gap_7 12 (by decide) (fun c_1 => ?_) (fun c_1 => ?_)
  · skip
    refine z_aload_n h dX11_gap_12 rfl ?_
    refine y_getr h dX11_gap_13 hR flX11_39 (by first | assumption | exact Nat.le_of_ble_eq_true rfl) (by first | rfl | assumption | exact tx_2 (by first | assumption | omega) | exact tx_18 (by first | assumption | omega) | exact tx_19 (by first | assumption | omega) | exact tx_20 (by first | assumption | omega) | exact tx_27 (by first | assumption | omega) | exact tx_28 (by first | assumption | omega) | exact tx_30 (by first | assumption | omega) | exact tx_31 (by first | assumption | omega) | exact tx_32 (by first | assumption | omega) | exact tx_33 (by first | assumption | omega)) (by rfl) ?_
    refine z_iload_n h dX11_gap_16 rfl ?_
    refine y_put h dX11_gap_17 he hR flX11_174 rfl (by first | assumption | exact Nat.le_of_ble_eq_true rfl) (by first | rfl | assumption | exact tx_2 (by first | assumption | omega) | exact tx_18 (by first | assumption | omega) | exact tx_19 (by first | assumption | omega) | exact tx_20 (by first | assumption | omega) | exact tx_27 (by first | assumption | omega) | exact tx_28 (by first | assumption | omega) | exact tx_30 (by first | assumption | omega) | exact tx_31 (by first | assumption | omega) | exact tx_32 (by first | assumption | omega) | exact tx_33 (by first | assumption | omega)) (by rfl) (fun w hR => ?_)
    refine z_iconst (v := 1) h dX11_gap_20 (by decide) ?_
    exact z_zret h dX11_gap_21 hr rfl (z_t (z_bt c_1) ⟨rfl, hR⟩)
  · skip
    refine z_iconst (v := 0) h dX11_gap_10 (by decide) ?_
    exact z_zret h dX11_gap_11 hr rfl (z_f (z_bf c_1) ⟨rfl, rfl⟩)
set_option maxHeartbeats 4000000 in
set_option maxRecDepth 100000 in
theorem m_X11_furnace (G : z_G) {nb na np g : Nat} {w0 w : z_w} {c : r_c} {l : r_l} {r : r_r} (hX : XR nb na np g w0 c l r w) (x : Int32) : z_M G yX11_furnace cX11_furnace 2 (some .int) 2 (0) (0) [vr (0, 0), vi x] w (fun q w1 => q = some (vi (n_sel x [(0, c (13, 0) 6), (1, c (13, 0) 8), (2, c (13, 0) 9), (3, c (13, 0) 3), (4, c (13, 0) 4), (5, z_sum (c (15, 0)) 12), (6, c (13, 0) 7), (7, c (13, 0) 10), (8, c (13, 0) 11)] (-1))) ∧ w1 = w) := by
  refine z_met ym_X11_furnace (by decide) ⟨Nat.le_of_ble_eq_true rfl, Nat.le_of_ble_eq_true rfl⟩ (fun X hG hn hmc hms hin h hr => ?_)
  have he := hr.2.2.2.2.2.1
  obtain ⟨hR, hnb, hna, hnp, hg6, hc2, hc8, hc12, hr1, hr17, hr26⟩ := id hX
  refine z_iload_n h dX11_furnace_0 rfl ?_
  by_cases s_1_0 : x = 0
  · skip
    refine z_tblIn h dX11_furnace_1 52 (off := 51) (by rw [s_1_0]; decide) (by rw [s_1_0]; decide) (by rw [s_1_0]; rfl) (by decide) ?_
    refine z_aload_n h dX11_furnace_52 rfl ?_
    refine y_getr h dX11_furnace_53 hR flX11_39 (by first | assumption | exact Nat.le_of_ble_eq_true rfl) (by first | rfl | assumption | exact tx_2 (by first | assumption | omega) | exact tx_18 (by first | assumption | omega) | exact tx_19 (by first | assumption | omega) | exact tx_20 (by first | assumption | omega) | exact tx_27 (by first | assumption | omega) | exact tx_28 (by first | assumption | omega) | exact tx_30 (by first | assumption | omega) | exact tx_31 (by first | assumption | omega) | exact tx_32 (by first | assumption | omega) | exact tx_33 (by first | assumption | omega)) (by rfl) ?_
    refine y_geti h dX11_furnace_56 hR flX11_205 (by first | assumption | exact Nat.le_of_ble_eq_true rfl) (by first | rfl | assumption | exact tx_2 (by first | assumption | omega) | exact tx_18 (by first | assumption | omega) | exact tx_19 (by first | assumption | omega) | exact tx_20 (by first | assumption | omega) | exact tx_27 (by first | assumption | omega) | exact tx_28 (by first | assumption | omega) | exact tx_30 (by first | assumption | omega) | exact tx_31 (by first | assumption | omega) | exact tx_32 (by first | assumption | omega) | exact tx_33 (by first | assumption | omega)) (by rfl) ?_
    exact z_iret h dX11_furnace_59 hr (⟨z_e1 (by rw [s_1_0]; rfl), rfl⟩)
  by_cases s_1_1 : x = 1
  · skip
    refine z_tblIn h dX11_furnace_1 60 (off := 59) (by rw [s_1_1]; decide) (by rw [s_1_1]; decide) (by rw [s_1_1]; rfl) (by decide) ?_
    refine z_aload_n h dX11_furnace_60 rfl ?_
    refine y_getr h dX11_furnace_61 hR flX11_39 (by first | assumption | exact Nat.le_of_ble_eq_true rfl) (by first | rfl | assumption | exact tx_2 (by first | assumption | omega) | exact tx_18 (by first | assumption | omega) | exact tx_19 (by first | assumption | omega) | exact tx_20 (by first | assumption | omega) | exact tx_27 (by first | assumption | omega) | exact tx_28 (by first | assumption | omega) | exact tx_30 (by first | assumption | omega) | exact tx_31 (by first | assumption | omega) | exact tx_32 (by first | assumption | omega) | exact tx_33 (by first | assumption | omega)) (by rfl) ?_
    refine y_geti h dX11_furnace_64 hR flX11_208 (by first | assumption | exact Nat.le_of_ble_eq_true rfl) (by first | rfl | assumption | exact tx_2 (by first | assumption | omega) | exact tx_18 (by first | assumption | omega) | exact tx_19 (by first | assumption | omega) | exact tx_20 (by first | assumption | omega) | exact tx_27 (by first | assumption | omega) | exact tx_28 (by first | assumption | omega) | exact tx_30 (by first | assumption | omega) | exact tx_31 (by first | assumption | omega) | exact tx_32 (by first | assumption | omega) | exact tx_33 (by first | assumption | omega)) (by rfl) ?_
    exact z_iret h dX11_furnace_67 hr (⟨z_e1 (by rw [s_1_1]; rfl), rfl⟩)
  by_cases s_1_2 : x = 2
  · skip
    refine z_tblIn h dX11_furnace_1 68 (off := 67) (by rw [s_1_2]; decide) (by rw [s_1_2]; decide) (by rw [s_1_2]; rfl) (by decide) ?_
    refine z_aload_n h dX11_furnace_68 rfl ?_
    refine y_getr h dX11_furnace_69 hR flX11_39 (by first | assumption | exact Nat.le_of_ble_eq_true rfl) (by first | rfl | assumption | exact tx_2 (by first | assumption | omega) | exact tx_18 (by first | assumption | omega) | exact tx_19 (by first | assumption | omega) | exact tx_20 (by first | assumption | omega) | exact tx_27 (by first | assumption | omega) | exact tx_28 (by first | assumption | omega) | exact tx_30 (by first | assumption | omega) | exact tx_31 (by first | assumption | omega) | exact tx_32 (by first | assumption | omega) | exact tx_33 (by first | assumption | omega)) (by rfl) ?_
    refine y_geti h dX11_furnace_72 hR flX11_211 (by first | assumption | exact Nat.le_of_ble_eq_true rfl) (by first | rfl | assumption | exact tx_2 (by first | assumption | omega) | exact tx_18 (by first | assumption | omega) | exact tx_19 (by first | assumption | omega) | exact tx_20 (by first | assumption | omega) | exact tx_27 (by first | assumption | omega) | exact tx_28 (by first | assumption | omega) | exact tx_30 (by first | assumption | omega) | exact tx_31 (by first | assumption | omega) | exact tx_32 (by first | assumption | omega) | exact tx_33 (by first | assumption | omega)) (by rfl) ?_
    exact z_iret h dX11_furnace_75 hr (⟨z_e1 (by rw [s_1_2]; rfl), rfl⟩)
  by_cases s_1_3 : x = 3
  · skip
    refine z_tblIn h dX11_furnace_1 76 (off := 75) (by rw [s_1_3]; decide) (by rw [s_1_3]; decide) (by rw [s_1_3]; rfl) (by decide) ?_
    refine z_aload_n h dX11_furnace_76 rfl ?_
    refine y_getr h dX11_furnace_77 hR flX11_39 (by first | assumption | exact Nat.le_of_ble_eq_true rfl) (by first | rfl | assumption | exact tx_2 (by first | assumption | omega) | exact tx_18 (by first | assumption | omega) | exact tx_19 (by first | assumption | omega) | exact tx_20 (by first | assumption | omega) | exact tx_27 (by first | assumption | omega) | exact tx_28 (by first | assumption | omega) | exact tx_30 (by first | assumption | omega) | exact tx_31 (by first | assumption | omega) | exact tx_32 (by first | assumption | omega) | exact tx_33 (by first | assumption | omega)) (by rfl) ?_
    refine y_geti h dX11_furnace_80 hR flX11_192 (by first | assumption | exact Nat.le_of_ble_eq_true rfl) (by first | rfl | assumption | exact tx_2 (by first | assumption | omega) | exact tx_18 (by first | assumption | omega) | exact tx_19 (by first | assumption | omega) | exact tx_20 (by first | assumption | omega) | exact tx_27 (by first | assumption | omega) | exact tx_28 (by first | assumption | omega) | exact tx_30 (by first | assumption | omega) | exact tx_31 (by first | assumption | omega) | exact tx_32 (by first | assumption | omega) | exact tx_33 (by first | assumption | omega)) (by rfl) ?_
    exact z_iret h dX11_furnace_83 hr (⟨z_e1 (by rw [s_1_3]; rfl), rfl⟩)
  by_cases s_1_4 : x = 4
  · skip
    refine z_tblIn h dX11_furnace_1 84 (off := 83) (by rw [s_1_4]; decide) (by rw [s_1_4]; decide) (by rw [s_1_4]; rfl) (by decide) ?_
    refine z_aload_n h dX11_furnace_84 rfl ?_
    refine y_getr h dX11_furnace_85 hR flX11_39 (by first | assumption | exact Nat.le_of_ble_eq_true rfl) (by first | rfl | assumption | exact tx_2 (by first | assumption | omega) | exact tx_18 (by first | assumption | omega) | exact tx_19 (by first | assumption | omega) | exact tx_20 (by first | assumption | omega) | exact tx_27 (by first | assumption | omega) | exact tx_28 (by first | assumption | omega) | exact tx_30 (by first | assumption | omega) | exact tx_31 (by first | assumption | omega) | exact tx_32 (by first | assumption | omega) | exact tx_33 (by first | assumption | omega)) (by rfl) ?_
    refine y_geti h dX11_furnace_88 hR flX11_195 (by first | assumption | exact Nat.le_of_ble_eq_true rfl) (by first | rfl | assumption | exact tx_2 (by first | assumption | omega) | exact tx_18 (by first | assumption | omega) | exact tx_19 (by first | assumption | omega) | exact tx_20 (by first | assumption | omega) | exact tx_27 (by first | assumption | omega) | exact tx_28 (by first | assumption | omega) | exact tx_30 (by first | assumption | omega) | exact tx_31 (by first | assumption | omega) | exact tx_32 (by first | assumption | omega) | exact tx_33 (by first | assumption | omega)) (by rfl) ?_
    exact z_iret h dX11_furnace_91 hr (⟨z_e1 (by rw [s_1_4]; rfl), rfl⟩)
  by_cases s_1_5 : x = 5
  · skip
    refine z_tblIn h dX11_furnace_1 92 (off := 91) (by rw [s_1_5]; decide) (by rw [s_1_5]; decide) (by rw [s_1_5]; rfl) (by decide) ?_
    refine z_aload_n h dX11_furnace_92 rfl ?_
    refine y_getr h dX11_furnace_93 hR flX11_39 (by first | assumption | exact Nat.le_of_ble_eq_true rfl) (by first | rfl | assumption | exact tx_2 (by first | assumption | omega) | exact tx_18 (by first | assumption | omega) | exact tx_19 (by first | assumption | omega) | exact tx_20 (by first | assumption | omega) | exact tx_27 (by first | assumption | omega) | exact tx_28 (by first | assumption | omega) | exact tx_30 (by first | assumption | omega) | exact tx_31 (by first | assumption | omega) | exact tx_32 (by first | assumption | omega) | exact tx_33 (by first | assumption | omega)) (by rfl) ?_
    refine y_getr h dX11_furnace_96 hR flX11_214 (by first | assumption | exact Nat.le_of_ble_eq_true rfl) (by first | rfl | assumption | exact tx_2 (by first | assumption | omega) | exact tx_18 (by first | assumption | omega) | exact tx_19 (by first | assumption | omega) | exact tx_20 (by first | assumption | omega) | exact tx_27 (by first | assumption | omega) | exact tx_28 (by first | assumption | omega) | exact tx_30 (by first | assumption | omega) | exact tx_31 (by first | assumption | omega) | exact tx_32 (by first | assumption | omega) | exact tx_33 (by first | assumption | omega)) (by rfl) ?_
    refine z_callS h dX11_furnace_99 (fun _ _ q => z_okv_no he q) (fun _ _ _ t q => absurd q (he t)) (m_X11_sumOf _ _ (15, 0) 12 (c (15, 0)) (hR.ia (Nat.le_of_ble_eq_true rfl) rfl) (by decide)) ym_X11_sumOf mlX11_177 sm_X11_sumOf rfl (by decide) (Nat.le_of_ble_eq_true rfl) ?_
    rintro q1 w1 ⟨rfl, hw1⟩
    have hw1 := hw1.symm; subst hw1
    exact z_iret h dX11_furnace_102 hr (⟨z_e1 (by rw [s_1_5]; rfl), rfl⟩)
  by_cases s_1_6 : x = 6
  · skip
    refine z_tblIn h dX11_furnace_1 103 (off := 102) (by rw [s_1_6]; decide) (by rw [s_1_6]; decide) (by rw [s_1_6]; rfl) (by decide) ?_
    refine z_aload_n h dX11_furnace_103 rfl ?_
    refine y_getr h dX11_furnace_104 hR flX11_39 (by first | assumption | exact Nat.le_of_ble_eq_true rfl) (by first | rfl | assumption | exact tx_2 (by first | assumption | omega) | exact tx_18 (by first | assumption | omega) | exact tx_19 (by first | assumption | omega) | exact tx_20 (by first | assumption | omega) | exact tx_27 (by first | assumption | omega) | exact tx_28 (by first | assumption | omega) | exact tx_30 (by first | assumption | omega) | exact tx_31 (by first | assumption | omega) | exact tx_32 (by first | assumption | omega) | exact tx_33 (by first | assumption | omega)) (by rfl) ?_
    refine y_geti h dX11_furnace_107 hR flX11_198 (by first | assumption | exact Nat.le_of_ble_eq_true rfl) (by first | rfl | assumption | exact tx_2 (by first | assumption | omega) | exact tx_18 (by first | assumption | omega) | exact tx_19 (by first | assumption | omega) | exact tx_20 (by first | assumption | omega) | exact tx_27 (by first | assumption | omega) | exact tx_28 (by first | assumption | omega) | exact tx_30 (by first | assumption | omega) | exact tx_31 (by first | assumption | omega) | exact tx_32 (by first | assumption | omega) | exact tx_33 (by first | assumption | omega)) (by rfl) ?_
    exact z_iret h dX11_furnace_110 hr (⟨z_e1 (by rw [s_1_6]; rfl), rfl⟩)
  by_cases s_1_7 : x = 7
  · skip
    refine z_tblIn h dX11_furnace_1 111 (off := 110) (by rw [s_1_7]; decide) (by rw [s_1_7]; decide) (by rw [s_1_7]; rfl) (by decide) ?_
    refine z_aload_n h dX11_furnace_111 rfl ?_
    refine y_getr h dX11_furnace_112 hR flX11_39 (by first | assumption | exact Nat.le_of_ble_eq_true rfl) (by first | rfl | assumption | exact tx_2 (by first | assumption | omega) | exact tx_18 (by first | assumption | omega) | exact tx_19 (by first | assumption | omega) | exact tx_20 (by first | assumption | omega) | exact tx_27 (by first | assumption | omega) | exact tx_28 (by first | assumption | omega) | exact tx_30 (by first | assumption | omega) | exact tx_31 (by first | assumption | omega) | exact tx_32 (by first | assumption | omega) | exact tx_33 (by first | assumption | omega)) (by rfl) ?_
    refine y_geti h dX11_furnace_115 hR flX11_217 (by first | assumption | exact Nat.le_of_ble_eq_true rfl) (by first | rfl | assumption | exact tx_2 (by first | assumption | omega) | exact tx_18 (by first | assumption | omega) | exact tx_19 (by first | assumption | omega) | exact tx_20 (by first | assumption | omega) | exact tx_27 (by first | assumption | omega) | exact tx_28 (by first | assumption | omega) | exact tx_30 (by first | assumption | omega) | exact tx_31 (by first | assumption | omega) | exact tx_32 (by first | assumption | omega) | exact tx_33 (by first | assumption | omega)) (by rfl) ?_
    exact z_iret h dX11_furnace_118 hr (⟨z_e1 (by rw [s_1_7]; rfl), rfl⟩)
  by_cases s_1_8 : x = 8
  · skip
    refine z_tblIn h dX11_furnace_1 119 (off := 118) (by rw [s_1_8]; decide) (by rw [s_1_8]; decide) (by rw [s_1_8]; rfl) (by decide) ?_
    refine z_aload_n h dX11_furnace_119 rfl ?_
    refine y_getr h dX11_furnace_120 hR flX11_39 (by first | assumption | exact Nat.le_of_ble_eq_true rfl) (by first | rfl | assumption | exact tx_2 (by first | assumption | omega) | exact tx_18 (by first | assumption | omega) | exact tx_19 (by first | assumption | omega) | exact tx_20 (by first | assumption | omega) | exact tx_27 (by first | assumption | omega) | exact tx_28 (by first | assumption | omega) | exact tx_30 (by first | assumption | omega) | exact tx_31 (by first | assumption | omega) | exact tx_32 (by first | assumption | omega) | exact tx_33 (by first | assumption | omega)) (by rfl) ?_
    refine y_geti h dX11_furnace_123 hR flX11_220 (by first | assumption | exact Nat.le_of_ble_eq_true rfl) (by first | rfl | assumption | exact tx_2 (by first | assumption | omega) | exact tx_18 (by first | assumption | omega) | exact tx_19 (by first | assumption | omega) | exact tx_20 (by first | assumption | omega) | exact tx_27 (by first | assumption | omega) | exact tx_28 (by first | assumption | omega) | exact tx_30 (by first | assumption | omega) | exact tx_31 (by first | assumption | omega) | exact tx_32 (by first | assumption | omega) | exact tx_33 (by first | assumption | omega)) (by rfl) ?_
    exact z_iret h dX11_furnace_126 hr (⟨z_e1 (by rw [s_1_8]; rfl), rfl⟩)
  refine z_tblOut h dX11_furnace_1 127 (by have a0 := lv_neT s_1_0 (a := 0) (by decide); have a1 := lv_neT s_1_1 (a := 1) (by decide); have a2 := lv_neT s_1_2 (a := 2) (by decide); have a3 := lv_neT s_1_3 (a := 3) (by decide); have a4 := lv_neT s_1_4 (a := 4) (by decide); have a5 := lv_neT s_1_5 (a := 5) (by decide); have a6 := lv_neT s_1_6 (a := 6) (by decide); have a7 := lv_neT s_1_7 (a := 7) (by decide); have a8 := lv_neT s_1_8 (a := 8) (by decide); omega) (by decide) ?_
  refine z_iconst (v := -1) h dX11_furnace_127 (by decide) ?_
  exact z_iret h dX11_furnace_128 hr (⟨z_e1 (by simp only [n_sel, s_1_0, s_1_1, s_1_2, s_1_3, s_1_4, s_1_5, s_1_6, s_1_7, s_1_8, if_false]), rfl⟩)
set_option maxHeartbeats 4000000 in
set_option maxRecDepth 100000 in
theorem m_X11_bar (G : z_G) {nb na np g : Nat} {w0 w : z_w} {c : r_c} {l : r_l} {r : r_r} (hX : XR nb na np g w0 c l r w) (b x : Int32) : z_M G yX11_bar cX11_bar 4 (some .int) 3 (0) (0) [vr (0, 0), vi b, vi x] w (fun q w1 => q = some (vi (if ix_ok b na then n_sel x [(0, c (18, b.toNatClampNeg) 4), (1, c (18, b.toNatClampNeg) 5), (2, (if 0 < c (18, b.toNatClampNeg) 2 - c (18, b.toNatClampNeg) 6 / 2 then c (18, b.toNatClampNeg) 2 - c (18, b.toNatClampNeg) 6 / 2 else 0)), (3, c (18, b.toNatClampNeg) 6), (4, c (18, b.toNatClampNeg) 3), (5, z_sum (c (19, b.toNatClampNeg)) 12), (6, z_sum (c (20, b.toNatClampNeg)) 8)] (-1) else -1)) ∧ w1 = w) := by
  refine z_met ym_X11_bar (by decide) ⟨Nat.le_of_ble_eq_true rfl, Nat.le_of_ble_eq_true rfl⟩ (fun X hG hn hmc hms hin h hr => ?_)
  have he := hr.2.2.2.2.2.1
  obtain ⟨hR, hnb, hna, hnp, hg6, hc2, hc8, hc12, hr1, hr17, hr26⟩ := id hX
  refine z_aload_n h dX11_bar_0 rfl ?_
  refine z_iload_n h dX11_bar_1 rfl ?_
  refine z_callV h dX11_bar_2 (fun _ _ q => z_okv_no he q) (fun _ _ _ t q => absurd q (he t)) (m_X11_barAt _ hR b hc8 hna hr17) ym_X11_barAt mlX11_258 im_X11_barAt (ci := 11) rfl se_X11_barAt icX11 rfl (r_p.ob hR (by first | assumption | exact Nat.le_of_ble_eq_true rfl) (by first | rfl | assumption | exact tx_2 (by first | assumption | omega) | exact tx_18 (by first | assumption | omega) | exact tx_19 (by first | assumption | omega) | exact tx_20 (by first | assumption | omega) | exact tx_27 (by first | assumption | omega) | exact tx_28 (by first | assumption | omega) | exact tx_30 (by first | assumption | omega) | exact tx_31 (by first | assumption | omega) | exact tx_32 (by first | assumption | omega) | exact tx_33 (by first | assumption | omega))) rfl (by decide) (Nat.le_of_ble_eq_true rfl) ?_
  rintro r w1 ⟨hw1, hq⟩
  have hw1 := hw1.symm; subst hw1
  by_cases hix : ix_ok b na
  · skip
    rw [if_pos hix] at hq; subst hq
    refine z_astore_n h dX11_bar_5 (by rw [hn]; decide) ?_
    refine z_aload_n h dX11_bar_6 rfl ?_
    refine z_ifnonnull h dX11_bar_7 12 (by decide) ?_
    refine z_iload_n h dX11_bar_12 rfl ?_
    by_cases s_1_0 : x = 0
    · skip
      refine z_tblIn h dX11_bar_13 56 (off := 43) (by rw [s_1_0]; decide) (by rw [s_1_0]; decide) (by rw [s_1_0]; rfl) (by decide) ?_
      refine z_aload_n h dX11_bar_56 rfl ?_
      refine y_geti h dX11_bar_57 hR flX11_271 (by first | assumption | exact Nat.le_of_ble_eq_true rfl) (tx_18 (ix_lt hix (by omega))) (by rfl) ?_
      exact z_iret h dX11_bar_60 hr (⟨z_e1 (by rw [if_pos hix, s_1_0]; rfl), rfl⟩)
    by_cases s_1_1 : x = 1
    · skip
      refine z_tblIn h dX11_bar_13 61 (off := 48) (by rw [s_1_1]; decide) (by rw [s_1_1]; decide) (by rw [s_1_1]; rfl) (by decide) ?_
      refine z_aload_n h dX11_bar_61 rfl ?_
      refine y_geti h dX11_bar_62 hR flX11_274 (by first | assumption | exact Nat.le_of_ble_eq_true rfl) (tx_18 (ix_lt hix (by omega))) (by rfl) ?_
      exact z_iret h dX11_bar_65 hr (⟨z_e1 (by rw [if_pos hix, s_1_1]; rfl), rfl⟩)
    by_cases s_1_2 : x = 2
    · skip
      refine z_tblIn h dX11_bar_13 66 (off := 53) (by rw [s_1_2]; decide) (by rw [s_1_2]; decide) (by rw [s_1_2]; rfl) (by decide) ?_
      refine z_aload_n h dX11_bar_66 rfl ?_
      refine z_callV h dX11_bar_67 (fun _ _ q => z_okv_no he q) (fun _ _ _ t q => absurd q (he t)) (y_X0_sortNow _ hR b.toNatClampNeg (ix_lt hix (by omega))) ym_X0_sortNow mlX11_268 im_X0_sortNow (ci := 0) rfl se_X0_sortNow icX0 rfl (r_p.ob hR (Nat.le_of_ble_eq_true rfl) (tx_18 (ix_lt hix (by omega)))) rfl (by decide) (Nat.le_of_ble_eq_true rfl) ?_
      rintro q1 w1 ⟨rfl, hw1⟩
      have hw1 := hw1.symm; subst hw1
      exact z_iret h dX11_bar_70 hr (⟨z_e1 (by rw [if_pos hix, s_1_2]; rfl), rfl⟩)
    by_cases s_1_3 : x = 3
    · skip
      refine z_tblIn h dX11_bar_13 71 (off := 58) (by rw [s_1_3]; decide) (by rw [s_1_3]; decide) (by rw [s_1_3]; rfl) (by decide) ?_
      refine z_aload_n h dX11_bar_71 rfl ?_
      refine y_geti h dX11_bar_72 hR flX11_262 (by first | assumption | exact Nat.le_of_ble_eq_true rfl) (tx_18 (ix_lt hix (by omega))) (by rfl) ?_
      exact z_iret h dX11_bar_75 hr (⟨z_e1 (by rw [if_pos hix, s_1_3]; rfl), rfl⟩)
    by_cases s_1_4 : x = 4
    · skip
      refine z_tblIn h dX11_bar_13 76 (off := 63) (by rw [s_1_4]; decide) (by rw [s_1_4]; decide) (by rw [s_1_4]; rfl) (by decide) ?_
      refine z_aload_n h dX11_bar_76 rfl ?_
      refine y_geti h dX11_bar_77 hR flX11_277 (by first | assumption | exact Nat.le_of_ble_eq_true rfl) (tx_18 (ix_lt hix (by omega))) (by rfl) ?_
      exact z_iret h dX11_bar_80 hr (⟨z_e1 (by rw [if_pos hix, s_1_4]; rfl), rfl⟩)
    by_cases s_1_5 : x = 5
    · skip
      refine z_tblIn h dX11_bar_13 81 (off := 68) (by rw [s_1_5]; decide) (by rw [s_1_5]; decide) (by rw [s_1_5]; rfl) (by decide) ?_
      refine z_aload_n h dX11_bar_81 rfl ?_
      refine y_getr h dX11_bar_82 hR flX11_239 (by first | assumption | exact Nat.le_of_ble_eq_true rfl) (tx_18 (ix_lt hix (by omega))) (by rfl) ?_
      refine z_callS h dX11_bar_85 (fun _ _ q => z_okv_no he q) (fun _ _ _ t q => absurd q (he t)) (m_X11_sumOf _ _ (19, b.toNatClampNeg) 12 (c (19, b.toNatClampNeg)) (hR.ia (Nat.le_of_ble_eq_true rfl) (tx_19 (ix_lt hix (by omega)))) (by decide)) ym_X11_sumOf mlX11_177 sm_X11_sumOf rfl (by decide) (Nat.le_of_ble_eq_true rfl) ?_
      rintro q1 w1 ⟨rfl, hw1⟩
      have hw1 := hw1.symm; subst hw1
      exact z_iret h dX11_bar_88 hr (⟨z_e1 (by rw [if_pos hix, s_1_5]; rfl), rfl⟩)
    by_cases s_1_6 : x = 6
    · skip
      refine z_tblIn h dX11_bar_13 89 (off := 76) (by rw [s_1_6]; decide) (by rw [s_1_6]; decide) (by rw [s_1_6]; rfl) (by decide) ?_
      refine z_aload_n h dX11_bar_89 rfl ?_
      refine y_getr h dX11_bar_90 hR flX11_249 (by first | assumption | exact Nat.le_of_ble_eq_true rfl) (tx_18 (ix_lt hix (by omega))) (by rfl) ?_
      refine z_callS h dX11_bar_93 (fun _ _ q => z_okv_no he q) (fun _ _ _ t q => absurd q (he t)) (m_X11_sumOf _ _ (20, b.toNatClampNeg) 8 (c (20, b.toNatClampNeg)) (hR.ia (Nat.le_of_ble_eq_true rfl) (tx_20 (ix_lt hix (by omega)))) (by decide)) ym_X11_sumOf mlX11_177 sm_X11_sumOf rfl (by decide) (Nat.le_of_ble_eq_true rfl) ?_
      rintro q1 w1 ⟨rfl, hw1⟩
      have hw1 := hw1.symm; subst hw1
      exact z_iret h dX11_bar_96 hr (⟨z_e1 (by rw [if_pos hix, s_1_6]; rfl), rfl⟩)
    refine z_tblOut h dX11_bar_13 97 (by have a0 := lv_neT s_1_0 (a := 0) (by decide); have a1 := lv_neT s_1_1 (a := 1) (by decide); have a2 := lv_neT s_1_2 (a := 2) (by decide); have a3 := lv_neT s_1_3 (a := 3) (by decide); have a4 := lv_neT s_1_4 (a := 4) (by decide); have a5 := lv_neT s_1_5 (a := 5) (by decide); have a6 := lv_neT s_1_6 (a := 6) (by decide); omega) (by decide) ?_
    refine z_iconst (v := -1) h dX11_bar_97 (by decide) ?_
    exact z_iret h dX11_bar_98 hr (⟨z_e1 (by rw [if_pos hix]; simp only [n_sel, s_1_0, s_1_1, s_1_2, s_1_3, s_1_4, s_1_5, s_1_6, if_false]), rfl⟩)
  · skip
    rw [if_neg hix] at hq; subst hq
    refine z_astore_nN h dX11_bar_5 (by rw [hn]; decide) ?_
    refine z_aload_nN h dX11_bar_6 rfl ?_
    refine z_ifnonnullN h dX11_bar_7 ?_
    refine z_iconst (v := -1) h dX11_bar_10 (by decide) ?_
    exact z_iret h dX11_bar_11 hr (⟨z_e1 (if_neg hix).symm, rfl⟩)
set_option maxHeartbeats 4000000 in
set_option maxRecDepth 100000 in
theorem m_X11_part (G : z_G) {nb na np g : Nat} {w0 w : z_w} {c : r_c} {l : r_l} {r : r_r} (hX : XR nb na np g w0 c l r w) (b x : Int32) : z_M G yX11_part cX11_part 4 (some .int) 2 (0) (0) [vr (0, 0), vi b, vi x] w (fun q w1 => q = some (vi (if ix_ok b na then (if ¬ x < 0 ∧ ¬ nI 12 ≤ x then c (19, b.toNatClampNeg) x.toNatClampNeg else 0) else 0)) ∧ w1 = w) := by
  refine z_met ym_X11_part (by decide) ⟨Nat.le_of_ble_eq_true rfl, Nat.le_of_ble_eq_true rfl⟩ (fun X hG hn hmc hms hin h hr => ?_)
  have he := hr.2.2.2.2.2.1
  obtain ⟨hR, hnb, hna, hnp, hg6, hc2, hc8, hc12, hr1, hr17, hr26⟩ := id hX
  refine z_aload_n h dX11_part_0 rfl ?_
  refine z_iload_n h dX11_part_1 rfl ?_
  refine z_callV h dX11_part_2 (fun _ _ q => z_okv_no he q) (fun _ _ _ t q => absurd q (he t)) (m_X11_barAt _ hR b hc8 hna hr17) ym_X11_barAt mlX11_258 im_X11_barAt (ci := 11) rfl se_X11_barAt icX11 rfl (r_p.ob hR (by first | assumption | exact Nat.le_of_ble_eq_true rfl) (by first | rfl | assumption | exact tx_2 (by first | assumption | omega) | exact tx_18 (by first | assumption | omega) | exact tx_19 (by first | assumption | omega) | exact tx_20 (by first | assumption | omega) | exact tx_27 (by first | assumption | omega) | exact tx_28 (by first | assumption | omega) | exact tx_30 (by first | assumption | omega) | exact tx_31 (by first | assumption | omega) | exact tx_32 (by first | assumption | omega) | exact tx_33 (by first | assumption | omega))) rfl (by decide) (Nat.le_of_ble_eq_true rfl) ?_
  rintro r w1 ⟨hw1, hq⟩
  have hw1 := hw1.symm; subst hw1
  by_cases hix : ix_ok b na
  · skip
    rw [if_pos hix] at hq; subst hq
    refine z_astore_n h dX11_part_5 (by rw [hn]; decide) ?_
    refine z_aload_n h dX11_part_6 rfl ?_
    refine z_ifnonnull h dX11_part_7 14 (by decide) ?_
    refine z_aload_n h dX11_part_14 rfl ?_
    refine y_getr h dX11_part_15 hR flX11_239 (by first | assumption | exact Nat.le_of_ble_eq_true rfl) (tx_18 (ix_lt hix (by omega))) (by rfl) ?_
    refine z_iload_n h dX11_part_18 rfl ?_
    refine z_callS h dX11_part_19 (fun _ _ q => z_okv_no he q) (fun _ _ _ t q => absurd q (he t)) (m_X11_itemOf _ _ (19, b.toNatClampNeg) 12 (c (19, b.toNatClampNeg)) x (hR.ia (Nat.le_of_ble_eq_true rfl) (tx_19 (ix_lt hix (by omega)))) (by decide)) ym_X11_itemOf mlX11_148 sm_X11_itemOf rfl (by decide) (Nat.le_of_ble_eq_true rfl) ?_
    rintro q1 w1 ⟨rfl, hw1⟩
    have hw1 := hw1.symm; subst hw1
    exact z_iret h dX11_part_22 hr (⟨z_e1 (if_pos hix).symm, rfl⟩)
  · skip
    rw [if_neg hix] at hq; subst hq
    refine z_astore_nN h dX11_part_5 (by rw [hn]; decide) ?_
    refine z_aload_nN h dX11_part_6 rfl ?_
    refine z_ifnonnullN h dX11_part_7 ?_
    refine z_iconst (v := 0) h dX11_part_10 (by decide) ?_
    refine z_goto h dX11_part_11 22 (by decide) ?_
    exact z_iret h dX11_part_22 hr (⟨z_e1 (if_neg hix).symm, rfl⟩)
set_option maxHeartbeats 4000000 in
set_option maxRecDepth 100000 in
theorem m_X11_burnt (G : z_G) {nb na np g : Nat} {w0 w : z_w} {c : r_c} {l : r_l} {r : r_r} (hX : XR nb na np g w0 c l r w) (b x : Int32) : z_M G yX11_burnt cX11_burnt 4 (some .int) 2 (0) (0) [vr (0, 0), vi b, vi x] w (fun q w1 => q = some (vi (if ix_ok b na then (if ¬ x < 0 ∧ ¬ nI 8 ≤ x then c (20, b.toNatClampNeg) x.toNatClampNeg else 0) else 0)) ∧ w1 = w) := by
  refine z_met ym_X11_burnt (by decide) ⟨Nat.le_of_ble_eq_true rfl, Nat.le_of_ble_eq_true rfl⟩ (fun X hG hn hmc hms hin h hr => ?_)
  have he := hr.2.2.2.2.2.1
  obtain ⟨hR, hnb, hna, hnp, hg6, hc2, hc8, hc12, hr1, hr17, hr26⟩ := id hX
  refine z_aload_n h dX11_burnt_0 rfl ?_
  refine z_iload_n h dX11_burnt_1 rfl ?_
  refine z_callV h dX11_burnt_2 (fun _ _ q => z_okv_no he q) (fun _ _ _ t q => absurd q (he t)) (m_X11_barAt _ hR b hc8 hna hr17) ym_X11_barAt mlX11_258 im_X11_barAt (ci := 11) rfl se_X11_barAt icX11 rfl (r_p.ob hR (by first | assumption | exact Nat.le_of_ble_eq_true rfl) (by first | rfl | assumption | exact tx_2 (by first | assumption | omega) | exact tx_18 (by first | assumption | omega) | exact tx_19 (by first | assumption | omega) | exact tx_20 (by first | assumption | omega) | exact tx_27 (by first | assumption | omega) | exact tx_28 (by first | assumption | omega) | exact tx_30 (by first | assumption | omega) | exact tx_31 (by first | assumption | omega) | exact tx_32 (by first | assumption | omega) | exact tx_33 (by first | assumption | omega))) rfl (by decide) (Nat.le_of_ble_eq_true rfl) ?_
  rintro r w1 ⟨hw1, hq⟩
  have hw1 := hw1.symm; subst hw1
  by_cases hix : ix_ok b na
  · skip
    rw [if_pos hix] at hq; subst hq
    refine z_astore_n h dX11_burnt_5 (by rw [hn]; decide) ?_
    refine z_aload_n h dX11_burnt_6 rfl ?_
    refine z_ifnonnull h dX11_burnt_7 14 (by decide) ?_
    refine z_aload_n h dX11_burnt_14 rfl ?_
    refine y_getr h dX11_burnt_15 hR flX11_249 (by first | assumption | exact Nat.le_of_ble_eq_true rfl) (tx_18 (ix_lt hix (by omega))) (by rfl) ?_
    refine z_iload_n h dX11_burnt_18 rfl ?_
    refine z_callS h dX11_burnt_19 (fun _ _ q => z_okv_no he q) (fun _ _ _ t q => absurd q (he t)) (m_X11_itemOf _ _ (20, b.toNatClampNeg) 8 (c (20, b.toNatClampNeg)) x (hR.ia (Nat.le_of_ble_eq_true rfl) (tx_20 (ix_lt hix (by omega)))) (by decide)) ym_X11_itemOf mlX11_148 sm_X11_itemOf rfl (by decide) (Nat.le_of_ble_eq_true rfl) ?_
    rintro q1 w1 ⟨rfl, hw1⟩
    have hw1 := hw1.symm; subst hw1
    exact z_iret h dX11_burnt_22 hr (⟨z_e1 (if_pos hix).symm, rfl⟩)
  · skip
    rw [if_neg hix] at hq; subst hq
    refine z_astore_nN h dX11_burnt_5 (by rw [hn]; decide) ?_
    refine z_aload_nN h dX11_burnt_6 rfl ?_
    refine z_ifnonnullN h dX11_burnt_7 ?_
    refine z_iconst (v := 0) h dX11_burnt_10 (by decide) ?_
    refine z_goto h dX11_burnt_11 22 (by decide) ?_
    exact z_iret h dX11_burnt_22 hr (⟨z_e1 (if_neg hix).symm, rfl⟩)
set_option maxHeartbeats 4000000 in
set_option maxRecDepth 100000 in
theorem m_X11_coins (G : z_G) {nb na np g : Nat} {w0 w : z_w} {c : r_c} {l : r_l} {r : r_r} (hX : XR nb na np g w0 c l r w) (x : Int32) : z_M G yX11_coins cX11_coins 2 (some .int) 2 (0) (0) [vr (0, 0), vi x] w (fun q w1 => q = some (vi (if ¬ x < 0 ∧ ¬ nI 8 ≤ x then c (34, 0) x.toNatClampNeg else 0)) ∧ w1 = w) := by
  refine z_met ym_X11_coins (by decide) ⟨Nat.le_of_ble_eq_true rfl, Nat.le_of_ble_eq_true rfl⟩ (fun X hG hn hmc hms hin h hr => ?_)
  have he := hr.2.2.2.2.2.1
  obtain ⟨hR, hnb, hna, hnp, hg6, hc2, hc8, hc12, hr1, hr17, hr26⟩ := id hX
  refine z_aload_n h dX11_coins_0 rfl ?_
  refine y_getr h dX11_coins_1 hR flX11_65 (by first | assumption | exact Nat.le_of_ble_eq_true rfl) (by first | rfl | assumption | exact tx_2 (by first | assumption | omega) | exact tx_18 (by first | assumption | omega) | exact tx_19 (by first | assumption | omega) | exact tx_20 (by first | assumption | omega) | exact tx_27 (by first | assumption | omega) | exact tx_28 (by first | assumption | omega) | exact tx_30 (by first | assumption | omega) | exact tx_31 (by first | assumption | omega) | exact tx_32 (by first | assumption | omega) | exact tx_33 (by first | assumption | omega)) (by rfl) ?_
  refine y_getr h dX11_coins_4 hR flX11_310 (by first | assumption | exact Nat.le_of_ble_eq_true rfl) (by first | rfl | assumption | exact tx_2 (by first | assumption | omega) | exact tx_18 (by first | assumption | omega) | exact tx_19 (by first | assumption | omega) | exact tx_20 (by first | assumption | omega) | exact tx_27 (by first | assumption | omega) | exact tx_28 (by first | assumption | omega) | exact tx_30 (by first | assumption | omega) | exact tx_31 (by first | assumption | omega) | exact tx_32 (by first | assumption | omega) | exact tx_33 (by first | assumption | omega)) (by rfl) ?_
  refine z_iload_n h dX11_coins_7 rfl ?_
  refine z_callS h dX11_coins_8 (fun _ _ q => z_okv_no he q) (fun _ _ _ t q => absurd q (he t)) (m_X11_itemOf _ _ (34, 0) 8 (c (34, 0)) x (hR.ia (Nat.le_of_ble_eq_true rfl) rfl) (by decide)) ym_X11_itemOf mlX11_148 sm_X11_itemOf rfl (by decide) (Nat.le_of_ble_eq_true rfl) ?_
  rintro q1 w1 ⟨rfl, hw1⟩
  have hw1 := hw1.symm; subst hw1
  exact z_iret h dX11_coins_11 hr (⟨rfl, rfl⟩)
set_option maxHeartbeats 4000000 in
set_option maxRecDepth 100000 in
theorem m_X11_line (G : z_G) {nb na np g : Nat} {w0 w : z_w} {c : r_c} {l : r_l} {r : r_r} (hX : XR nb na np g w0 c l r w) (i x : Int32) (nl : Nat) (hl : c (29, 0) 5 = nI nl) (hcap : nl ≤ 64 * 2 ^ g) : z_M G yX11_line cX11_line 3 (some .int) 2 (0) (0) [vr (0, 0), vi i, vi x] w (fun q w1 => q = some (vi (if ix_ok i nl then n_sel x [(0, c (30, g) i.toNatClampNeg), (1, c (31, g) i.toNatClampNeg), (2, c (32, g) i.toNatClampNeg), (3, c (33, g) i.toNatClampNeg)] 0 else 0)) ∧ w1 = w) := by
  refine z_met ym_X11_line (by decide) ⟨Nat.le_of_ble_eq_true rfl, Nat.le_of_ble_eq_true rfl⟩ (fun X hG hn hmc hms hin h hr => ?_)
  have he := hr.2.2.2.2.2.1
  obtain ⟨hR, hnb, hna, hnp, hg6, hc2, hc8, hc12, hr1, hr17, hr26⟩ := id hX
  have hgb : 2 ^ g ≤ 2 ^ 6 := Nat.pow_le_pow_right (by omega) hg6
  refine z_iload_n h dX11_line_0 rfl ?_
  refine z_iconst (v := 0) h dX11_line_1 (by decide) ?_
  refine z_aload_n h dX11_line_2 rfl ?_
  refine y_getr h dX11_line_3 hR flX11_65 (by first | assumption | exact Nat.le_of_ble_eq_true rfl) (by first | rfl | assumption | exact tx_2 (by first | assumption | omega) | exact tx_18 (by first | assumption | omega) | exact tx_19 (by first | assumption | omega) | exact tx_20 (by first | assumption | omega) | exact tx_27 (by first | assumption | omega) | exact tx_28 (by first | assumption | omega) | exact tx_30 (by first | assumption | omega) | exact tx_31 (by first | assumption | omega) | exact tx_32 (by first | assumption | omega) | exact tx_33 (by first | assumption | omega)) (by rfl) ?_
  refine y_geti h dX11_line_6 hR flX11_295 (by first | assumption | exact Nat.le_of_ble_eq_true rfl) (by first | rfl | assumption | exact tx_2 (by first | assumption | omega) | exact tx_18 (by first | assumption | omega) | exact tx_19 (by first | assumption | omega) | exact tx_20 (by first | assumption | omega) | exact tx_27 (by first | assumption | omega) | exact tx_28 (by first | assumption | omega) | exact tx_30 (by first | assumption | omega) | exact tx_31 (by first | assumption | omega) | exact tx_32 (by first | assumption | omega) | exact tx_33 (by first | assumption | omega)) (by rfl) ?_
  refine z_iconst (v := 1) h dX11_line_9 (by decide) ?_
  refine z_isub h dX11_line_10 ?_
  refine z_callS h dX11_line_11 (fun _ _ q => z_okv_no he q) (fun _ _ _ t q => absurd q (he t)) (m_X11_within _ _ _ _ _) ym_X11_within mlX11_92 sm_X11_within rfl (by decide) (Nat.le_of_ble_eq_true rfl) ?_
  rintro q1 w1 ⟨rfl, hw1⟩
  have hw1 := hw1.symm; subst hw1
  refine z_if_ne h dX11_line_14 19 (by decide) (fun c_1 => ?_) (fun c_1 => ?_)
  · skip
    have hix : ix_ok i nl := (ix_in (by omega)).mp (by have := z_bt c_1; rw [hl] at this; exact this)
    refine z_iload_n h dX11_line_19 rfl ?_
    by_cases s_1_0 : x = 0
    · skip
      refine z_tblIn h dX11_line_20 52 (off := 32) (by rw [s_1_0]; decide) (by rw [s_1_0]; decide) (by rw [s_1_0]; rfl) (by decide) ?_
      refine z_aload_n h dX11_line_52 rfl ?_
      refine y_getr h dX11_line_53 hR flX11_65 (by first | assumption | exact Nat.le_of_ble_eq_true rfl) (by first | rfl | assumption | exact tx_2 (by first | assumption | omega) | exact tx_18 (by first | assumption | omega) | exact tx_19 (by first | assumption | omega) | exact tx_20 (by first | assumption | omega) | exact tx_27 (by first | assumption | omega) | exact tx_28 (by first | assumption | omega) | exact tx_30 (by first | assumption | omega) | exact tx_31 (by first | assumption | omega) | exact tx_32 (by first | assumption | omega) | exact tx_33 (by first | assumption | omega)) (by rfl) ?_
      refine y_getr h dX11_line_56 hR flX11_298 (by first | assumption | exact Nat.le_of_ble_eq_true rfl) (by first | rfl | assumption | exact tx_2 (by first | assumption | omega) | exact tx_18 (by first | assumption | omega) | exact tx_19 (by first | assumption | omega) | exact tx_20 (by first | assumption | omega) | exact tx_27 (by first | assumption | omega) | exact tx_28 (by first | assumption | omega) | exact tx_30 (by first | assumption | omega) | exact tx_31 (by first | assumption | omega) | exact tx_32 (by first | assumption | omega) | exact tx_33 (by first | assumption | omega)) (by rfl) ?_
      refine z_iload_n h dX11_line_59 rfl ?_
      refine z_callS h dX11_line_60 (fun _ _ q => z_okv_no he q) (fun _ _ _ t q => absurd q (he t)) (m_X11_itemOf _ _ (30, g) (64 * 2 ^ g) (c (30, g)) i (hR.ia (Nat.le_of_ble_eq_true rfl) (tx_30 (Nat.le_refl g))) (by omega)) ym_X11_itemOf mlX11_148 sm_X11_itemOf rfl (by decide) (Nat.le_of_ble_eq_true rfl) ?_
      rintro q1 w1 ⟨rfl, hw1⟩
      have hw1 := hw1.symm; subst hw1
      exact z_iret h dX11_line_63 hr (⟨z_e1 (by rw [if_pos hix, s_1_0, n_item hix hcap (by omega)]; rfl), rfl⟩)
    by_cases s_1_1 : x = 1
    · skip
      refine z_tblIn h dX11_line_20 64 (off := 44) (by rw [s_1_1]; decide) (by rw [s_1_1]; decide) (by rw [s_1_1]; rfl) (by decide) ?_
      refine z_aload_n h dX11_line_64 rfl ?_
      refine y_getr h dX11_line_65 hR flX11_65 (by first | assumption | exact Nat.le_of_ble_eq_true rfl) (by first | rfl | assumption | exact tx_2 (by first | assumption | omega) | exact tx_18 (by first | assumption | omega) | exact tx_19 (by first | assumption | omega) | exact tx_20 (by first | assumption | omega) | exact tx_27 (by first | assumption | omega) | exact tx_28 (by first | assumption | omega) | exact tx_30 (by first | assumption | omega) | exact tx_31 (by first | assumption | omega) | exact tx_32 (by first | assumption | omega) | exact tx_33 (by first | assumption | omega)) (by rfl) ?_
      refine y_getr h dX11_line_68 hR flX11_301 (by first | assumption | exact Nat.le_of_ble_eq_true rfl) (by first | rfl | assumption | exact tx_2 (by first | assumption | omega) | exact tx_18 (by first | assumption | omega) | exact tx_19 (by first | assumption | omega) | exact tx_20 (by first | assumption | omega) | exact tx_27 (by first | assumption | omega) | exact tx_28 (by first | assumption | omega) | exact tx_30 (by first | assumption | omega) | exact tx_31 (by first | assumption | omega) | exact tx_32 (by first | assumption | omega) | exact tx_33 (by first | assumption | omega)) (by rfl) ?_
      refine z_iload_n h dX11_line_71 rfl ?_
      refine z_callS h dX11_line_72 (fun _ _ q => z_okv_no he q) (fun _ _ _ t q => absurd q (he t)) (m_X11_itemOf _ _ (31, g) (64 * 2 ^ g) (c (31, g)) i (hR.ia (Nat.le_of_ble_eq_true rfl) (tx_31 (Nat.le_refl g))) (by omega)) ym_X11_itemOf mlX11_148 sm_X11_itemOf rfl (by decide) (Nat.le_of_ble_eq_true rfl) ?_
      rintro q1 w1 ⟨rfl, hw1⟩
      have hw1 := hw1.symm; subst hw1
      exact z_iret h dX11_line_75 hr (⟨z_e1 (by rw [if_pos hix, s_1_1, n_item hix hcap (by omega)]; rfl), rfl⟩)
    by_cases s_1_2 : x = 2
    · skip
      refine z_tblIn h dX11_line_20 76 (off := 56) (by rw [s_1_2]; decide) (by rw [s_1_2]; decide) (by rw [s_1_2]; rfl) (by decide) ?_
      refine z_aload_n h dX11_line_76 rfl ?_
      refine y_getr h dX11_line_77 hR flX11_65 (by first | assumption | exact Nat.le_of_ble_eq_true rfl) (by first | rfl | assumption | exact tx_2 (by first | assumption | omega) | exact tx_18 (by first | assumption | omega) | exact tx_19 (by first | assumption | omega) | exact tx_20 (by first | assumption | omega) | exact tx_27 (by first | assumption | omega) | exact tx_28 (by first | assumption | omega) | exact tx_30 (by first | assumption | omega) | exact tx_31 (by first | assumption | omega) | exact tx_32 (by first | assumption | omega) | exact tx_33 (by first | assumption | omega)) (by rfl) ?_
      refine y_getr h dX11_line_80 hR flX11_304 (by first | assumption | exact Nat.le_of_ble_eq_true rfl) (by first | rfl | assumption | exact tx_2 (by first | assumption | omega) | exact tx_18 (by first | assumption | omega) | exact tx_19 (by first | assumption | omega) | exact tx_20 (by first | assumption | omega) | exact tx_27 (by first | assumption | omega) | exact tx_28 (by first | assumption | omega) | exact tx_30 (by first | assumption | omega) | exact tx_31 (by first | assumption | omega) | exact tx_32 (by first | assumption | omega) | exact tx_33 (by first | assumption | omega)) (by rfl) ?_
      refine z_iload_n h dX11_line_83 rfl ?_
      refine z_callS h dX11_line_84 (fun _ _ q => z_okv_no he q) (fun _ _ _ t q => absurd q (he t)) (m_X11_itemOf _ _ (32, g) (64 * 2 ^ g) (c (32, g)) i (hR.ia (Nat.le_of_ble_eq_true rfl) (tx_32 (Nat.le_refl g))) (by omega)) ym_X11_itemOf mlX11_148 sm_X11_itemOf rfl (by decide) (Nat.le_of_ble_eq_true rfl) ?_
      rintro q1 w1 ⟨rfl, hw1⟩
      have hw1 := hw1.symm; subst hw1
      exact z_iret h dX11_line_87 hr (⟨z_e1 (by rw [if_pos hix, s_1_2, n_item hix hcap (by omega)]; rfl), rfl⟩)
    by_cases s_1_3 : x = 3
    · skip
      refine z_tblIn h dX11_line_20 88 (off := 68) (by rw [s_1_3]; decide) (by rw [s_1_3]; decide) (by rw [s_1_3]; rfl) (by decide) ?_
      refine z_aload_n h dX11_line_88 rfl ?_
      refine y_getr h dX11_line_89 hR flX11_65 (by first | assumption | exact Nat.le_of_ble_eq_true rfl) (by first | rfl | assumption | exact tx_2 (by first | assumption | omega) | exact tx_18 (by first | assumption | omega) | exact tx_19 (by first | assumption | omega) | exact tx_20 (by first | assumption | omega) | exact tx_27 (by first | assumption | omega) | exact tx_28 (by first | assumption | omega) | exact tx_30 (by first | assumption | omega) | exact tx_31 (by first | assumption | omega) | exact tx_32 (by first | assumption | omega) | exact tx_33 (by first | assumption | omega)) (by rfl) ?_
      refine y_getr h dX11_line_92 hR flX11_307 (by first | assumption | exact Nat.le_of_ble_eq_true rfl) (by first | rfl | assumption | exact tx_2 (by first | assumption | omega) | exact tx_18 (by first | assumption | omega) | exact tx_19 (by first | assumption | omega) | exact tx_20 (by first | assumption | omega) | exact tx_27 (by first | assumption | omega) | exact tx_28 (by first | assumption | omega) | exact tx_30 (by first | assumption | omega) | exact tx_31 (by first | assumption | omega) | exact tx_32 (by first | assumption | omega) | exact tx_33 (by first | assumption | omega)) (by rfl) ?_
      refine z_iload_n h dX11_line_95 rfl ?_
      refine z_callS h dX11_line_96 (fun _ _ q => z_okv_no he q) (fun _ _ _ t q => absurd q (he t)) (m_X11_itemOf _ _ (33, g) (64 * 2 ^ g) (c (33, g)) i (hR.ia (Nat.le_of_ble_eq_true rfl) (tx_33 (Nat.le_refl g))) (by omega)) ym_X11_itemOf mlX11_148 sm_X11_itemOf rfl (by decide) (Nat.le_of_ble_eq_true rfl) ?_
      rintro q1 w1 ⟨rfl, hw1⟩
      have hw1 := hw1.symm; subst hw1
      exact z_iret h dX11_line_99 hr (⟨z_e1 (by rw [if_pos hix, s_1_3, n_item hix hcap (by omega)]; rfl), rfl⟩)
    refine z_tblOut h dX11_line_20 100 (by have a0 := lv_neT s_1_0 (a := 0) (by decide); have a1 := lv_neT s_1_1 (a := 1) (by decide); have a2 := lv_neT s_1_2 (a := 2) (by decide); have a3 := lv_neT s_1_3 (a := 3) (by decide); omega) (by decide) ?_
    refine z_iconst (v := 0) h dX11_line_100 (by decide) ?_
    exact z_iret h dX11_line_101 hr (⟨z_e1 (by rw [if_pos hix]; simp only [n_sel, s_1_0, s_1_1, s_1_2, s_1_3, if_false]), rfl⟩)
  · skip
    refine z_iconst (v := 0) h dX11_line_17 (by decide) ?_
    exact z_iret h dX11_line_18 hr (⟨z_e1 (if_neg (fun q => z_bf c_1 (by rw [hl]; exact (ix_in (by omega)).mpr q))).symm, rfl⟩)
set_option maxHeartbeats 4000000 in
set_option maxRecDepth 100000 in
theorem m_X11_right (G : z_G) {nb na np g : Nat} {w0 w : z_w} {c : r_c} {l : r_l} {r : r_r} (hX : XR nb na np g w0 c l r w) (b h_ p f : Int32) (nr : Nat) (hc : c (21, 0) 4 = nI nr) (hnr : nr ≤ 100) : z_M G yX11_right cX11_right 5 (some .boolean) 2 (0) (0) [vr (0, 0), vi b, vi h_, vi p, vi f] w (fun q w1 => if ix_ok b nb ∧ (0 ≤ h_ ∧ h_ ≤ 7) ∧ (0 ≤ p ∧ p ≤ 100) ∧ (0 ≤ f ∧ f ≤ 200) ∧ nr < 100 then q = some (vi 1) ∧ r_p dX (TX nb na np g) w0 (r_cs (r_cs (r_cs (r_cs (r_cs c (22, 0) nr b) (23, 0) nr h_) (24, 0) nr p) (25, 0) nr f) (21, 0) 4 (nI (nr + 1))) (l) (r) w1 else q = some (vi 0) ∧ w1 = w) := by
  refine z_met ym_X11_right (by decide) ⟨Nat.le_of_ble_eq_true rfl, Nat.le_of_ble_eq_true rfl⟩ (fun X hG hn hmc hms hin h hr => ?_)
  have he := hr.2.2.2.2.2.1
  obtain ⟨hR, hnb, hna, hnp, hg6, hc2, hc8, hc12, hr1, hr17, hr26⟩ := id hX
  refine z_aload_n h dX11_right_0 rfl ?_
  refine z_iload_n h dX11_right_1 rfl ?_
  refine z_callV h dX11_right_2 (fun _ _ q => z_okv_no he q) (fun _ _ _ t q => absurd q (he t)) (m_X11_bogAt _ hR b hc2 hnb hr1) ym_X11_bogAt mlX11_99 im_X11_bogAt (ci := 11) rfl se_X11_bogAt icX11 rfl (r_p.ob hR (by first | assumption | exact Nat.le_of_ble_eq_true rfl) (by first | rfl | assumption | exact tx_2 (by first | assumption | omega) | exact tx_18 (by first | assumption | omega) | exact tx_19 (by first | assumption | omega) | exact tx_20 (by first | assumption | omega) | exact tx_27 (by first | assumption | omega) | exact tx_28 (by first | assumption | omega) | exact tx_30 (by first | assumption | omega) | exact tx_31 (by first | assumption | omega) | exact tx_32 (by first | assumption | omega) | exact tx_33 (by first | assumption | omega))) rfl (by decide) (Nat.le_of_ble_eq_true rfl) ?_
  rintro r w1 ⟨hw1, hq⟩
  have hw1 := hw1.symm; subst hw1
  by_cases hix : ix_ok b nb
  · skip
    rw [if_pos hix] at hq; subst hq
    refine z_ifnull h dX11_right_5 ?_
    refine z_iload_n h dX11_right_8 rfl ?_
    refine z_iconst (v := 0) h dX11_right_9 (by decide) ?_
    refine z_bipush (v := 7) h dX11_right_10 (by decide) ?_
    refine z_callS h dX11_right_12 (fun _ _ q => z_okv_no he q) (fun _ _ _ t q => absurd q (he t)) (m_X11_within _ _ _ _ _) ym_X11_within mlX11_92 sm_X11_within rfl (by decide) (Nat.le_of_ble_eq_true rfl) ?_
    rintro q1 w1 ⟨rfl, hw1⟩
    have hw1 := hw1.symm; subst hw1
    refine z_if_eq h dX11_right_15 40 (by decide) (fun c_1 => ?_) (fun c_1 => ?_)
    · skip
      refine z_iconst (v := 0) h dX11_right_40 (by decide) ?_
      exact z_zret h dX11_right_41 hr rfl (z_f (fun q => z_bf c_1 q.2.1) ⟨rfl, rfl⟩)
    · skip
      refine z_iload_n h dX11_right_18 rfl ?_
      refine z_iconst (v := 0) h dX11_right_19 (by decide) ?_
      refine z_bipush (v := 100) h dX11_right_20 (by decide) ?_
      refine z_callS h dX11_right_22 (fun _ _ q => z_okv_no he q) (fun _ _ _ t q => absurd q (he t)) (m_X11_within _ _ _ _ _) ym_X11_within mlX11_92 sm_X11_within rfl (by decide) (Nat.le_of_ble_eq_true rfl) ?_
      rintro q1 w1 ⟨rfl, hw1⟩
      have hw1 := hw1.symm; subst hw1
      refine z_if_eq h dX11_right_25 40 (by decide) (fun c_2 => ?_) (fun c_2 => ?_)
      · skip
        refine z_iconst (v := 0) h dX11_right_40 (by decide) ?_
        exact z_zret h dX11_right_41 hr rfl (z_f (fun q => z_bf c_2 q.2.2.1) ⟨rfl, rfl⟩)
      · skip
        refine z_iload h dX11_right_28 rfl ?_
        refine z_iconst (v := 0) h dX11_right_30 (by decide) ?_
        refine z_sipush (v := 200) h dX11_right_31 (by decide) ?_
        refine z_callS h dX11_right_34 (fun _ _ q => z_okv_no he q) (fun _ _ _ t q => absurd q (he t)) (m_X11_within _ _ _ _ _) ym_X11_within mlX11_92 sm_X11_within rfl (by decide) (Nat.le_of_ble_eq_true rfl) ?_
        rintro q1 w1 ⟨rfl, hw1⟩
        have hw1 := hw1.symm; subst hw1
        refine z_if_ne h dX11_right_37 42 (by decide) (fun c_3 => ?_) (fun c_3 => ?_)
        · skip
          refine z_aload_n h dX11_right_42 rfl ?_
          refine y_getr h dX11_right_43 hR flX11_52 (by first | assumption | exact Nat.le_of_ble_eq_true rfl) (by first | rfl | assumption | exact tx_2 (by first | assumption | omega) | exact tx_18 (by first | assumption | omega) | exact tx_19 (by first | assumption | omega) | exact tx_20 (by first | assumption | omega) | exact tx_27 (by first | assumption | omega) | exact tx_28 (by first | assumption | omega) | exact tx_30 (by first | assumption | omega) | exact tx_31 (by first | assumption | omega) | exact tx_32 (by first | assumption | omega) | exact tx_33 (by first | assumption | omega)) (by rfl) ?_
          refine z_iload_n h dX11_right_46 rfl ?_
          refine z_iload_n h dX11_right_47 rfl ?_
          refine z_iload_n h dX11_right_48 rfl ?_
          refine z_iload h dX11_right_49 rfl ?_
          refine z_callV h dX11_right_51 (fun _ _ q => z_okv_no he q) (fun _ _ _ t q => absurd q (he t)) (m_X8_tell _ hR nr hc hnr b h_ p f) ym_X8_tell mlX11_280 im_X8_tell (ci := 8) rfl se_X8_tell icX8 rfl (r_p.ob hR (by first | assumption | exact Nat.le_of_ble_eq_true rfl) (by first | rfl | assumption | exact tx_2 (by first | assumption | omega) | exact tx_18 (by first | assumption | omega) | exact tx_19 (by first | assumption | omega) | exact tx_20 (by first | assumption | omega) | exact tx_27 (by first | assumption | omega) | exact tx_28 (by first | assumption | omega) | exact tx_30 (by first | assumption | omega) | exact tx_31 (by first | assumption | omega) | exact tx_32 (by first | assumption | omega) | exact tx_33 (by first | assumption | omega))) rfl (by decide) (Nat.le_of_ble_eq_true rfl) ?_
          rintro q1 w1 hz
          obtain ⟨y, hy, hpo, hnar⟩ : ∃ y, q1 = some (vi y) ∧ (fun q w1 => if ix_ok b nb ∧ (0 ≤ h_ ∧ h_ ≤ 7) ∧ (0 ≤ p ∧ p ≤ 100) ∧ (0 ≤ f ∧ f ≤ 200) ∧ nr < 100 then q = some (vi 1) ∧ r_p dX (TX nb na np g) w0 (r_cs (r_cs (r_cs (r_cs (r_cs c (22, 0) nr b) (23, 0) nr h_) (24, 0) nr p) (25, 0) nr f) (21, 0) 4 (nI (nr + 1))) (l) (r) w1 else q = some (vi 0) ∧ w1 = w) (some (vi y)) w1 ∧ narrow .boolean (.int y) = .int y :=
            z_ifq hz (fun h1 h2 => ⟨_, h2.1, z_t ⟨hix, z_bt c_1, z_bt c_2, z_bt c_3, h1⟩ ⟨rfl, h2.2⟩, rfl⟩) (fun h1 h2 => ⟨_, h2.1, z_f (fun q => h1 q.2.2.2.2) ⟨rfl, h2.2⟩, rfl⟩)
          subst hy
          exact z_zret h dX11_right_54 hr hnar (hpo)
        · skip
          refine z_iconst (v := 0) h dX11_right_40 (by decide) ?_
          exact z_zret h dX11_right_41 hr rfl (z_f (fun q => z_bf c_3 q.2.2.2.1) ⟨rfl, rfl⟩)
  · skip
    rw [if_neg hix] at hq; subst hq
    refine z_ifnullN h dX11_right_5 40 (by decide) ?_
    refine z_iconst (v := 0) h dX11_right_40 (by decide) ?_
    exact z_zret h dX11_right_41 hr rfl (z_f (fun q => hix q.1) ⟨rfl, rfl⟩)
set_option maxHeartbeats 4000000 in
set_option maxRecDepth 100000 in
theorem m_X11_clear (G : z_G) {nb na np g : Nat} {w0 w : z_w} {c : r_c} {l : r_l} {r : r_r} (hX : XR nb na np g w0 c l r w) : z_M G yX11_clear cX11_clear 1 none 1 (0) (0) [vr (0, 0)] w (fun q w1 => q = none ∧ r_p dX (TX nb na np g) w0 (r_cs c (35, 0) 3 0) (l) (r) w1) := by
  refine z_met ym_X11_clear (by decide) ⟨Nat.le_of_ble_eq_true rfl, Nat.le_of_ble_eq_true rfl⟩ (fun X hG hn hmc hms hin h hr => ?_)
  have he := hr.2.2.2.2.2.1
  obtain ⟨hR, hnb, hna, hnp, hg6, hc2, hc8, hc12, hr1, hr17, hr26⟩ := id hX
  refine z_aload_n h dX11_clear_0 rfl ?_
  refine y_getr h dX11_clear_1 hR flX11_72 (by first | assumption | exact Nat.le_of_ble_eq_true rfl) (by first | rfl | assumption | exact tx_2 (by first | assumption | omega) | exact tx_18 (by first | assumption | omega) | exact tx_19 (by first | assumption | omega) | exact tx_20 (by first | assumption | omega) | exact tx_27 (by first | assumption | omega) | exact tx_28 (by first | assumption | omega) | exact tx_30 (by first | assumption | omega) | exact tx_31 (by first | assumption | omega) | exact tx_32 (by first | assumption | omega) | exact tx_33 (by first | assumption | omega)) (by rfl) ?_
  refine z_iconst (v := 0) h dX11_clear_4 (by decide) ?_
  refine y_put h dX11_clear_5 he hR flX11_344 rfl (by first | assumption | exact Nat.le_of_ble_eq_true rfl) (by first | rfl | assumption | exact tx_2 (by first | assumption | omega) | exact tx_18 (by first | assumption | omega) | exact tx_19 (by first | assumption | omega) | exact tx_20 (by first | assumption | omega) | exact tx_27 (by first | assumption | omega) | exact tx_28 (by first | assumption | omega) | exact tx_30 (by first | assumption | omega) | exact tx_31 (by first | assumption | omega) | exact tx_32 (by first | assumption | omega) | exact tx_33 (by first | assumption | omega)) (by rfl) (fun w hR => ?_)
  exact z_vret h dX11_clear_8 hr (⟨rfl, hR⟩)
set_option maxHeartbeats 4000000 in
set_option maxRecDepth 100000 in
theorem m_X11_end (G : z_G) {nb na np g : Nat} {w0 w : z_w} {c : r_c} {l : r_l} {r : r_r} (hX : XR nb na np g w0 c l r w) (x : Int32) : z_M G yX11_end cX11_end 2 (some .boolean) 2 (0) (0) [vr (0, 0), vi x] w (fun q w1 => if 0 ≤ x ∧ x ≤ c (6, 0) 1 then q = some (vi 1) ∧ r_p dX (TX nb na np g) w0 (r_cs c (6, 0) 1 x) (l) (r) w1 else q = some (vi 0) ∧ w1 = w) := by
  refine z_met ym_X11_end (by decide) ⟨Nat.le_of_ble_eq_true rfl, Nat.le_of_ble_eq_true rfl⟩ (fun X hG hn hmc hms hin h hr => ?_)
  have he := hr.2.2.2.2.2.1
  obtain ⟨hR, hnb, hna, hnp, hg6, hc2, hc8, hc12, hr1, hr17, hr26⟩ := id hX
  refine z_iload_n h dX11_end_0 rfl ?_
  refine z_iconst (v := 0) h dX11_end_1 (by decide) ?_
  refine z_aload_n h dX11_end_2 rfl ?_
  refine y_getr h dX11_end_3 hR flX11_25 (by first | assumption | exact Nat.le_of_ble_eq_true rfl) (by first | rfl | assumption | exact tx_2 (by first | assumption | omega) | exact tx_18 (by first | assumption | omega) | exact tx_19 (by first | assumption | omega) | exact tx_20 (by first | assumption | omega) | exact tx_27 (by first | assumption | omega) | exact tx_28 (by first | assumption | omega) | exact tx_30 (by first | assumption | omega) | exact tx_31 (by first | assumption | omega) | exact tx_32 (by first | assumption | omega) | exact tx_33 (by first | assumption | omega)) (by rfl) ?_
  refine y_geti h dX11_end_6 hR flX11_156 (by first | assumption | exact Nat.le_of_ble_eq_true rfl) (by first | rfl | assumption | exact tx_2 (by first | assumption | omega) | exact tx_18 (by first | assumption | omega) | exact tx_19 (by first | assumption | omega) | exact tx_20 (by first | assumption | omega) | exact tx_27 (by first | assumption | omega) | exact tx_28 (by first | assumption | omega) | exact tx_30 (by first | assumption | omega) | exact tx_31 (by first | assumption | omega) | exact tx_32 (by first | assumption | omega) | exact tx_33 (by first | assumption | omega)) (by rfl) ?_
  refine z_callS h dX11_end_9 (fun _ _ q => z_okv_no he q) (fun _ _ _ t q => absurd q (he t)) (m_X11_within _ _ _ _ _) ym_X11_within mlX11_92 sm_X11_within rfl (by decide) (Nat.le_of_ble_eq_true rfl) ?_
  rintro q1 w1 ⟨rfl, hw1⟩
  have hw1 := hw1.symm; subst hw1
  refine z_if_ne h dX11_end_12 17 (by decide) (fun c_1 => ?_) (fun c_1 => ?_)
  · skip
    refine z_aload_n h dX11_end_17 rfl ?_
    refine y_getr h dX11_end_18 hR flX11_25 (by first | assumption | exact Nat.le_of_ble_eq_true rfl) (by first | rfl | assumption | exact tx_2 (by first | assumption | omega) | exact tx_18 (by first | assumption | omega) | exact tx_19 (by first | assumption | omega) | exact tx_20 (by first | assumption | omega) | exact tx_27 (by first | assumption | omega) | exact tx_28 (by first | assumption | omega) | exact tx_30 (by first | assumption | omega) | exact tx_31 (by first | assumption | omega) | exact tx_32 (by first | assumption | omega) | exact tx_33 (by first | assumption | omega)) (by rfl) ?_
    refine z_iload_n h dX11_end_21 rfl ?_
    refine y_put h dX11_end_22 he hR flX11_156 rfl (by first | assumption | exact Nat.le_of_ble_eq_true rfl) (by first | rfl | assumption | exact tx_2 (by first | assumption | omega) | exact tx_18 (by first | assumption | omega) | exact tx_19 (by first | assumption | omega) | exact tx_20 (by first | assumption | omega) | exact tx_27 (by first | assumption | omega) | exact tx_28 (by first | assumption | omega) | exact tx_30 (by first | assumption | omega) | exact tx_31 (by first | assumption | omega) | exact tx_32 (by first | assumption | omega) | exact tx_33 (by first | assumption | omega)) (by rfl) (fun w hR => ?_)
    refine z_iconst (v := 1) h dX11_end_25 (by decide) ?_
    exact z_zret h dX11_end_26 hr rfl (z_t (z_bt c_1) ⟨rfl, hR⟩)
  · skip
    refine z_iconst (v := 0) h dX11_end_15 (by decide) ?_
    exact z_zret h dX11_end_16 hr rfl (z_f (z_bf c_1) ⟨rfl, rfl⟩)
