/-! the class: its public methods, the short ones -/
/-- the class's world: the table, the counts, the rows of references -/
def XR (nb na np g : Nat) (w0 : z_w) (c : r_c) (l : r_l) (r : r_r) (w : z_w) : Prop :=
  r_p dX (TX nb na np g) w0 c l r w ∧ nb ≤ 12 ∧ na ≤ 100 ∧ np ≤ 60 ∧ g ≤ 6 ∧ c (0, 0) 2 = nI nb ∧ c (0, 0) 8 = nI na ∧ c (0, 0) 12 = nI np ∧ (∀ i, i < nb → r (1, 0) i = some (2, i)) ∧ (∀ i, i < na → r (17, 0) i = some (18, i)) ∧ ∀ i, i < np → r (26, 0) i = some (27, i)
def n_sel (x : Int32) : List (Int32 × Int32) → Int32 → Int32
  | [], d => d
  | q :: r, d => if x = q.1 then q.2 else n_sel x r d
theorem n_item {f : Nat → Int32} {x : Int32} {n m : Nat} (h : ix_ok x n) (hnm : n ≤ m) (hm : m < 2 ^ 31) : (if ¬ x < 0 ∧ ¬ nI m ≤ x then f x.toNatClampNeg else 0) = f x.toNatClampNeg := by
  have hl := ix_lt h (by omega)
  refine if_pos ⟨h.1, fun q => ?_⟩
  rw [ix_eq h] at q
  have := (nI_leI hm (by omega)).mp q
  omega
theorem z_ifq {A B C D : Prop} [Decidable A] (h : if A then B else C) (hp : A → B → D) (hn : ¬ A → C → D) : D := by
  by_cases q : A
  · rw [if_pos q] at h; exact hp q h
  · rw [if_neg q] at h; exact hn q h
set_option maxHeartbeats 4000000 in
set_option maxRecDepth 100000 in
theorem m_X11_test (G : z_G) {nb na np g : Nat} {w0 w : z_w} {c : r_c} {l : r_l} {r : r_r} (hX : XR nb na np g w0 c l r w) (b a e : Int32) : z_M G yX11_test cX11_test 5 (some .boolean) 3 (0) (0) [vr (0, 0), vi b, vi a, vi e] w (fun q w1 => if ix_ok b nb ∧ (0 ≤ a ∧ a ≤ 1000) ∧ (a ≤ e ∧ e ≤ 1000) ∧ ¬ (c (2, b.toNatClampNeg) 4 < a ∨ e < c (2, b.toNatClampNeg) 3) then q = some (vi 1) ∧ r_p dX (TX nb na np g) w0 (r_cs (r_cs c (2, b.toNatClampNeg) 3 (if c (2, b.toNatClampNeg) 3 < a then a else c (2, b.toNatClampNeg) 3)) (2, b.toNatClampNeg) 4 (if e < c (2, b.toNatClampNeg) 4 then e else c (2, b.toNatClampNeg) 4)) (l) (r) w1 else q = some (vi 0) ∧ w1 = w) := by
  refine z_met ym_X11_test (by decide) ⟨Nat.le_of_ble_eq_true rfl, Nat.le_of_ble_eq_true rfl⟩ (fun X hG hn hmc hms hin h hr => ?_)
  have he := hr.2.2.2.2.2.1
  obtain ⟨hR, hnb, hna, hnp, hg6, hc2, hc8, hc12, hr1, hr17, hr26⟩ := id hX
  refine z_aload_n h dX11_test_0 rfl ?_
  refine z_iload_n h dX11_test_1 rfl ?_
  refine z_callV h dX11_test_2 (fun _ _ q => z_okv_no he q) (fun _ _ _ t q => absurd q (he t)) (m_X11_bogAt _ hR b hc2 hnb hr1) ym_X11_bogAt mlX11_99 im_X11_bogAt (ci := 11) rfl se_X11_bogAt icX11 rfl (r_p.ob hR (by first | assumption | exact Nat.le_of_ble_eq_true rfl) (by first | rfl | assumption | exact tx_2 (by first | assumption | omega) | exact tx_18 (by first | assumption | omega) | exact tx_19 (by first | assumption | omega) | exact tx_20 (by first | assumption | omega) | exact tx_27 (by first | assumption | omega) | exact tx_28 (by first | assumption | omega) | exact tx_30 (by first | assumption | omega) | exact tx_31 (by first | assumption | omega) | exact tx_32 (by first | assumption | omega) | exact tx_33 (by first | assumption | omega))) rfl (by decide) (Nat.le_of_ble_eq_true rfl) ?_
  rintro r w1 ⟨hw1, hq⟩
  have hw1 := hw1.symm; subst hw1
  by_cases hix : ix_ok b nb
  · skip
    rw [if_pos hix] at hq; subst hq
    refine z_astore h dX11_test_5 (by rw [hn]; decide) ?_
    refine z_aload h dX11_test_7 rfl ?_
    refine z_ifnull h dX11_test_9 ?_
    refine z_iload_n h dX11_test_12 rfl ?_
    refine z_iconst (v := 0) h dX11_test_13 (by decide) ?_
    refine z_sipush (v := 1000) h dX11_test_14 (by decide) ?_
    refine z_callS h dX11_test_17 (fun _ _ q => z_okv_no he q) (fun _ _ _ t q => absurd q (he t)) (m_X11_within _ _ _ _ _) ym_X11_within mlX11_92 sm_X11_within rfl (by decide) (Nat.le_of_ble_eq_true rfl) ?_
    rintro q1 w1 ⟨rfl, hw1⟩
    have hw1 := hw1.symm; subst hw1
    refine z_if_eq h dX11_test_20 34 (by decide) (fun c_1 => ?_) (fun c_1 => ?_)
    · skip
      refine z_iconst (v := 0) h dX11_test_34 (by decide) ?_
      exact z_zret h dX11_test_35 hr rfl (z_f (fun q => z_bf c_1 q.2.1) ⟨rfl, rfl⟩)
    · skip
      refine z_iload_n h dX11_test_23 rfl ?_
      refine z_iload_n h dX11_test_24 rfl ?_
      refine z_sipush (v := 1000) h dX11_test_25 (by decide) ?_
      refine z_callS h dX11_test_28 (fun _ _ q => z_okv_no he q) (fun _ _ _ t q => absurd q (he t)) (m_X11_within _ _ _ _ _) ym_X11_within mlX11_92 sm_X11_within rfl (by decide) (Nat.le_of_ble_eq_true rfl) ?_
      rintro q1 w1 ⟨rfl, hw1⟩
      have hw1 := hw1.symm; subst hw1
      refine z_if_ne h dX11_test_31 36 (by decide) (fun c_2 => ?_) (fun c_2 => ?_)
      · skip
        refine z_aload h dX11_test_36 rfl ?_
        refine z_iload_n h dX11_test_38 rfl ?_
        refine z_iload_n h dX11_test_39 rfl ?_
        refine z_callV h dX11_test_40 (fun _ _ q => z_okv_no he q) (fun _ _ _ t q => absurd q (he t)) (y_X1_narrow _ hR b.toNatClampNeg (ix_lt hix (by omega)) a e) ym_X1_narrow mlX11_103 im_X1_narrow (ci := 1) rfl se_X1_narrow icX1 rfl (r_p.ob hR (Nat.le_of_ble_eq_true rfl) (tx_2 (ix_lt hix (by omega)))) rfl (by decide) (Nat.le_of_ble_eq_true rfl) ?_
        rintro q1 w1 hz
        obtain ⟨y, hy, hpo, hnar⟩ : ∃ y, q1 = some (vi y) ∧ (fun q w1 => if ix_ok b nb ∧ (0 ≤ a ∧ a ≤ 1000) ∧ (a ≤ e ∧ e ≤ 1000) ∧ ¬ (c (2, b.toNatClampNeg) 4 < a ∨ e < c (2, b.toNatClampNeg) 3) then q = some (vi 1) ∧ r_p dX (TX nb na np g) w0 (r_cs (r_cs c (2, b.toNatClampNeg) 3 (if c (2, b.toNatClampNeg) 3 < a then a else c (2, b.toNatClampNeg) 3)) (2, b.toNatClampNeg) 4 (if e < c (2, b.toNatClampNeg) 4 then e else c (2, b.toNatClampNeg) 4)) (l) (r) w1 else q = some (vi 0) ∧ w1 = w) (some (vi y)) w1 ∧ narrow .boolean (.int y) = .int y := by
          refine z_ifq hz (fun h1 h2 => ⟨0, h2.1, z_f (fun q => q.2.2.2 h1) ⟨rfl, h2.2⟩, rfl⟩) (fun h1 h2 => ⟨1, h2.1, z_t ⟨hix, z_bt c_1, z_bt c_2, h1⟩ ⟨rfl, h2.2⟩, rfl⟩)
        subst hy
        exact z_zret h dX11_test_43 hr hnar (hpo)
      · skip
        refine z_iconst (v := 0) h dX11_test_34 (by decide) ?_
        exact z_zret h dX11_test_35 hr rfl (z_f (fun q => z_bf c_2 q.2.2.1) ⟨rfl, rfl⟩)
  · skip
    rw [if_neg hix] at hq; subst hq
    refine z_astoreN h dX11_test_5 (by rw [hn]; decide) ?_
    refine z_aloadN h dX11_test_7 rfl ?_
    refine z_ifnullN h dX11_test_9 34 (by decide) ?_
    refine z_iconst (v := 0) h dX11_test_34 (by decide) ?_
    exact z_zret h dX11_test_35 hr rfl (z_f (fun q => hix q.1) ⟨rfl, rfl⟩)
set_option maxHeartbeats 4000000 in
set_option maxRecDepth 100000 in
theorem m_X11_dig (G : z_G) {nb na np g : Nat} {w0 w : z_w} {c : r_c} {l : r_l} {r : r_r} (hX : XR nb na np g w0 c l r w) (b k : Int32) : z_M G yX11_dig cX11_dig 4 (some .int) 2 (0) (0) [vr (0, 0), vi b, vi k] w (fun q w1 => if ix_ok b nb ∧ (1 ≤ k ∧ k ≤ c (2, b.toNatClampNeg) 0) ∧ ¬ (¬ c (2, b.toNatClampNeg) 5 = -1 ∧ ¬ c (2, b.toNatClampNeg) 5 = c (0, 0) 0 ∧ c (0, 0) 0 - c (2, b.toNatClampNeg) 5 < c (2, b.toNatClampNeg) 2) then q = some (vi (c (4, 0) b.toNatClampNeg + k)) ∧ r_p dX (TX nb na np g) w0 (r_cs (r_cs (r_cs c (2, b.toNatClampNeg) 0 (c (2, b.toNatClampNeg) 0 - k)) (2, b.toNatClampNeg) 5 (c (0, 0) 0)) (4, 0) b.toNatClampNeg (c (4, 0) b.toNatClampNeg + k)) (l) (r) w1 else q = some (vi (-1)) ∧ w1 = w) := by
  refine z_met ym_X11_dig (by decide) ⟨Nat.le_of_ble_eq_true rfl, Nat.le_of_ble_eq_true rfl⟩ (fun X hG hn hmc hms hin h hr => ?_)
  have he := hr.2.2.2.2.2.1
  obtain ⟨hR, hnb, hna, hnp, hg6, hc2, hc8, hc12, hr1, hr17, hr26⟩ := id hX
  refine z_aload_n h dX11_dig_0 rfl ?_
  refine z_iload_n h dX11_dig_1 rfl ?_
  refine z_callV h dX11_dig_2 (fun _ _ q => z_okv_no he q) (fun _ _ _ t q => absurd q (he t)) (m_X11_bogAt _ hR b hc2 hnb hr1) ym_X11_bogAt mlX11_99 im_X11_bogAt (ci := 11) rfl se_X11_bogAt icX11 rfl (r_p.ob hR (by first | assumption | exact Nat.le_of_ble_eq_true rfl) (by first | rfl | assumption | exact tx_2 (by first | assumption | omega) | exact tx_18 (by first | assumption | omega) | exact tx_19 (by first | assumption | omega) | exact tx_20 (by first | assumption | omega) | exact tx_27 (by first | assumption | omega) | exact tx_28 (by first | assumption | omega) | exact tx_30 (by first | assumption | omega) | exact tx_31 (by first | assumption | omega) | exact tx_32 (by first | assumption | omega) | exact tx_33 (by first | assumption | omega))) rfl (by decide) (Nat.le_of_ble_eq_true rfl) ?_
  rintro r w1 ⟨hw1, hq⟩
  have hw1 := hw1.symm; subst hw1
  by_cases hix : ix_ok b nb
  · skip
    rw [if_pos hix] at hq; subst hq
    refine z_astore_n h dX11_dig_5 (by rw [hn]; decide) ?_
    refine z_aload_n h dX11_dig_6 rfl ?_
    refine z_ifnull h dX11_dig_7 ?_
    refine z_iload_n h dX11_dig_10 rfl ?_
    refine z_iconst (v := 1) h dX11_dig_11 (by decide) ?_
    refine z_aload_n h dX11_dig_12 rfl ?_
    refine y_geti h dX11_dig_13 hR flX11_107 (by first | assumption | exact Nat.le_of_ble_eq_true rfl) (tx_2 (ix_lt hix (by omega))) (by rfl) ?_
    refine z_callS h dX11_dig_16 (fun _ _ q => z_okv_no he q) (fun _ _ _ t q => absurd q (he t)) (m_X11_within _ _ _ _ _) ym_X11_within mlX11_92 sm_X11_within rfl (by decide) (Nat.le_of_ble_eq_true rfl) ?_
    rintro q1 w1 ⟨rfl, hw1⟩
    have hw1 := hw1.symm; subst hw1
    refine z_if_eq h dX11_dig_19 33 (by decide) (fun c_1 => ?_) (fun c_1 => ?_)
    · skip
      refine z_iconst (v := -1) h dX11_dig_33 (by decide) ?_
      exact z_iret h dX11_dig_34 hr (z_f (fun q => z_bf c_1 q.2.1) ⟨rfl, rfl⟩)
    · skip
      refine z_aload_n h dX11_dig_22 rfl ?_
      refine z_aload_n h dX11_dig_23 rfl ?_
      refine y_geti h dX11_dig_24 hR flX11_110 (by first | assumption | exact Nat.le_of_ble_eq_true rfl) (by first | rfl | assumption | exact tx_2 (by first | assumption | omega) | exact tx_18 (by first | assumption | omega) | exact tx_19 (by first | assumption | omega) | exact tx_20 (by first | assumption | omega) | exact tx_27 (by first | assumption | omega) | exact tx_28 (by first | assumption | omega) | exact tx_30 (by first | assumption | omega) | exact tx_31 (by first | assumption | omega) | exact tx_32 (by first | assumption | omega) | exact tx_33 (by first | assumption | omega)) (by rfl) ?_
      refine z_callV h dX11_dig_27 (fun _ _ q => z_okv_no he q) (fun _ _ _ t q => absurd q (he t)) (y_X1_restsIn _ hR b.toNatClampNeg (ix_lt hix (by omega)) _) ym_X1_restsIn mlX11_113 im_X1_restsIn (ci := 1) rfl se_X1_restsIn icX1 rfl (r_p.ob hR (Nat.le_of_ble_eq_true rfl) (tx_2 (ix_lt hix (by omega)))) rfl (by decide) (Nat.le_of_ble_eq_true rfl) ?_
      rintro q1 w1 ⟨rfl, hw1⟩
      have hw1 := hw1.symm; subst hw1
      refine z_if_eq h dX11_dig_30 35 (by decide) (fun c_2 => ?_) (fun c_2 => ?_)
      · skip
        refine z_aload_n h dX11_dig_35 rfl ?_
        refine z_dup_r h dX11_dig_36 ?_
        refine y_geti h dX11_dig_37 hR flX11_107 (by first | assumption | exact Nat.le_of_ble_eq_true rfl) (tx_2 (ix_lt hix (by omega))) (by rfl) ?_
        refine z_iload_n h dX11_dig_40 rfl ?_
        refine z_isub h dX11_dig_41 ?_
        refine y_put h dX11_dig_42 he hR flX11_107 rfl (by first | assumption | exact Nat.le_of_ble_eq_true rfl) (tx_2 (ix_lt hix (by omega))) (by rfl) (fun w hR => ?_)
        refine z_aload_n h dX11_dig_45 rfl ?_
        refine z_aload_n h dX11_dig_46 rfl ?_
        refine y_geti h dX11_dig_47 hR flX11_110 (by first | assumption | exact Nat.le_of_ble_eq_true rfl) (by first | rfl | assumption | exact tx_2 (by first | assumption | omega) | exact tx_18 (by first | assumption | omega) | exact tx_19 (by first | assumption | omega) | exact tx_20 (by first | assumption | omega) | exact tx_27 (by first | assumption | omega) | exact tx_28 (by first | assumption | omega) | exact tx_30 (by first | assumption | omega) | exact tx_31 (by first | assumption | omega) | exact tx_32 (by first | assumption | omega) | exact tx_33 (by first | assumption | omega)) (by rfl) ?_
        refine y_put h dX11_dig_50 he hR flX11_117 rfl (by first | assumption | exact Nat.le_of_ble_eq_true rfl) (tx_2 (ix_lt hix (by omega))) (by rfl) (fun w hR => ?_)
        refine z_aload_n h dX11_dig_53 rfl ?_
        refine y_getr h dX11_dig_54 hR flX11_18 (by first | assumption | exact Nat.le_of_ble_eq_true rfl) (by first | rfl | assumption | exact tx_2 (by first | assumption | omega) | exact tx_18 (by first | assumption | omega) | exact tx_19 (by first | assumption | omega) | exact tx_20 (by first | assumption | omega) | exact tx_27 (by first | assumption | omega) | exact tx_28 (by first | assumption | omega) | exact tx_30 (by first | assumption | omega) | exact tx_31 (by first | assumption | omega) | exact tx_32 (by first | assumption | omega) | exact tx_33 (by first | assumption | omega)) (by rfl) ?_
        refine z_iload_n h dX11_dig_57 rfl ?_
        refine z_toe (y := nI b.toNatClampNeg) (ix_eq hix) ?_
        refine z_iload_n h dX11_dig_58 rfl ?_
        refine z_callV h dX11_dig_59 (fun _ _ q => z_okv_no he q) (fun _ _ _ t q => absurd q (he t)) (y_X10_addOre _ hR b.toNatClampNeg k (by have := ix_lt hix (by omega); omega)) ym_X10_addOre mlX11_120 im_X10_addOre (ci := 10) rfl se_X10_addOre icX10 rfl (r_p.ob hR (by first | assumption | exact Nat.le_of_ble_eq_true rfl) (by first | rfl | assumption | exact tx_2 (by first | assumption | omega) | exact tx_18 (by first | assumption | omega) | exact tx_19 (by first | assumption | omega) | exact tx_20 (by first | assumption | omega) | exact tx_27 (by first | assumption | omega) | exact tx_28 (by first | assumption | omega) | exact tx_30 (by first | assumption | omega) | exact tx_31 (by first | assumption | omega) | exact tx_32 (by first | assumption | omega) | exact tx_33 (by first | assumption | omega))) rfl (by decide) (Nat.le_of_ble_eq_true rfl) ?_
        rintro q1 w1 ⟨hq1, hR⟩
        subst hq1
        exact z_iret h dX11_dig_62 hr (z_t ⟨hix, z_bt c_1, z_bf c_2⟩ ⟨rfl, hR⟩)
      · skip
        refine z_iconst (v := -1) h dX11_dig_33 (by decide) ?_
        exact z_iret h dX11_dig_34 hr (z_f (fun q => q.2.2 (z_bt c_2)) ⟨rfl, rfl⟩)
  · skip
    rw [if_neg hix] at hq; subst hq
    refine z_astore_nN h dX11_dig_5 (by rw [hn]; decide) ?_
    refine z_aload_nN h dX11_dig_6 rfl ?_
    refine z_ifnullN h dX11_dig_7 33 (by decide) ?_
    refine z_iconst (v := -1) h dX11_dig_33 (by decide) ?_
    exact z_iret h dX11_dig_34 hr (z_f (fun q => hix q.1) ⟨rfl, rfl⟩)
