/-! the class: its public methods with loops -/
/-- a minute, as a step on (ore, bloom, ints) -/
abbrev f_S : Type := (Nat → Nat) × ((Nat → Nat) × (Nat → Int32))
def f_s (nc : Nat) (le si nu ai : Nat → Int32) (ch : Nat → Nat) (s : f_S) : f_S :=
  (f_ra (f_k (f_bn (f_air nc le si nu ai s.1 ch s.2.2) (s.2.2 12) (f_cl s.2.2 ch)) (f_h (s.2.2 6) (f_bn (f_air nc le si nu ai s.1 ch s.2.2) (s.2.2 12) (f_cl s.2.2 ch))) s.1) s.1,
   f_bl (f_k (f_bn (f_air nc le si nu ai s.1 ch s.2.2) (s.2.2 12) (f_cl s.2.2 ch)) (f_h (s.2.2 6) (f_bn (f_air nc le si nu ai s.1 ch s.2.2) (s.2.2 12) (f_cl s.2.2 ch))) s.1) s.1 s.2.1,
   f_u (f_air nc le si nu ai s.1 ch s.2.2) (f_bn (f_air nc le si nu ai s.1 ch s.2.2) (s.2.2 12) (f_cl s.2.2 ch)) (f_h (s.2.2 6) (f_bn (f_air nc le si nu ai s.1 ch s.2.2) (s.2.2 12) (f_cl s.2.2 ch))) s.2.2)
def f_n (nc : Nat) (le si nu ai : Nat → Int32) (ch : Nat → Nat) (s : f_S) : Nat → f_S
  | 0 => s
  | n + 1 => f_s nc le si nu ai ch (f_n nc le si nu ai ch s n)
theorem f_n_gap {nc : Nat} {le si nu ai : Nat → Int32} {ch : Nat → Nat} {s : f_S} : ∀ n, (f_n nc le si nu ai ch s n).2.2 13 = s.2.2 13 ∧ (f_n nc le si nu ai ch s n).2.2 12 = s.2.2 12
  | 0 => ⟨rfl, rfl⟩
  | n + 1 => f_n_gap n
theorem f_n_ore {nc : Nat} {le si nu ai : Nat → Int32} {ch : Nat → Nat} {s : f_S} : ∀ n, p_sm (f_n nc le si nu ai ch s n).1 12 ≤ p_sm s.1 12
  | 0 => Nat.le_refl _
  | n + 1 => by
    have h := f_n_ore (nc := nc) (le := le) (si := si) (nu := nu) (ai := ai) (ch := ch) (s := s) n
    show p_sm (f_ra _ _) 12 ≤ _
    rw [f_ra_sum _ (f_k_le _ _ _).1]
    omega
def g_le : Nat → Int32 → Int32
  | 0, x => x
  | n + 1, x => ((g_le n x).toInt64 * 97 / 100).toInt32
def g_gr : Nat → Int32 → Int32
  | 0, x => x
  | n + 1, x => (((g_gr n x).toInt64 * 99 + 99) / 100).toInt32
def n_iron (bl lo : Nat → Int32) : Nat → Int64
  | 0 => 0
  | n + 1 => n_iron bl lo n + (bl n).toInt64 * (lo n).toInt64
set_option maxHeartbeats 4000000 in
set_option maxRecDepth 100000 in
theorem m_X11_year (G : z_G) {nb na np g : Nat} {w0 w : z_w} {c : r_c} {l : r_l} {r : r_r} (hX : XR nb na np g w0 c l r w) : z_M G yX11_year cX11_year 3 (some .int) 3 (0) (0) [vr (0, 0)] w (fun q w1 => if c (0, 0) 0 < 100 ∧ ¬ (¬ c (13, 0) 3 = 0 ∨ ¬ c (13, 0) 4 = 0 ∨ ¬ z_sum (c (15, 0)) 12 = 0) then q = some (vi (c (0, 0) 0 + 1)) ∧ ∃ c1, r_p dX (TX nb na np g) w0 (c1) (l) (r) w1 ∧ (∀ k, k < nb → c1 (2, k) = upd (c (2, k)) 0 (if c (2, k) 0 + c (2, k) 1 < 100000 then c (2, k) 0 + c (2, k) 1 else 100000)) ∧ c1 (0, 0) = upd (c (0, 0)) 0 (c (0, 0) 0 + 1) ∧ (∀ t, (∀ k, k < nb → t ≠ (2, k)) → t ≠ (0, 0) → c1 t = c t) else q = some (vi (-1)) ∧ w1 = w) := by
  refine z_met ym_X11_year (by decide) ⟨Nat.le_of_ble_eq_true rfl, Nat.le_of_ble_eq_true rfl⟩ (fun X hG hn hmc hms hin h hr => ?_)
  have he := hr.2.2.2.2.2.1
  obtain ⟨hR, hnb, hna, hnp, hg6, hc2, hc8, hc12, hr1, hr17, hr26⟩ := id hX
  refine z_aload_n h dX11_year_0 rfl ?_
  refine y_geti h dX11_year_1 hR flX11_110 (by first | assumption | exact Nat.le_of_ble_eq_true rfl) (by first | rfl | assumption | exact tx_2 (by first | assumption | omega) | exact tx_18 (by first | assumption | omega) | exact tx_19 (by first | assumption | omega) | exact tx_20 (by first | assumption | omega) | exact tx_27 (by first | assumption | omega) | exact tx_28 (by first | assumption | omega) | exact tx_30 (by first | assumption | omega) | exact tx_31 (by first | assumption | omega) | exact tx_32 (by first | assumption | omega) | exact tx_33 (by first | assumption | omega)) (by rfl) ?_
  refine z_bipush (v := 100) h dX11_year_4 (by decide) ?_
  refine z_icmp_ge h dX11_year_6 19 (by decide) (fun c_1 => ?_) (fun c_1 => ?_)
  · skip
    refine z_iconst (v := -1) h dX11_year_19 (by decide) ?_
    exact z_iret h dX11_year_20 hr (z_f (fun q => by have q1 := q.1; simp only [z_lt, z_le, z_ie] at *; omega) ⟨rfl, rfl⟩)
  · skip
    refine z_aload_n h dX11_year_9 rfl ?_
    refine y_getr h dX11_year_10 hR flX11_39 (by first | assumption | exact Nat.le_of_ble_eq_true rfl) (by first | rfl | assumption | exact tx_2 (by first | assumption | omega) | exact tx_18 (by first | assumption | omega) | exact tx_19 (by first | assumption | omega) | exact tx_20 (by first | assumption | omega) | exact tx_27 (by first | assumption | omega) | exact tx_28 (by first | assumption | omega) | exact tx_30 (by first | assumption | omega) | exact tx_31 (by first | assumption | omega) | exact tx_32 (by first | assumption | omega) | exact tx_33 (by first | assumption | omega)) (by rfl) ?_
    refine z_callV h dX11_year_13 (fun _ _ q => z_okv_no he q) (fun _ _ _ t q => absurd q (he t)) (m_X3_isFilled _ hR) ym_X3_isFilled mlX11_127 im_X3_isFilled (ci := 3) rfl se_X3_isFilled icX3 rfl (r_p.ob hR (by first | assumption | exact Nat.le_of_ble_eq_true rfl) (by first | rfl | assumption | exact tx_2 (by first | assumption | omega) | exact tx_18 (by first | assumption | omega) | exact tx_19 (by first | assumption | omega) | exact tx_20 (by first | assumption | omega) | exact tx_27 (by first | assumption | omega) | exact tx_28 (by first | assumption | omega) | exact tx_30 (by first | assumption | omega) | exact tx_31 (by first | assumption | omega) | exact tx_32 (by first | assumption | omega) | exact tx_33 (by first | assumption | omega))) rfl (by decide) (Nat.le_of_ble_eq_true rfl) ?_
    rintro q1 w1 ⟨rfl, hw1⟩
    have hw1 := hw1.symm; subst hw1
    refine z_if_eq h dX11_year_16 21 (by decide) (fun c_2 => ?_) (fun c_2 => ?_)
    · skip
      refine z_iconst (v := 0) h dX11_year_21 (by decide) ?_
      refine z_istore_n h dX11_year_22 (by rw [hn]; decide) ?_
      have loop_23 : ∀ (n_ : Nat) (i : Nat) (w1 : z_w) (c1 : r_c), i ≤ nb → nb + 1 ≤ i + n_ → r_p dX (TX nb na np g) w0 (c1) (l) (r) w1 → (∀ k, k < i → c1 (2, k) = upd (c (2, k)) 0 (if c (2, k) 0 + c (2, k) 1 < 100000 then c (2, k) 0 + c (2, k) 1 else 100000)) → (∀ t, (∀ k, k < i → t ≠ (2, k)) → c1 t = c t) → z_V X 0 0 w1 23 [(0, vr (0, 0)), (1, vi (nI i))] [] := by
        intro n_
        induction n_ with
        | zero => intros; omega
        | succ n_ ih_23 =>
          intro i w c1 hi hN hR hv1 hv2
          have f00 : c1 (0, 0) = c (0, 0) := hv2 (0, 0) (fun k hk e => by cases e)
          refine z_iload_n h dX11_year_23 rfl ?_
          refine z_aload_n h dX11_year_24 rfl ?_
          refine y_geti h dX11_year_25 hR flX11_87 (by first | assumption | exact Nat.le_of_ble_eq_true rfl) (by first | rfl | assumption | exact tx_2 (by first | assumption | omega) | exact tx_18 (by first | assumption | omega) | exact tx_19 (by first | assumption | omega) | exact tx_20 (by first | assumption | omega) | exact tx_27 (by first | assumption | omega) | exact tx_28 (by first | assumption | omega) | exact tx_30 (by first | assumption | omega) | exact tx_31 (by first | assumption | omega) | exact tx_32 (by first | assumption | omega) | exact tx_33 (by first | assumption | omega)) (by rfl) ?_
          rw [f00, hc2]
          refine z_icmp_ge h dX11_year_28 51 (by decide) (fun c_3 => ?_) (fun c_3 => ?_)
          · skip
            have e1 : nb ≤ i := (nI_leI (by omega) (by omega)).mp c_3
            refine z_aload_n h dX11_year_51 rfl ?_
            refine z_dup_r h dX11_year_52 ?_
            refine y_geti h dX11_year_53 hR flX11_110 (by first | assumption | exact Nat.le_of_ble_eq_true rfl) (by first | rfl | assumption | exact tx_2 (by first | assumption | omega) | exact tx_18 (by first | assumption | omega) | exact tx_19 (by first | assumption | omega) | exact tx_20 (by first | assumption | omega) | exact tx_27 (by first | assumption | omega) | exact tx_28 (by first | assumption | omega) | exact tx_30 (by first | assumption | omega) | exact tx_31 (by first | assumption | omega) | exact tx_32 (by first | assumption | omega) | exact tx_33 (by first | assumption | omega)) (by rfl) ?_
            refine z_iconst (v := 1) h dX11_year_56 (by decide) ?_
            refine z_iadd h dX11_year_57 ?_
            refine y_put h dX11_year_58 he hR flX11_110 rfl (by first | assumption | exact Nat.le_of_ble_eq_true rfl) (by first | rfl | assumption | exact tx_2 (by first | assumption | omega) | exact tx_18 (by first | assumption | omega) | exact tx_19 (by first | assumption | omega) | exact tx_20 (by first | assumption | omega) | exact tx_27 (by first | assumption | omega) | exact tx_28 (by first | assumption | omega) | exact tx_30 (by first | assumption | omega) | exact tx_31 (by first | assumption | omega) | exact tx_32 (by first | assumption | omega) | exact tx_33 (by first | assumption | omega)) (by rfl) (fun w hR => ?_)
            refine z_aload_n h dX11_year_61 rfl ?_
            refine y_geti h dX11_year_62 hR flX11_110 (by first | assumption | exact Nat.le_of_ble_eq_true rfl) (by first | rfl | assumption | exact tx_2 (by first | assumption | omega) | exact tx_18 (by first | assumption | omega) | exact tx_19 (by first | assumption | omega) | exact tx_20 (by first | assumption | omega) | exact tx_27 (by first | assumption | omega) | exact tx_28 (by first | assumption | omega) | exact tx_30 (by first | assumption | omega) | exact tx_31 (by first | assumption | omega) | exact tx_32 (by first | assumption | omega) | exact tx_33 (by first | assumption | omega)) (by rfl) ?_
            exact z_iret h dX11_year_65 hr (z_t ⟨by clear hv1 hv2; simp only [z_lt, z_le, z_ie] at *; omega, z_bf c_2⟩ ⟨by show some (vi (c1 (0, 0) 0 + 1)) = _; rw [f00], _, hR, fun k hk => hv1 k (by omega), by show upd (c1 (0, 0)) 0 (c1 (0, 0) 0 + 1) = _; rw [f00], fun t h1 h2 => by rw [r_cs, r_cf_ne h2]; exact hv2 t (fun k hk => h1 k (by omega))⟩)
          · skip
            have e1 : ¬ nb ≤ i := fun q => c_3 ((nI_leI (by omega) (by omega)).mpr q)
            refine z_aload_n h dX11_year_31 rfl ?_
            refine z_iload_n h dX11_year_32 rfl ?_
            refine z_callV h dX11_year_33 (fun _ _ q => z_okv_no he q) (fun _ _ _ t q => absurd q (he t)) (m_X11_bogAt _ hR (nI i) (by rw [f00]; exact hc2) hnb hr1) ym_X11_bogAt mlX11_99 im_X11_bogAt (ci := 11) rfl se_X11_bogAt icX11 rfl (r_p.ob hR (by first | assumption | exact Nat.le_of_ble_eq_true rfl) (by first | rfl | assumption | exact tx_2 (by first | assumption | omega) | exact tx_18 (by first | assumption | omega) | exact tx_19 (by first | assumption | omega) | exact tx_20 (by first | assumption | omega) | exact tx_27 (by first | assumption | omega) | exact tx_28 (by first | assumption | omega) | exact tx_30 (by first | assumption | omega) | exact tx_31 (by first | assumption | omega) | exact tx_32 (by first | assumption | omega) | exact tx_33 (by first | assumption | omega))) rfl (by decide) (Nat.le_of_ble_eq_true rfl) ?_
            rintro q1 w1 ⟨hw1, hq⟩
            have hw1 := hw1.symm; subst hw1
            rw [if_pos (ix_of (show i < nb by omega) (by omega)), nI_clamp (by omega)] at hq
            subst hq
            refine z_astore_n h dX11_year_36 (by rw [hn]; decide) ?_
            refine z_aload_n h dX11_year_37 rfl ?_
            refine z_ifnull h dX11_year_38 ?_
            refine z_aload_n h dX11_year_41 rfl ?_
            refine z_callV h dX11_year_42 (fun _ _ q => z_okv_no he q) (fun _ _ _ t q => absurd q (he t)) (y_X1_grow _ hR i (by omega)) ym_X1_grow mlX11_131 im_X1_grow (ci := 1) rfl se_X1_grow icX1 rfl (r_p.ob hR (Nat.le_of_ble_eq_true rfl) (tx_2 (by omega))) rfl (by decide) (Nat.le_of_ble_eq_true rfl) ?_
            rintro q1 w ⟨rfl, hR⟩
            refine z_iinc (v := 1) h dX11_year_45 rfl (by decide) (by rw [hn]; decide) ?_
            refine z_goto h dX11_year_48 23 (by decide) ?_
            refine z_loc [(0, vr (0, 0)), (1, vi (nI (i + 1)))] ⟨rfl, congrArg (fun z => some (vi z)) (z_up i), trivial⟩ ?_
            exact ih_23 (i + 1) _ _ (by omega) (by omega) hR (fun k hk => by
              by_cases e : k = i
              · subst e
                rw [r_cs, r_cf_self, hv2 (2, k) (fun j hj e => by cases e; omega)]
              · rw [r_cs, r_cf_ne (fun q => e (by cases q; rfl))]
                exact hv1 k (by omega)) (fun t ht => by
              rw [r_cs, r_cf_ne (ht i (by omega))]
              exact hv2 t (fun k hk => ht k (by omega)))
      exact z_loc [(0, vr (0, 0)), (1, vi 0)] ⟨rfl, rfl, trivial⟩ (loop_23 (nb + 1) 0 _ _ (by omega) (by omega) hR (fun k hk => absurd hk (Nat.not_lt_zero k)) (fun _ _ => rfl))
    · skip
      refine z_iconst (v := -1) h dX11_year_19 (by decide) ?_
      exact z_iret h dX11_year_20 hr (z_f (fun q => q.2 (z_bt c_2)) ⟨rfl, rfl⟩)
set_option maxHeartbeats 4000000 in
set_option maxRecDepth 100000 in
theorem m_X11_forge (G : z_G) {nb na np g : Nat} {w0 w : z_w} {c : r_c} {l : r_l} {r : r_r} (hX : XR nb na np g w0 c l r w) (b n : Int32) : z_M G yX11_forge cX11_forge 5 (some .int) 3 (0) (0) [vr (0, 0), vi b, vi n] w (fun q w1 => if ix_ok b na ∧ (1 ≤ n ∧ n ≤ 9) ∧ c (18, b.toNatClampNeg) 6 + n ≤ 9 then q = some (vi (if 0 < c (18, b.toNatClampNeg) 2 - (c (18, b.toNatClampNeg) 6 + n) / 2 then c (18, b.toNatClampNeg) 2 - (c (18, b.toNatClampNeg) 6 + n) / 2 else 0)) ∧ r_p dX (TX nb na np g) w0 (r_cf c (18, b.toNatClampNeg) (upd (upd (upd (c (18, b.toNatClampNeg)) 4 (g_le n.toNatClampNeg (c (18, b.toNatClampNeg) 4))) 5 (g_gr n.toNatClampNeg (c (18, b.toNatClampNeg) 5))) 6 (c (18, b.toNatClampNeg) 6 + nI n.toNatClampNeg))) (l) (r) w1 else q = some (vi (-1)) ∧ w1 = w) := by
  refine z_met ym_X11_forge (by decide) ⟨Nat.le_of_ble_eq_true rfl, Nat.le_of_ble_eq_true rfl⟩ (fun X hG hn hmc hms hin h hr => ?_)
  have he := hr.2.2.2.2.2.1
  obtain ⟨hR, hnb, hna, hnp, hg6, hc2, hc8, hc12, hr1, hr17, hr26⟩ := id hX
  refine z_aload_n h dX11_forge_0 rfl ?_
  refine z_iload_n h dX11_forge_1 rfl ?_
  refine z_callV h dX11_forge_2 (fun _ _ q => z_okv_no he q) (fun _ _ _ t q => absurd q (he t)) (m_X11_barAt _ hR b hc8 hna hr17) ym_X11_barAt mlX11_258 im_X11_barAt (ci := 11) rfl se_X11_barAt icX11 rfl (r_p.ob hR (by first | assumption | exact Nat.le_of_ble_eq_true rfl) (by first | rfl | assumption | exact tx_2 (by first | assumption | omega) | exact tx_18 (by first | assumption | omega) | exact tx_19 (by first | assumption | omega) | exact tx_20 (by first | assumption | omega) | exact tx_27 (by first | assumption | omega) | exact tx_28 (by first | assumption | omega) | exact tx_30 (by first | assumption | omega) | exact tx_31 (by first | assumption | omega) | exact tx_32 (by first | assumption | omega) | exact tx_33 (by first | assumption | omega))) rfl (by decide) (Nat.le_of_ble_eq_true rfl) ?_
  rintro r w1 ⟨hw1, hq⟩
  have hw1 := hw1.symm; subst hw1
  by_cases hix : ix_ok b na
  · skip
    rw [if_pos hix] at hq; subst hq
    refine z_astore_n h dX11_forge_5 (by rw [hn]; decide) ?_
    refine z_aload_n h dX11_forge_6 rfl ?_
    refine z_ifnull h dX11_forge_7 ?_
    refine z_iload_n h dX11_forge_10 rfl ?_
    refine z_iconst (v := 1) h dX11_forge_11 (by decide) ?_
    refine z_bipush (v := 9) h dX11_forge_12 (by decide) ?_
    refine z_callS h dX11_forge_14 (fun _ _ q => z_okv_no he q) (fun _ _ _ t q => absurd q (he t)) (m_X11_within _ _ _ _ _) ym_X11_within mlX11_92 sm_X11_within rfl (by decide) (Nat.le_of_ble_eq_true rfl) ?_
    rintro q1 w1 ⟨rfl, hw1⟩
    have hw1 := hw1.symm; subst hw1
    refine z_if_eq h dX11_forge_17 31 (by decide) (fun c_1 => ?_) (fun c_1 => ?_)
    · skip
      refine z_iconst (v := -1) h dX11_forge_31 (by decide) ?_
      exact z_iret h dX11_forge_32 hr (z_f (fun q => z_bf c_1 q.2.1) ⟨rfl, rfl⟩)
    · skip
      refine z_aload_n h dX11_forge_20 rfl ?_
      refine y_geti h dX11_forge_21 hR flX11_262 (by first | assumption | exact Nat.le_of_ble_eq_true rfl) (tx_18 (ix_lt hix (by omega))) (by rfl) ?_
      refine z_iload_n h dX11_forge_24 rfl ?_
      refine z_iadd h dX11_forge_25 ?_
      refine z_bipush (v := 9) h dX11_forge_26 (by decide) ?_
      refine z_icmp_le h dX11_forge_28 33 (by decide) (fun c_2 => ?_) (fun c_2 => ?_)
      · skip
        have hn1 := z_bt c_1
        obtain ⟨hnn, -, hn9⟩ := z_rng 1 9 hn1 (by decide) (by decide)
        generalize hN0 : n.toNatClampNeg = N at *
        have hR0 : r_p dX (TX nb na np g) w0 (r_cf c (18, b.toNatClampNeg) (upd (upd (upd (c (18, b.toNatClampNeg)) 4 (g_le 0 (c (18, b.toNatClampNeg) 4))) 5 (g_gr 0 (c (18, b.toNatClampNeg) 5))) 6 (c (18, b.toNatClampNeg) 6 + nI 0))) (l) (r) w := by
          have e : (upd (upd (upd (c (18, b.toNatClampNeg)) 4 (g_le 0 (c (18, b.toNatClampNeg) 4))) 5 (g_gr 0 (c (18, b.toNatClampNeg) 5))) 6 (c (18, b.toNatClampNeg) 6 + nI 0)) = c (18, b.toNatClampNeg) := by
            show upd (upd (upd (c (18, b.toNatClampNeg)) 4 (c (18, b.toNatClampNeg) 4)) 5 (c (18, b.toNatClampNeg) 5)) 6 (c (18, b.toNatClampNeg) 6 + nI 0) = _
            rw [show nI 0 = 0 from rfl, Int32.add_zero, upd_same, upd_same, upd_same]
          rw [e, r_cf_same]
          exact hR
        refine z_iconst (v := 0) h dX11_forge_33 (by decide) ?_
        refine z_istore h dX11_forge_34 (by rw [hn]; decide) ?_
        have loop_36 : ∀ (n_ : Nat) (i : Nat) (w1 : z_w), i ≤ N → N + 1 ≤ i + n_ → r_p dX (TX nb na np g) w0 (r_cf c (18, b.toNatClampNeg) (upd (upd (upd (c (18, b.toNatClampNeg)) 4 (g_le i (c (18, b.toNatClampNeg) 4))) 5 (g_gr i (c (18, b.toNatClampNeg) 5))) 6 (c (18, b.toNatClampNeg) 6 + nI i))) (l) (r) w1 → z_V X 0 0 w1 36 [(0, vr (0, 0)), (2, vi n), (3, vr (18, b.toNatClampNeg)), (4, vi (nI i))] [] := by
          intro n_
          induction n_ with
          | zero => intros; omega
          | succ n_ ih_36 =>
            intro i w hi hN hR
            refine z_iload h dX11_forge_36 rfl ?_
            refine z_iload_n h dX11_forge_38 rfl ?_
            refine z_toe (y := nI N) hnn ?_
            refine z_icmp_ge h dX11_forge_39 52 (by decide) (fun c_3 => ?_) (fun c_3 => ?_)
            · skip
              have e1 : N ≤ i := (nI_leI (by omega) (by omega)).mp c_3
              refine z_aload_n h dX11_forge_52 rfl ?_
              refine z_callV h dX11_forge_53 (fun _ _ q => z_okv_no he q) (fun _ _ _ t q => absurd q (he t)) (y_X0_sortNow _ hR b.toNatClampNeg (ix_lt hix (by omega))) ym_X0_sortNow mlX11_268 im_X0_sortNow (ci := 0) rfl se_X0_sortNow icX0 rfl (r_p.ob hR (Nat.le_of_ble_eq_true rfl) (tx_18 (ix_lt hix (by omega)))) rfl (by decide) (Nat.le_of_ble_eq_true rfl) ?_
              rintro q1 w1 ⟨rfl, hw1⟩
              have hw1 := hw1.symm; subst hw1
              exact z_iret h dX11_forge_56 hr (z_t ⟨hix, z_bt c_1, c_2⟩ ⟨by
            have e : i = N := by omega
            subst e
            rw [r_cf_self]
            show some (vi (if 0 < c (18, b.toNatClampNeg) 2 - (c (18, b.toNatClampNeg) 6 + nI i) / 2 then c (18, b.toNatClampNeg) 2 - (c (18, b.toNatClampNeg) 6 + nI i) / 2 else 0)) = _
            rw [← hnn], by rw [show N = i by omega]; exact hR⟩)
            · skip
              have e1 : ¬ N ≤ i := fun q => c_3 ((nI_leI (by omega) (by omega)).mpr q)
              refine z_aload_n h dX11_forge_42 rfl ?_
              refine z_callV h dX11_forge_43 (fun _ _ q => z_okv_no he q) (fun _ _ _ t q => absurd q (he t)) (y_X0_heatOnce _ hR b.toNatClampNeg (ix_lt hix (by omega))) ym_X0_heatOnce mlX11_265 im_X0_heatOnce (ci := 0) rfl se_X0_heatOnce icX0 rfl (r_p.ob hR (Nat.le_of_ble_eq_true rfl) (tx_18 (ix_lt hix (by omega)))) rfl (by decide) (Nat.le_of_ble_eq_true rfl) ?_
              rintro q1 w ⟨rfl, hR⟩
              refine z_iinc (v := 1) h dX11_forge_46 rfl (by decide) (by rw [hn]; decide) ?_
              refine z_goto h dX11_forge_49 36 (by decide) ?_
              refine z_loc [(0, vr (0, 0)), (2, vi n), (3, vr (18, b.toNatClampNeg)), (4, vi (nI (i + 1)))] ⟨rfl, rfl, rfl, congrArg (fun z => some (vi z)) (z_up i), trivial⟩ ?_
              simp only [r_cs, r_cf_self, r_cf_cf] at hR
              have e : upd (upd (upd (upd (upd (upd (c (18, b.toNatClampNeg)) 4 (g_le i (c (18, b.toNatClampNeg) 4))) 5 (g_gr i (c (18, b.toNatClampNeg) 5))) 6 (c (18, b.toNatClampNeg) 6 + nI i)) 4 (((upd (upd (upd (c (18, b.toNatClampNeg)) 4 (g_le i (c (18, b.toNatClampNeg) 4))) 5 (g_gr i (c (18, b.toNatClampNeg) 5))) 6 (c (18, b.toNatClampNeg) 6 + nI i)) 4).toInt64 * 97 / 100).toInt32) 5 ((((upd (upd (upd (c (18, b.toNatClampNeg)) 4 (g_le i (c (18, b.toNatClampNeg) 4))) 5 (g_gr i (c (18, b.toNatClampNeg) 5))) 6 (c (18, b.toNatClampNeg) 6 + nI i)) 5).toInt64 * 99 + 99) / 100).toInt32) 6 ((upd (upd (upd (c (18, b.toNatClampNeg)) 4 (g_le i (c (18, b.toNatClampNeg) 4))) 5 (g_gr i (c (18, b.toNatClampNeg) 5))) 6 (c (18, b.toNatClampNeg) 6 + nI i)) 6 + 1) = upd (upd (upd (c (18, b.toNatClampNeg)) 4 (g_le (i + 1) (c (18, b.toNatClampNeg) 4))) 5 (g_gr (i + 1) (c (18, b.toNatClampNeg) 5))) 6 (c (18, b.toNatClampNeg) 6 + nI (i + 1)) := by
                have a4 : (upd (upd (upd (c (18, b.toNatClampNeg)) 4 (g_le i (c (18, b.toNatClampNeg) 4))) 5 (g_gr i (c (18, b.toNatClampNeg) 5))) 6 (c (18, b.toNatClampNeg) 6 + nI i)) 4 = g_le i (c (18, b.toNatClampNeg) 4) := rfl
                have a5 : (upd (upd (upd (c (18, b.toNatClampNeg)) 4 (g_le i (c (18, b.toNatClampNeg) 4))) 5 (g_gr i (c (18, b.toNatClampNeg) 5))) 6 (c (18, b.toNatClampNeg) 6 + nI i)) 5 = g_gr i (c (18, b.toNatClampNeg) 5) := rfl
                have a6 : (upd (upd (upd (c (18, b.toNatClampNeg)) 4 (g_le i (c (18, b.toNatClampNeg) 4))) 5 (g_gr i (c (18, b.toNatClampNeg) 5))) 6 (c (18, b.toNatClampNeg) 6 + nI i)) 6 = c (18, b.toNatClampNeg) 6 + nI i := rfl
                rw [a4, a5, a6, Int32.add_assoc, z_up]
                funext k
                by_cases k6 : k = 6
                · subst k6; rw [pk_us, pk_us]
                · rw [pk_un k6, pk_un k6]
                  by_cases k5 : k = 5
                  · subst k5; rw [pk_us, pk_us]; rfl
                  · rw [pk_un k5, pk_un k5]
                    by_cases k4 : k = 4
                    · subst k4; rw [pk_us, pk_us]; rfl
                    · rw [pk_un k4, pk_un k4, pk_un k6, pk_un k5, pk_un k4]
              rw [e] at hR
              exact ih_36 (i + 1) _ (by omega) (by omega) hR
        exact z_loc [(0, vr (0, 0)), (2, vi n), (3, vr (18, b.toNatClampNeg)), (4, vi 0)] ⟨rfl, rfl, rfl, rfl, trivial⟩ (loop_36 (N + 1) 0 _ (by omega) (by omega) hR0)
      · skip
        refine z_iconst (v := -1) h dX11_forge_31 (by decide) ?_
        exact z_iret h dX11_forge_32 hr (z_f (fun q => c_2 q.2.2) ⟨rfl, rfl⟩)
  · skip
    rw [if_neg hix] at hq; subst hq
    refine z_astore_nN h dX11_forge_5 (by rw [hn]; decide) ?_
    refine z_aload_nN h dX11_forge_6 rfl ?_
    refine z_ifnullN h dX11_forge_7 31 (by decide) ?_
    refine z_iconst (v := -1) h dX11_forge_31 (by decide) ?_
    exact z_iret h dX11_forge_32 hr (z_f (fun q => hix q.1) ⟨rfl, rfl⟩)
