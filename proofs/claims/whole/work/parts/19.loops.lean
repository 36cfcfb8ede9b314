/-! the class: its public methods with loops -/
/-- a minute, as a step on (ore, bloom, ints) -/
abbrev f_S : Type := (Nat → Nat) × ((Nat → Nat) × (Nat → Int32))
def f_s (nc : Nat) (le si nu ai : Nat → Int32) (ch : Nat → Nat) (s : f_S) : f_S :=
  (f_ra (f_k (f_bn (f_air nc le si nu ai s.1 ch s.2.2) (s.2.2 12) (f_cl s.2.2 ch)) (f_h (s.2.2 6) (f_bn (f_air nc le si nu ai s.1 ch s.2.2) (s.2.2 12) (f_cl s.2.2 ch))) s.1) s.1,
   f_bl (f_k (f_bn (f_air nc le si nu ai s.1 ch s.2.2) (s.2.2 12) (f_cl s.2.2 ch)) (f_h (s.2.2 6) (f_bn (f_air nc le si nu ai s.1 ch s.2.2) (s.2.2 12) (f_cl s.2.2 ch))) s.1) s.1 s.2.1,
   f_u (f_air nc le si nu ai s.1 ch s.2.2) (f_bn (f_air nc le si nu ai s.1 ch s.2.2) (s.2.2 12) (f_cl s.2.2 ch)) (f_h (s.2.2 6) (f_bn (f_air nc le si nu ai s.1 ch s.2.2) (s.2.2 12) (f_cl s.2.2 ch))) s.2.2)
def f_n (nc : Nat) (le si nu ai : Nat → Int32) (ch : Nat → Nat) (s : f_S) : Nat → f_S
  | 0 => s
  | n + 1 => f_s nc le si nu ai ch (f_n nc le si nu ai ch s n)
theorem f_n_gap {nc : Nat} {le si nu ai : Nat → Int32} {ch : Nat → Nat} {s : f_S} : ∀ n, (f_n nc le si nu ai ch s n).2.2 13 = s.2.2 13 ∧ (f_n nc le si nu ai ch s n).2.2 12 = s.2.2 12
  | 0 => ⟨rfl, rfl⟩
  | n + 1 => f_n_gap n
theorem f_n_ore {nc : Nat} {le si nu ai : Nat → Int32} {ch : Nat → Nat} {s : f_S} : ∀ n, p_sm (f_n nc le si nu ai ch s n).1 12 ≤ p_sm s.1 12
  | 0 => Nat.le_refl _
  | n + 1 => by
    have h := f_n_ore (nc := nc) (le := le) (si := si) (nu := nu) (ai := ai) (ch := ch) (s := s) n
    show p_sm (f_ra _ _) 12 ≤ _
    rw [f_ra_sum _ (f_k_le _ _ _).1]
    omega
def g_le : Nat → Int32 → Int32
  | 0, x => x
  | n + 1, x => ((g_le n x).toInt64 * 97 / 100).toInt32
def g_gr : Nat → Int32 → Int32
  | 0, x => x
  | n + 1, x => (((g_gr n x).toInt64 * 99 + 99) / 100).toInt32
def n_iron (bl lo : Nat → Int32) : Nat → Int64
  | 0 => 0
  | n + 1 => n_iron bl lo n + (bl n).toInt64 * (lo n).toInt64
set_option maxHeartbeats 4000000 in
set_option maxRecDepth 100000 in
theorem m_X11_year (G : z_G) {nb na np g : Nat} {w0 w : z_w} {c : r_c} {l : r_l} {r : r_r} (hX : XR nb na np g w0 c l r w) : z_M G yX11_year cX11_year 3 (some .int) 3 (0) (0) [vr (0, 0)] w (fun q w1 => if c (0, 0) 0 < 100 ∧ ¬ (¬ c (13, 0) 3 = 0 ∨ ¬ c (13, 0) 4 = 0 ∨ ¬ z_sum (c (15, 0)) 12 = 0) then q = some (vi (c (0, 0) 0 + 1)) ∧ ∃ c1, r_p dX (TX nb na np g) w0 (c1) (l) (r) w1 ∧ (∀ k, k < nb → c1 (2, k) = upd (c (2, k)) 0 (if c (2, k) 0 + c (2, k) 1 < 100000 then c (2, k) 0 + c (2, k) 1 else 100000)) ∧ c1 (0, 0) = upd (c (0, 0)) 0 (c (0, 0) 0 + 1) ∧ (∀ t, (∀ k, k < nb → t ≠ (2, k)) → t ≠ (0, 0) → c1 t = c t) else q = some (vi (-1)) ∧ w1 = w) := by
  refine z_met ym_X11_year (by decide) ⟨Nat.le_of_ble_eq_true rfl, Nat.le_of_ble_eq_true rfl⟩ (fun X hG hn hmc hms hin h hr => ?_)
  have he := hr.2.2.2.2.2.1
  obtain ⟨hR, hnb, hna, hnp, hg6, hc2, hc8, hc12, hr1, hr17, hr26⟩ := id hX
  refine z_aload_n h dX11_year_0 rfl ?_
  refine y_geti h dX11_year_1 hR flX11_110 (by first | assumption | exact Nat.le_of_ble_eq_true rfl) (by first | rfl | assumption | exact tx_2 (by first | assumption | omega) | exact tx_18 (by first | assumption | omega) | exact tx_19 (by first | assumption | omega) | exact tx_20 (by first | assumption | omega) | exact tx_27 (by first | assumption | omega) | exact tx_28 (by first | assumption | omega) | exact tx_30 (by first | assumption | omega) | exact tx_31 (by first | assumption | omega) | exact tx_32 (by first | assumption | omega) | exact tx_33 (by first | assumption | omega)) (by rfl) ?_
  refine z_bipush (v := 100) h dX11_year_4 (by decide) ?_
  refine z_icmp_ge h dX11_year_6 19 (by decide) (fun c_1 => ?_) (fun c_1 => ?_)
  · skip
    refine z_iconst (v := -1) h dX11_year_19 (by decide) ?_
    exact z_iret h dX11_year_20 hr (z_f (fun q => by have q1 := q.1; simp only [z_lt, z_le, z_ie] at *; omega) ⟨rfl, rfl⟩)
  · skip
    refine z_aload_n h dX11_year_9 rfl ?_
    refine y_getr h dX11_year_10 hR flX11_39 (by first | assumption | exact Nat.le_of_ble_eq_true rfl) (by first | rfl | assumption | exact tx_2 (by first | assumption | omega) | exact tx_18 (by first | assumption | omega) | exact tx_19 (by first | assumption | omega) | exact tx_20 (by first | assumption | omega) | exact tx_27 (by first | assumption | omega) | exact tx_28 (by first | assumption | omega) | exact tx_30 (by first | assumption | omega) | exact tx_31 (by first | assumption | omega) | exact tx_32 (by first | assumption | omega) | exact tx_33 (by first | assumption | omega)) (by rfl) ?_
    refine z_callV h dX11_year_13 (fun _ _ q => z_okv_no he q) (fun _ _ _ t q => absurd q (he t)) (m_X3_isFilled _ hR) ym_X3_isFilled mlX11_127 im_X3_isFilled (ci := 3) rfl se_X3_isFilled icX3 rfl (r_p.ob hR (by first | assumption | exact Nat.le_of_ble_eq_true rfl) (by first | rfl | assumption | exact tx_2 (by first | assumption | omega) | exact tx_18 (by first | assumption | omega) | exact tx_19 (by first | assumption | omega) | exact tx_20 (by first | assumption | omega) | exact tx_27 (by first | assumption | omega) | exact tx_28 (by first | assumption | omega) | exact tx_30 (by first | assumption | omega) | exact tx_31 (by first | assumption | omega) | exact tx_32 (by first | assumption | omega) | exact tx_33 (by first | assumption | omega))) rfl (by decide) (Nat.le_of_ble_eq_true rfl) ?_
    rintro q1 w1 ⟨rfl, hw1⟩
    have hw1 := hw1.symm; subst hw1
    refine z_if_eq h dX11_year_16 21 (by decide) (fun c_2 => ?_) (fun c_2 => ?_)
    · skip
      refine z_iconst (v := 0) h dX11_year_21 (by decide) ?_
      refine z_istore_n h dX11_year_22 (by rw [hn]; decide) ?_
      have loop_23 : ∀ (n_ : Nat) (i : Nat) (w1 : z_w) (c1 : r_c), i ≤ nb → nb + 1 ≤ i + n_ → r_p dX (TX nb na np g) w0 (c1) (l) (r) w1 → (∀ k, k < i → c1 (2, k) = upd (c (2, k)) 0 (if c (2, k) 0 + c (2, k) 1 < 100000 then c (2, k) 0 + c (2, k) 1 else 100000)) → (∀ t, (∀ k, k < i → t ≠ (2, k)) → c1 t = c t) → z_V X 0 0 w1 23 [(0, vr (0, 0)), (1, vi (nI i))] [] := by
        intro n_
        induction n_ with
        | zero => intros; omega
        | succ n_ ih_23 =>
          intro i w c1 hi hN hR hv1 hv2
          have f00 : c1 (0, 0) = c (0, 0) := hv2 (0, 0) (fun k hk e => by cases e)
          refine z_iload_n h dX11_year_23 rfl ?_
          refine z_aload_n h dX11_year_24 rfl ?_
          refine y_geti h dX11_year_25 hR flX11_87 (by first | assumption | exact Nat.le_of_ble_eq_true rfl) (by first | rfl | assumption | exact tx_2 (by first | assumption | omega) | exact tx_18 (by first | assumption | omega) | exact tx_19 (by first | assumption | omega) | exact tx_20 (by first | assumption | omega) | exact tx_27 (by first | assumption | omega) | exact tx_28 (by first | assumption | omega) | exact tx_30 (by first | assumption | omega) | exact tx_31 (by first | assumption | omega) | exact tx_32 (by first | assumption | omega) | exact tx_33 (by first | assumption | omega)) (by rfl) ?_
          rw [f00, hc2]
          refine z_icmp_ge h dX11_year_28 51 (by decide) (fun c_3 => ?_) (fun c_3 => ?_)
          · skip
            have e1 : nb ≤ i := (nI_leI (by omega) (by omega)).mp c_3
            refine z_aload_n h dX11_year_51 rfl ?_
            refine z_dup_r h dX11_year_52 ?_
            refine y_geti h dX11_year_53 hR flX11_110 (by first | assumption | exact Nat.le_of_ble_eq_true rfl) (by first | rfl | assumption | exact tx_2 (by first | assumption | omega) | exact tx_18 (by first | assumption | omega) | exact tx_19 (by first | assumption | omega) | exact tx_20 (by first | assumption | omega) | exact tx_27 (by first | assumption | omega) | exact tx_28 (by first | assumption | omega) | exact tx_30 (by first | assumption | omega) | exact tx_31 (by first | assumption | omega) | exact tx_32 (by first | assumption | omega) | exact tx_33 (by first | assumption | omega)) (by rfl) ?_
            refine z_iconst (v := 1) h dX11_year_56 (by decide) ?_
            refine z_iadd h dX11_year_57 ?_
            refine y_put h dX11_year_58 he hR flX11_110 rfl (by first | assumption | exact Nat.le_of_ble_eq_true rfl) (by first | rfl | assumption | exact tx_2 (by first | assumption | omega) | exact tx_18 (by first | assumption | omega) | exact tx_19 (by first | assumption | omega) | exact tx_20 (by first | assumption | omega) | exact tx_27 (by first | assumption | omega) | exact tx_28 (by first | assumption | omega) | exact tx_30 (by first | assumption | omega) | exact tx_31 (by first | assumption | omega) | exact tx_32 (by first | assumption | omega) | exact tx_33 (by first | assumption | omega)) (by rfl) (fun w hR => ?_)
            refine z_aload_n h dX11_year_61 rfl ?_
            refine y_geti h dX11_year_62 hR flX11_110 (by first | assumption | exact Nat.le_of_ble_eq_true rfl) (by first | rfl | assumption | exact tx_2 (by first | assumption | omega) | exact tx_18 (by first | assumption | omega) | exact tx_19 (by first | assumption | omega) | exact tx_20 (by first | assumption | omega) | exact tx_27 (by first | assumption | omega) | exact tx_28 (by first | assumption | omega) | exact tx_30 (by first | assumption | omega) | exact tx_31 (by first | assumption | omega) | exact tx_32 (by first | assumption | omega) | exact tx_33 (by first | assumption | omega)) (by rfl) ?_
            exact z_iret h dX11_year_65 hr (z_t ⟨by clear hv1 hv2; simp only [z_lt, z_le, z_ie] at *; omega, z_bf c_2⟩ ⟨by show some (vi (c1 (0, 0) 0 + 1)) = _; rw [f00], _, hR, fun k hk => hv1 k (by omega), by show upd (c1 (0, 0)) 0 (c1 (0, 0) 0 + 1) = _; rw [f00], fun t h1 h2 => by rw [r_cs, r_cf_ne h2]; exact hv2 t (fun k hk => h1 k (by omega))⟩)
          · skip
            have e1 : ¬ nb ≤ i := fun q => c_3 ((nI_leI (by omega) (by omega)).mpr q)
            refine z_aload_n h dX11_year_31 rfl ?_
            refine z_iload_n h dX11_year_32 rfl ?_
            refine z_callV h dX11_year_33 (fun _ _ q => z_okv_no he q) (fun _ _ _ t q => absurd q (he t)) (m_X11_bogAt _ hR (nI i) (by rw [f00]; exact hc2) hnb hr1) ym_X11_bogAt mlX11_99 im_X11_bogAt (ci := 11) rfl se_X11_bogAt icX11 rfl (r_p.ob hR (by first | assumption | exact Nat.le_of_ble_eq_true rfl) (by first | rfl | assumption | exact tx_2 (by first | assumption | omega) | exact tx_18 (by first | assumption | omega) | exact tx_19 (by first | assumption | omega) | exact tx_20 (by first | assumption | omega) | exact tx_27 (by first | assumption | omega) | exact tx_28 (by first | assumption | omega) | exact tx_30 (by first | assumption | omega) | exact tx_31 (by first | assumption | omega) | exact tx_32 (by first | assumption | omega) | exact tx_33 (by first | assumption | omega))) rfl (by decide) (Nat.le_of_ble_eq_true rfl) ?_
            rintro q1 w1 ⟨hw1, hq⟩
            have hw1 := hw1.symm; subst hw1
            rw [if_pos (ix_of (show i < nb by omega) (by omega)), nI_clamp (by omega)] at hq
            subst hq
            refine z_astore_n h dX11_year_36 (by rw [hn]; decide) ?_
            refine z_aload_n h dX11_year_37 rfl ?_
            refine z_ifnull h dX11_year_38 ?_
            refine z_aload_n h dX11_year_41 rfl ?_
            refine z_callV h dX11_year_42 (fun _ _ q => z_okv_no he q) (fun _ _ _ t q => absurd q (he t)) (y_X1_grow _ hR i (by omega)) ym_X1_grow mlX11_131 im_X1_grow (ci := 1) rfl se_X1_grow icX1 rfl (r_p.ob hR (Nat.le_of_ble_eq_true rfl) (tx_2 (by omega))) rfl (by decide) (Nat.le_of_ble_eq_true rfl) ?_
            rintro q1 w ⟨rfl, hR⟩
            refine z_iinc (v := 1) h dX11_year_45 rfl (by decide) (by rw [hn]; decide) ?_
            refine z_goto h dX11_year_48 23 (by decide) ?_
            refine z_loc [(0, vr (0, 0)), (1, vi (nI (i + 1)))] ⟨rfl, congrArg (fun z => some (vi z)) (z_up i), trivial⟩ ?_
            exact ih_23 (i + 1) _ _ (by omega) (by omega) hR (fun k hk => by
              by_cases e : k = i
              · subst e
                rw [r_cs, r_cf_self, hv2 (2, k) (fun j hj e => by cases e; omega)]
              · rw [r_cs, r_cf_ne (fun q => e (by cases q; rfl))]
                exact hv1 k (by omega)) (fun t ht => by
              rw [r_cs, r_cf_ne (ht i (by omega))]
              exact hv2 t (fun k hk => ht k (by omega)))
      exact z_loc [(0, vr (0, 0)), (1, vi 0)] ⟨rfl, rfl, trivial⟩ (loop_23 (nb + 1) 0 _ _ (by omega) (by omega) hR (fun k hk => absurd hk (Nat.not_lt_zero k)) (fun _ _ => rfl))
    · skip
      refine z_iconst (v := -1) h dX11_year_19 (by decide) ?_
      exact z_iret h dX11_year_20 hr (z_f (fun q => q.2 (z_bt c_2)) ⟨rfl, rfl⟩)
set_option maxHeartbeats 4000000 in
set_option maxRecDepth 100000 in
theorem m_X11_forge (G : z_G) {nb na np g : Nat} {w0 w : z_w} {c : r_c} {l : r_l} {r : r_r} (hX : XR nb na np g w0 c l r w) (b n : Int32) : z_M G yX11_forge cX11_forge 5 (some .int) 3 (0) (0) [vr (0, 0), vi b, vi n] w (fun q w1 => if ix_ok b na ∧ (1 ≤ n ∧ n ≤ 9) ∧ c (18, b.toNatClampNeg) 6 + n ≤ 9 then q = some (vi (if 0 < c (18, b.toNatClampNeg) 2 - (c (18, b.toNatClampNeg) 6 + n) / 2 then c (18, b.toNatClampNeg) 2 - (c (18, b.toNatClampNeg) 6 + n) / 2 else 0)) ∧ r_p dX (TX nb na np g) w0 (r_cf c (18, b.toNatClampNeg) (upd (upd (upd (c (18, b.toNatClampNeg)) 4 (g_le n.toNatClampNeg (c (18, b.toNatClampNeg) 4))) 5 (g_gr n.toNatClampNeg (c (18, b.toNatClampNeg) 5))) 6 (c (18, b.toNatClampNeg) 6 + nI n.toNatClampNeg))) (l) (r) w1 else q = some (vi (-1)) ∧ w1 = w) := by
  refine z_met ym_X11_forge (by decide) ⟨Nat.le_of_ble_eq_true rfl, Nat.le_of_ble_eq_true rfl⟩ (fun X hG hn hmc hms hin h hr => ?_)
  have he := hr.2.2.2.2.2.1
  obtain ⟨hR, hnb, hna, hnp, hg6, hc2, hc8, hc12, hr1, hr17, hr26⟩ := id hX
  refine z_aload_n h dX11_forge_0 rfl ?_
  refine z_iload_n h dX11_forge_1 rfl ?_
  refine z_callV h dX11_forge_2 (fun _ _ q => z_okv_no he q) (fun _ _ _ t q => absurd q (he t)) (m_X11_barAt _ hR b hc8 hna hr17) ym_X11_barAt mlX11_258 im_X11_barAt (ci := 11) rfl se_X11_barAt icX11 rfl (r_p.ob hR (by first | assumption | exact Nat.le_of_ble_eq_true rfl) (by first | rfl | assumption | exact tx_2 (by first | assumption | omega) | exact tx_18 (by first | assumption | omega) | exact tx_19 (by first | assumption | omega) | exact tx_20 (by first | assumption | omega) | exact tx_27 (by first | assumption | omega) | exact tx_28 (by first | assumption | omega) | exact tx_30 (by first | assumption | omega) | exact tx_31 (by first | assumption | omega) | exact tx_32 (by first | assumption | omega) | exact tx_33 (by first | assumption | omega))) rfl (by decide) (Nat.le_of_ble_eq_true rfl) ?_
  rintro r w1 ⟨hw1, hq⟩
  have hw1 := hw1.symm; subst hw1
  by_cases hix : ix_ok b na
  · skip
    rw [if_pos hix] at hq; subst hq
    refine z_astore_n h dX11_forge_5 (by rw [hn]; decide) ?_
    refine z_aload_n h dX11_forge_6 rfl ?_
    refine z_ifnull h dX11_forge_7 ?_
    refine z_iload_n h dX11_forge_10 rfl ?_
    refine z_iconst (v := 1) h dX11_forge_11 (by decide) ?_
    refine z_bipush (v := 9) h dX11_forge_12 (by decide) ?_
    refine z_callS h dX11_forge_14 (fun _ _ q => z_okv_no he q) (fun _ _ _ t q => absurd q (he t)) (m_X11_within _ _ _ _ _) ym_X11_within mlX11_92 sm_X11_within rfl (by decide) (Nat.le_of_ble_eq_true rfl) ?_
    rintro q1 w1 ⟨rfl, hw1⟩
    have hw1 := hw1.symm; subst hw1
    refine z_if_eq h dX11_forge_17 31 (by decide) (fun c_1 => ?_) (fun c_1 => ?_)
    · skip
      refine z_iconst (v := -1) h dX11_forge_31 (by decide) ?_
      exact z_iret h dX11_forge_32 hr (z_f (fun q => z_bf c_1 q.2.1) ⟨rfl, rfl⟩)
    · skip
      refine z_aload_n h dX11_forge_20 rfl ?_
      refine y_geti h dX11_forge_21 hR flX11_262 (by first | assumption | exact Nat.le_of_ble_eq_true rfl) (tx_18 (ix_lt hix (by omega))) (by rfl) ?_
      refine z_iload_n h dX11_forge_24 rfl ?_
      refine z_iadd h dX11_forge_25 ?_
      refine z_bipush (v := 9) h dX11_forge_26 (by decide) ?_
      refine z_icmp_le h dX11_forge_28 33 (by decide) (fun c_2 => ?_) (fun c_2 => ?_)
      · skip
        have hn1 := z_bt c_1
        obtain ⟨hnn, -, hn9⟩ := z_rng 1 9 hn1 (by decide) (by decide)
        generalize hN0 : n.toNatClampNeg = N at *
        have hR0 : r_p dX (TX nb na np g) w0 (r_cf c (18, b.toNatClampNeg) (upd (upd (upd (c (18, b.toNatClampNeg)) 4 (g_le 0 (c (18, b.toNatClampNeg) 4))) 5 (g_gr 0 (c (18, b.toNatClampNeg) 5))) 6 (c (18, b.toNatClampNeg) 6 + nI 0))) (l) (r) w := by
          have e : (upd (upd (upd (c (18, b.toNatClampNeg)) 4 (g_le 0 (c (18, b.toNatClampNeg) 4))) 5 (g_gr 0 (c (18, b.toNatClampNeg) 5))) 6 (c (18, b.toNatClampNeg) 6 + nI 0)) = c (18, b.toNatClampNeg) := by
            show upd (upd (upd (c (18, b.toNatClampNeg)) 4 (c (18, b.toNatClampNeg) 4)) 5 (c (18, b.toNatClampNeg) 5)) 6 (c (18, b.toNatClampNeg) 6 + nI 0) = _
            rw [show nI 0 = 0 from rfl, Int32.add_zero, upd_same, upd_same, upd_same]
          rw [e, r_cf_same]
          exact hR
        refine z_iconst (v := 0) h dX11_forge_33 (by decide) ?_
        refine z_istore h dX11_forge_34 (by rw [hn]; decide) ?_
        have loop_36 : ∀ (n_ : Nat) (i : Nat) (w1 : z_w), i ≤ N → N + 1 ≤ i + n_ → r_p dX (TX nb na np g) w0 (r_cf c (18, b.toNatClampNeg) (upd (upd (upd (c (18, b.toNatClampNeg)) 4 (g_le i (c (18, b.toNatClampNeg) 4))) 5 (g_gr i (c (18, b.toNatClampNeg) 5))) 6 (c (18, b.toNatClampNeg) 6 + nI i))) (l) (r) w1 → z_V X 0 0 w1 36 [(0, vr (0, 0)), (2, vi n), (3, vr (18, b.toNatClampNeg)), (4, vi (nI i))] [] := by
          intro n_
          induction n_ with
          | zero => intros; omega
          | succ n_ ih_36 =>
            intro i w hi hN hR
            refine z_iload h dX11_forge_36 rfl ?_
            refine z_iload_n h dX11_forge_38 rfl ?_
            refine z_toe (y := nI N) hnn ?_
            refine z_icmp_ge h dX11_forge_39 52 (by decide) (fun c_3 => ?_) (fun c_3 => ?_)
            · skip
              have e1 : N ≤ i := (nI_leI (by omega) (by omega)).mp c_3
              refine z_aload_n h dX11_forge_52 rfl ?_
              refine z_callV h dX11_forge_53 (fun _ _ q => z_okv_no he q) (fun _ _ _ t q => absurd q (he t)) (y_X0_sortNow _ hR b.toNatClampNeg (ix_lt hix (by omega))) ym_X0_sortNow mlX11_268 im_X0_sortNow (ci := 0) rfl se_X0_sortNow icX0 rfl (r_p.ob hR (Nat.le_of_ble_eq_true rfl) (tx_18 (ix_lt hix (by omega)))) rfl (by decide) (Nat.le_of_ble_eq_true rfl) ?_
              rintro q1 w1 ⟨rfl, hw1⟩
              have hw1 := hw1.symm; subst hw1
              exact z_iret h dX11_forge_56 hr (z_t ⟨hix, z_bt c_1, c_2⟩ ⟨by
            have e : i = N := by omega
            subst e
            rw [r_cf_self]
            show some (vi (if 0 < c (18, b.toNatClampNeg) 2 - (c (18, b.toNatClampNeg) 6 + nI i) / 2 then c (18, b.toNatClampNeg) 2 - (c (18, b.toNatClampNeg) 6 + nI i) / 2 else 0)) = _
            rw [← hnn], by rw [show N = i by omega]; exact hR⟩)
            · skip
              have e1 : ¬ N ≤ i := fun q => c_3 ((nI_leI (by omega) (by omega)).mpr q)
              refine z_aload_n h dX11_forge_42 rfl ?_
              refine z_callV h dX11_forge_43 (fun _ _ q => z_okv_no he q) (fun _ _ _ t q => absurd q (he t)) (y_X0_heatOnce _ hR b.toNatClampNeg (ix_lt hix (by omega))) ym_X0_heatOnce mlX11_265 im_X0_heatOnce (ci := 0) rfl se_X0_heatOnce icX0 rfl (r_p.ob hR (Nat.le_of_ble_eq_true rfl) (tx_18 (ix_lt hix (by omega)))) rfl (by decide) (Nat.le_of_ble_eq_true rfl) ?_
              rintro q1 w ⟨rfl, hR⟩
              refine z_iinc (v := 1) h dX11_forge_46 rfl (by decide) (by rw [hn]; decide) ?_
              refine z_goto h dX11_forge_49 36 (by decide) ?_
              refine z_loc [(0, vr (0, 0)), (2, vi n), (3, vr (18, b.toNatClampNeg)), (4, vi (nI (i + 1)))] ⟨rfl, rfl, rfl, congrArg (fun z => some (vi z)) (z_up i), trivial⟩ ?_
              simp only [r_cs, r_cf_self, r_cf_cf] at hR
              have e : upd (upd (upd (upd (upd (upd (c (18, b.toNatClampNeg)) 4 (g_le i (c (18, b.toNatClampNeg) 4))) 5 (g_gr i (c (18, b.toNatClampNeg) 5))) 6 (c (18, b.toNatClampNeg) 6 + nI i)) 4 (((upd (upd (upd (c (18, b.toNatClampNeg)) 4 (g_le i (c (18, b.toNatClampNeg) 4))) 5 (g_gr i (c (18, b.toNatClampNeg) 5))) 6 (c (18, b.toNatClampNeg) 6 + nI i)) 4).toInt64 * 97 / 100).toInt32) 5 ((((upd (upd (upd (c (18, b.toNatClampNeg)) 4 (g_le i (c (18, b.toNatClampNeg) 4))) 5 (g_gr i (c (18, b.toNatClampNeg) 5))) 6 (c (18, b.toNatClampNeg) 6 + nI i)) 5).toInt64 * 99 + 99) / 100).toInt32) 6 ((upd (upd (upd (c (18, b.toNatClampNeg)) 4 (g_le i (c (18, b.toNatClampNeg) 4))) 5 (g_gr i (c (18, b.toNatClampNeg) 5))) 6 (c (18, b.toNatClampNeg) 6 + nI i)) 6 + 1) = upd (upd (upd (c (18, b.toNatClampNeg)) 4 (g_le (i + 1) (c (18, b.toNatClampNeg) 4))) 5 (g_gr (i + 1) (c (18, b.toNatClampNeg) 5))) 6 (c (18, b.toNatClampNeg) 6 + nI (i + 1)) := by
                have a4 : (upd (upd (upd (c (18, b.toNatClampNeg)) 4 (g_le i (c (18, b.toNatClampNeg) 4))) 5 (g_gr i (c (18, b.toNatClampNeg) 5))) 6 (c (18, b.toNatClampNeg) 6 + nI i)) 4 = g_le i (c (18, b.toNatClampNeg) 4) := rfl
                have a5 : (upd (upd (upd (c (18, b.toNatClampNeg)) 4 (g_le i (c (18, b.toNatClampNeg) 4))) 5 (g_gr i (c (18, b.toNatClampNeg) 5))) 6 (c (18, b.toNatClampNeg) 6 + nI i)) 5 = g_gr i (c (18, b.toNatClampNeg) 5) := rfl
                have a6 : (upd (upd (upd (c (18, b.toNatClampNeg)) 4 (g_le i (c (18, b.toNatClampNeg) 4))) 5 (g_gr i (c (18, b.toNatClampNeg) 5))) 6 (c (18, b.toNatClampNeg) 6 + nI i)) 6 = c (18, b.toNatClampNeg) 6 + nI i := rfl
                rw [a4, a5, a6, Int32.add_assoc, z_up]
                funext k
                by_cases k6 : k = 6
                · subst k6; rw [pk_us, pk_us]
                · rw [pk_un k6, pk_un k6]
                  by_cases k5 : k = 5
                  · subst k5; rw [pk_us, pk_us]; rfl
                  · rw [pk_un k5, pk_un k5]
                    by_cases k4 : k = 4
                    · subst k4; rw [pk_us, pk_us]; rfl
                    · rw [pk_un k4, pk_un k4, pk_un k6, pk_un k5, pk_un k4]
              rw [e] at hR
              exact ih_36 (i + 1) _ (by omega) (by omega) hR
        exact z_loc [(0, vr (0, 0)), (2, vi n), (3, vr (18, b.toNatClampNeg)), (4, vi 0)] ⟨rfl, rfl, rfl, rfl, trivial⟩ (loop_36 (N + 1) 0 _ (by omega) (by omega) hR0)
      · skip
        refine z_iconst (v := -1) h dX11_forge_31 (by decide) ?_
        exact z_iret h dX11_forge_32 hr (z_f (fun q => c_2 q.2.2) ⟨rfl, rfl⟩)
  · skip
    rw [if_neg hix] at hq; subst hq
    refine z_astore_nN h dX11_forge_5 (by rw [hn]; decide) ?_
    refine z_aload_nN h dX11_forge_6 rfl ?_
    refine z_ifnullN h dX11_forge_7 31 (by decide) ?_
    refine z_iconst (v := -1) h dX11_forge_31 (by decide) ?_
    exact z_iret h dX11_forge_32 hr (z_f (fun q => hix q.1) ⟨rfl, rfl⟩)
set_option maxHeartbeats 4000000 in
set_option maxRecDepth 100000 in
theorem m_X11_charge (G : z_G) {nb na np g : Nat} {w0 w : z_w} {c : r_c} {l : r_l} {r : r_r} (hX : XR nb na np g w0 c l r w) (o k : Int32) (yo yc : Nat → Nat) (hyo : ∀ i, i < 12 → yo i < 2 ^ 31 ∧ c (4, 0) i = nI (yo i)) (hyc : ∀ i, i < 8 → yc i < 2 ^ 31 ∧ c (5, 0) i = nI (yc i)) : z_M G yX11_charge cX11_charge 3 (some .boolean) 4 (0) (0) [vr (0, 0), vi o, vi k] w (fun q w1 => if (0 ≤ o ∧ o ≤ 5000) ∧ (0 ≤ k ∧ k ≤ 5000) ∧ ¬ o + k = 0 ∧ ¬ z_sum (c (4, 0)) 12 < o ∧ ¬ z_sum (c (5, 0)) 8 < k then q = some (vi 1) ∧ ∃ c1 l1, r_p dX (TX nb na np g) w0 (c1) (l1) (r) w1 ∧ (c1 (4, 0) = fun i => c (4, 0) i - nI (ptt o.toNatClampNeg yo 12 i)) ∧ (c1 (14, 0) = fun i => c (14, 0) i + nI (ptt o.toNatClampNeg yo 12 i)) ∧ (c1 (5, 0) = fun i => c (5, 0) i - nI (ptt k.toNatClampNeg yc 8 i)) ∧ (c1 (16, 0) = fun i => c (16, 0) i + nI (ptt k.toNatClampNeg yc 8 i)) ∧ c1 (13, 0) = upd (upd (c (13, 0)) 3 (c (13, 0) 3 + o)) 4 (c (13, 0) 4 + k) ∧ (∀ t, t ≠ (45, 0) → t ≠ (4, 0) → t ≠ (14, 0) → t ≠ (5, 0) → t ≠ (16, 0) → t ≠ (13, 0) → c1 t = c t) else q = some (vi 0) ∧ w1 = w) := by
  refine z_met ym_X11_charge (by decide) ⟨Nat.le_of_ble_eq_true rfl, Nat.le_of_ble_eq_true rfl⟩ (fun X hG hn hmc hms hin h hr => ?_)
  have he := hr.2.2.2.2.2.1
  obtain ⟨hR, hnb, hna, hnp, hg6, hc2, hc8, hc12, hr1, hr17, hr26⟩ := id hX
  refine z_iload_n h dX11_charge_0 rfl ?_
  refine z_iconst (v := 0) h dX11_charge_1 (by decide) ?_
  refine z_sipush (v := 5000) h dX11_charge_2 (by decide) ?_
  refine z_callS h dX11_charge_5 (fun _ _ q => z_okv_no he q) (fun _ _ _ t q => absurd q (he t)) (m_X11_within _ _ _ _ _) ym_X11_within mlX11_92 sm_X11_within rfl (by decide) (Nat.le_of_ble_eq_true rfl) ?_
  rintro q1 w1 ⟨rfl, hw1⟩
  have hw1 := hw1.symm; subst hw1
  refine z_if_eq h dX11_charge_8 56 (by decide) (fun c_1 => ?_) (fun c_1 => ?_)
  · skip
    refine z_iconst (v := 0) h dX11_charge_56 (by decide) ?_
    exact z_zret h dX11_charge_57 hr rfl (z_f (fun q => z_bf c_1 q.1) ⟨rfl, rfl⟩)
  · skip
    refine z_iload_n h dX11_charge_11 rfl ?_
    refine z_iconst (v := 0) h dX11_charge_12 (by decide) ?_
    refine z_sipush (v := 5000) h dX11_charge_13 (by decide) ?_
    refine z_callS h dX11_charge_16 (fun _ _ q => z_okv_no he q) (fun _ _ _ t q => absurd q (he t)) (m_X11_within _ _ _ _ _) ym_X11_within mlX11_92 sm_X11_within rfl (by decide) (Nat.le_of_ble_eq_true rfl) ?_
    rintro q1 w1 ⟨rfl, hw1⟩
    have hw1 := hw1.symm; subst hw1
    refine z_if_eq h dX11_charge_19 56 (by decide) (fun c_2 => ?_) (fun c_2 => ?_)
    · skip
      refine z_iconst (v := 0) h dX11_charge_56 (by decide) ?_
      exact z_zret h dX11_charge_57 hr rfl (z_f (fun q => z_bf c_2 q.2.1) ⟨rfl, rfl⟩)
    · skip
      refine z_iload_n h dX11_charge_22 rfl ?_
      refine z_iload_n h dX11_charge_23 rfl ?_
      refine z_iadd h dX11_charge_24 ?_
      refine z_if_eq h dX11_charge_25 56 (by decide) (fun c_3 => ?_) (fun c_3 => ?_)
      · skip
        refine z_iconst (v := 0) h dX11_charge_56 (by decide) ?_
        exact z_zret h dX11_charge_57 hr rfl (z_f (fun q => q.2.2.1 c_3) ⟨rfl, rfl⟩)
      · skip
        refine z_iload_n h dX11_charge_28 rfl ?_
        refine z_aload_n h dX11_charge_29 rfl ?_
        refine y_getr h dX11_charge_30 hR flX11_18 (by first | assumption | exact Nat.le_of_ble_eq_true rfl) (by first | rfl | assumption | exact tx_2 (by first | assumption | omega) | exact tx_18 (by first | assumption | omega) | exact tx_19 (by first | assumption | omega) | exact tx_20 (by first | assumption | omega) | exact tx_27 (by first | assumption | omega) | exact tx_28 (by first | assumption | omega) | exact tx_30 (by first | assumption | omega) | exact tx_31 (by first | assumption | omega) | exact tx_32 (by first | assumption | omega) | exact tx_33 (by first | assumption | omega)) (by rfl) ?_
        refine y_getr h dX11_charge_33 hR flX11_146 (by first | assumption | exact Nat.le_of_ble_eq_true rfl) (by first | rfl | assumption | exact tx_2 (by first | assumption | omega) | exact tx_18 (by first | assumption | omega) | exact tx_19 (by first | assumption | omega) | exact tx_20 (by first | assumption | omega) | exact tx_27 (by first | assumption | omega) | exact tx_28 (by first | assumption | omega) | exact tx_30 (by first | assumption | omega) | exact tx_31 (by first | assumption | omega) | exact tx_32 (by first | assumption | omega) | exact tx_33 (by first | assumption | omega)) (by rfl) ?_
        refine z_callS h dX11_charge_36 (fun _ _ q => z_okv_no he q) (fun _ _ _ t q => absurd q (he t)) (m_X11_sumOf _ _ (4, 0) 12 (c (4, 0)) (hR.ia (Nat.le_of_ble_eq_true rfl) rfl) (by decide)) ym_X11_sumOf mlX11_177 sm_X11_sumOf rfl (by decide) (Nat.le_of_ble_eq_true rfl) ?_
        rintro q1 w1 ⟨rfl, hw1⟩
        have hw1 := hw1.symm; subst hw1
        refine z_icmp_gt h dX11_charge_39 56 (by decide) (fun c_4 => ?_) (fun c_4 => ?_)
        · skip
          refine z_iconst (v := 0) h dX11_charge_56 (by decide) ?_
          exact z_zret h dX11_charge_57 hr rfl (z_f (fun q => q.2.2.2.1 c_4) ⟨rfl, rfl⟩)
        · skip
          refine z_iload_n h dX11_charge_42 rfl ?_
          refine z_aload_n h dX11_charge_43 rfl ?_
          refine y_getr h dX11_charge_44 hR flX11_18 (by first | assumption | exact Nat.le_of_ble_eq_true rfl) (by first | rfl | assumption | exact tx_2 (by first | assumption | omega) | exact tx_18 (by first | assumption | omega) | exact tx_19 (by first | assumption | omega) | exact tx_20 (by first | assumption | omega) | exact tx_27 (by first | assumption | omega) | exact tx_28 (by first | assumption | omega) | exact tx_30 (by first | assumption | omega) | exact tx_31 (by first | assumption | omega) | exact tx_32 (by first | assumption | omega) | exact tx_33 (by first | assumption | omega)) (by rfl) ?_
          refine y_getr h dX11_charge_47 hR flX11_181 (by first | assumption | exact Nat.le_of_ble_eq_true rfl) (by first | rfl | assumption | exact tx_2 (by first | assumption | omega) | exact tx_18 (by first | assumption | omega) | exact tx_19 (by first | assumption | omega) | exact tx_20 (by first | assumption | omega) | exact tx_27 (by first | assumption | omega) | exact tx_28 (by first | assumption | omega) | exact tx_30 (by first | assumption | omega) | exact tx_31 (by first | assumption | omega) | exact tx_32 (by first | assumption | omega) | exact tx_33 (by first | assumption | omega)) (by rfl) ?_
          refine z_callS h dX11_charge_50 (fun _ _ q => z_okv_no he q) (fun _ _ _ t q => absurd q (he t)) (m_X11_sumOf _ _ (5, 0) 8 (c (5, 0)) (hR.ia (Nat.le_of_ble_eq_true rfl) rfl) (by decide)) ym_X11_sumOf mlX11_177 sm_X11_sumOf rfl (by decide) (Nat.le_of_ble_eq_true rfl) ?_
          rintro q1 w1 ⟨rfl, hw1⟩
          have hw1 := hw1.symm; subst hw1
          refine z_icmp_le h dX11_charge_53 58 (by decide) (fun c_5 => ?_) (fun c_5 => ?_)
          · skip
            obtain ⟨ho, -, ho5⟩ := z_rng 0 5000 (z_bt c_1) (by decide) (by decide)
            obtain ⟨hk, -, hk5⟩ := z_rng 0 5000 (z_bt c_2) (by decide) (by decide)
            refine z_aload_n h dX11_charge_58 rfl ?_
            refine y_getr h dX11_charge_59 hR flX11_79 (by first | assumption | exact Nat.le_of_ble_eq_true rfl) (by first | rfl | assumption | exact tx_2 (by first | assumption | omega) | exact tx_18 (by first | assumption | omega) | exact tx_19 (by first | assumption | omega) | exact tx_20 (by first | assumption | omega) | exact tx_27 (by first | assumption | omega) | exact tx_28 (by first | assumption | omega) | exact tx_30 (by first | assumption | omega) | exact tx_31 (by first | assumption | omega) | exact tx_32 (by first | assumption | omega) | exact tx_33 (by first | assumption | omega)) (by rfl) ?_
            refine z_iload_n h dX11_charge_62 rfl ?_
            refine z_toe (y := nI o.toNatClampNeg) ho ?_
            refine z_aload_n h dX11_charge_63 rfl ?_
            refine y_getr h dX11_charge_64 hR flX11_18 (by first | assumption | exact Nat.le_of_ble_eq_true rfl) (by first | rfl | assumption | exact tx_2 (by first | assumption | omega) | exact tx_18 (by first | assumption | omega) | exact tx_19 (by first | assumption | omega) | exact tx_20 (by first | assumption | omega) | exact tx_27 (by first | assumption | omega) | exact tx_28 (by first | assumption | omega) | exact tx_30 (by first | assumption | omega) | exact tx_31 (by first | assumption | omega) | exact tx_32 (by first | assumption | omega) | exact tx_33 (by first | assumption | omega)) (by rfl) ?_
            refine y_getr h dX11_charge_67 hR flX11_146 (by first | assumption | exact Nat.le_of_ble_eq_true rfl) (by first | rfl | assumption | exact tx_2 (by first | assumption | omega) | exact tx_18 (by first | assumption | omega) | exact tx_19 (by first | assumption | omega) | exact tx_20 (by first | assumption | omega) | exact tx_27 (by first | assumption | omega) | exact tx_28 (by first | assumption | omega) | exact tx_30 (by first | assumption | omega) | exact tx_31 (by first | assumption | omega) | exact tx_32 (by first | assumption | omega) | exact tx_33 (by first | assumption | omega)) (by rfl) ?_
            refine z_aload_n h dX11_charge_70 rfl ?_
            refine y_getr h dX11_charge_71 hR flX11_39 (by first | assumption | exact Nat.le_of_ble_eq_true rfl) (by first | rfl | assumption | exact tx_2 (by first | assumption | omega) | exact tx_18 (by first | assumption | omega) | exact tx_19 (by first | assumption | omega) | exact tx_20 (by first | assumption | omega) | exact tx_27 (by first | assumption | omega) | exact tx_28 (by first | assumption | omega) | exact tx_30 (by first | assumption | omega) | exact tx_31 (by first | assumption | omega) | exact tx_32 (by first | assumption | omega) | exact tx_33 (by first | assumption | omega)) (by rfl) ?_
            refine y_getr h dX11_charge_74 hR flX11_184 (by first | assumption | exact Nat.le_of_ble_eq_true rfl) (by first | rfl | assumption | exact tx_2 (by first | assumption | omega) | exact tx_18 (by first | assumption | omega) | exact tx_19 (by first | assumption | omega) | exact tx_20 (by first | assumption | omega) | exact tx_27 (by first | assumption | omega) | exact tx_28 (by first | assumption | omega) | exact tx_30 (by first | assumption | omega) | exact tx_31 (by first | assumption | omega) | exact tx_32 (by first | assumption | omega) | exact tx_33 (by first | assumption | omega)) (by rfl) ?_
            refine z_callV h dX11_charge_77 (fun _ _ q => z_okv_no he q) (fun _ _ _ t q => absurd q (he t)) (m_X6_carry _ hR (4, 0) (14, 0) 12 o.toNatClampNeg yo (Nat.le_of_ble_eq_true rfl) rfl (Nat.le_of_ble_eq_true rfl) rfl rfl rfl rfl (by omega) (by omega) (by omega) hyo) ym_X6_carry mlX11_185 im_X6_carry (ci := 6) rfl se_X6_carry icX6 rfl (r_p.ob hR (by first | assumption | exact Nat.le_of_ble_eq_true rfl) (by first | rfl | assumption | exact tx_2 (by first | assumption | omega) | exact tx_18 (by first | assumption | omega) | exact tx_19 (by first | assumption | omega) | exact tx_20 (by first | assumption | omega) | exact tx_27 (by first | assumption | omega) | exact tx_28 (by first | assumption | omega) | exact tx_30 (by first | assumption | omega) | exact tx_31 (by first | assumption | omega) | exact tx_32 (by first | assumption | omega) | exact tx_33 (by first | assumption | omega))) rfl (by decide) (Nat.le_of_ble_eq_true rfl) ?_
            rintro q1 w ⟨rfl, sf, lf, hR⟩
            refine z_aload_n h dX11_charge_80 rfl ?_
            refine y_getr h dX11_charge_81 hR flX11_79 (by first | assumption | exact Nat.le_of_ble_eq_true rfl) (by first | rfl | assumption | exact tx_2 (by first | assumption | omega) | exact tx_18 (by first | assumption | omega) | exact tx_19 (by first | assumption | omega) | exact tx_20 (by first | assumption | omega) | exact tx_27 (by first | assumption | omega) | exact tx_28 (by first | assumption | omega) | exact tx_30 (by first | assumption | omega) | exact tx_31 (by first | assumption | omega) | exact tx_32 (by first | assumption | omega) | exact tx_33 (by first | assumption | omega)) (by rfl) ?_
            refine z_iload_n h dX11_charge_84 rfl ?_
            refine z_toe (y := nI k.toNatClampNeg) hk ?_
            refine z_aload_n h dX11_charge_85 rfl ?_
            refine y_getr h dX11_charge_86 hR flX11_18 (by first | assumption | exact Nat.le_of_ble_eq_true rfl) (by first | rfl | assumption | exact tx_2 (by first | assumption | omega) | exact tx_18 (by first | assumption | omega) | exact tx_19 (by first | assumption | omega) | exact tx_20 (by first | assumption | omega) | exact tx_27 (by first | assumption | omega) | exact tx_28 (by first | assumption | omega) | exact tx_30 (by first | assumption | omega) | exact tx_31 (by first | assumption | omega) | exact tx_32 (by first | assumption | omega) | exact tx_33 (by first | assumption | omega)) (by rfl) ?_
            refine y_getr h dX11_charge_89 hR flX11_181 (by first | assumption | exact Nat.le_of_ble_eq_true rfl) (by first | rfl | assumption | exact tx_2 (by first | assumption | omega) | exact tx_18 (by first | assumption | omega) | exact tx_19 (by first | assumption | omega) | exact tx_20 (by first | assumption | omega) | exact tx_27 (by first | assumption | omega) | exact tx_28 (by first | assumption | omega) | exact tx_30 (by first | assumption | omega) | exact tx_31 (by first | assumption | omega) | exact tx_32 (by first | assumption | omega) | exact tx_33 (by first | assumption | omega)) (by rfl) ?_
            refine z_aload_n h dX11_charge_92 rfl ?_
            refine y_getr h dX11_charge_93 hR flX11_39 (by first | assumption | exact Nat.le_of_ble_eq_true rfl) (by first | rfl | assumption | exact tx_2 (by first | assumption | omega) | exact tx_18 (by first | assumption | omega) | exact tx_19 (by first | assumption | omega) | exact tx_20 (by first | assumption | omega) | exact tx_27 (by first | assumption | omega) | exact tx_28 (by first | assumption | omega) | exact tx_30 (by first | assumption | omega) | exact tx_31 (by first | assumption | omega) | exact tx_32 (by first | assumption | omega) | exact tx_33 (by first | assumption | omega)) (by rfl) ?_
            refine y_getr h dX11_charge_96 hR flX11_189 (by first | assumption | exact Nat.le_of_ble_eq_true rfl) (by first | rfl | assumption | exact tx_2 (by first | assumption | omega) | exact tx_18 (by first | assumption | omega) | exact tx_19 (by first | assumption | omega) | exact tx_20 (by first | assumption | omega) | exact tx_27 (by first | assumption | omega) | exact tx_28 (by first | assumption | omega) | exact tx_30 (by first | assumption | omega) | exact tx_31 (by first | assumption | omega) | exact tx_32 (by first | assumption | omega) | exact tx_33 (by first | assumption | omega)) (by rfl) ?_
            refine z_callV h dX11_charge_99 (fun _ _ q => z_okv_no he q) (fun _ _ _ t q => absurd q (he t)) (m_X6_carry _ hR (5, 0) (16, 0) 8 k.toNatClampNeg yc (Nat.le_of_ble_eq_true rfl) rfl (Nat.le_of_ble_eq_true rfl) rfl rfl rfl rfl (by omega) (by omega) (by omega) hyc) ym_X6_carry mlX11_185 im_X6_carry (ci := 6) rfl se_X6_carry icX6 rfl (r_p.ob hR (by first | assumption | exact Nat.le_of_ble_eq_true rfl) (by first | rfl | assumption | exact tx_2 (by first | assumption | omega) | exact tx_18 (by first | assumption | omega) | exact tx_19 (by first | assumption | omega) | exact tx_20 (by first | assumption | omega) | exact tx_27 (by first | assumption | omega) | exact tx_28 (by first | assumption | omega) | exact tx_30 (by first | assumption | omega) | exact tx_31 (by first | assumption | omega) | exact tx_32 (by first | assumption | omega) | exact tx_33 (by first | assumption | omega))) rfl (by decide) (Nat.le_of_ble_eq_true rfl) ?_
            rintro q1 w ⟨rfl, sf2, lf2, hR⟩
            refine z_aload_n h dX11_charge_102 rfl ?_
            refine y_getr h dX11_charge_103 hR flX11_39 (by first | assumption | exact Nat.le_of_ble_eq_true rfl) (by first | rfl | assumption | exact tx_2 (by first | assumption | omega) | exact tx_18 (by first | assumption | omega) | exact tx_19 (by first | assumption | omega) | exact tx_20 (by first | assumption | omega) | exact tx_27 (by first | assumption | omega) | exact tx_28 (by first | assumption | omega) | exact tx_30 (by first | assumption | omega) | exact tx_31 (by first | assumption | omega) | exact tx_32 (by first | assumption | omega) | exact tx_33 (by first | assumption | omega)) (by rfl) ?_
            refine z_dup_r h dX11_charge_106 ?_
            refine y_geti h dX11_charge_107 hR flX11_192 (by first | assumption | exact Nat.le_of_ble_eq_true rfl) (by first | rfl | assumption | exact tx_2 (by first | assumption | omega) | exact tx_18 (by first | assumption | omega) | exact tx_19 (by first | assumption | omega) | exact tx_20 (by first | assumption | omega) | exact tx_27 (by first | assumption | omega) | exact tx_28 (by first | assumption | omega) | exact tx_30 (by first | assumption | omega) | exact tx_31 (by first | assumption | omega) | exact tx_32 (by first | assumption | omega) | exact tx_33 (by first | assumption | omega)) (by rfl) ?_
            refine z_iload_n h dX11_charge_110 rfl ?_
            refine z_iadd h dX11_charge_111 ?_
            refine y_put h dX11_charge_112 he hR flX11_192 rfl (by first | assumption | exact Nat.le_of_ble_eq_true rfl) (by first | rfl | assumption | exact tx_2 (by first | assumption | omega) | exact tx_18 (by first | assumption | omega) | exact tx_19 (by first | assumption | omega) | exact tx_20 (by first | assumption | omega) | exact tx_27 (by first | assumption | omega) | exact tx_28 (by first | assumption | omega) | exact tx_30 (by first | assumption | omega) | exact tx_31 (by first | assumption | omega) | exact tx_32 (by first | assumption | omega) | exact tx_33 (by first | assumption | omega)) (by rfl) (fun w hR => ?_)
            refine z_aload_n h dX11_charge_115 rfl ?_
            refine y_getr h dX11_charge_116 hR flX11_39 (by first | assumption | exact Nat.le_of_ble_eq_true rfl) (by first | rfl | assumption | exact tx_2 (by first | assumption | omega) | exact tx_18 (by first | assumption | omega) | exact tx_19 (by first | assumption | omega) | exact tx_20 (by first | assumption | omega) | exact tx_27 (by first | assumption | omega) | exact tx_28 (by first | assumption | omega) | exact tx_30 (by first | assumption | omega) | exact tx_31 (by first | assumption | omega) | exact tx_32 (by first | assumption | omega) | exact tx_33 (by first | assumption | omega)) (by rfl) ?_
            refine z_dup_r h dX11_charge_119 ?_
            refine y_geti h dX11_charge_120 hR flX11_195 (by first | assumption | exact Nat.le_of_ble_eq_true rfl) (by first | rfl | assumption | exact tx_2 (by first | assumption | omega) | exact tx_18 (by first | assumption | omega) | exact tx_19 (by first | assumption | omega) | exact tx_20 (by first | assumption | omega) | exact tx_27 (by first | assumption | omega) | exact tx_28 (by first | assumption | omega) | exact tx_30 (by first | assumption | omega) | exact tx_31 (by first | assumption | omega) | exact tx_32 (by first | assumption | omega) | exact tx_33 (by first | assumption | omega)) (by rfl) ?_
            refine z_iload_n h dX11_charge_123 rfl ?_
            refine z_iadd h dX11_charge_124 ?_
            refine y_put h dX11_charge_125 he hR flX11_195 rfl (by first | assumption | exact Nat.le_of_ble_eq_true rfl) (by first | rfl | assumption | exact tx_2 (by first | assumption | omega) | exact tx_18 (by first | assumption | omega) | exact tx_19 (by first | assumption | omega) | exact tx_20 (by first | assumption | omega) | exact tx_27 (by first | assumption | omega) | exact tx_28 (by first | assumption | omega) | exact tx_30 (by first | assumption | omega) | exact tx_31 (by first | assumption | omega) | exact tx_32 (by first | assumption | omega) | exact tx_33 (by first | assumption | omega)) (by rfl) (fun w hR => ?_)
            refine z_iconst (v := 1) h dX11_charge_128 (by decide) ?_
            exact z_zret h dX11_charge_129 hr rfl (z_t ⟨z_bt c_1, z_bt c_2, c_3, c_4, by clear hR; simp only [z_lt, z_le, z_ie] at *; omega⟩ ⟨rfl, _, _, hR, rfl, rfl, rfl, rfl, rfl, fun t h1 h2 h3 h4 h5 h6 => by simp only [r_cs, r_cf_ne h1, r_cf_ne h2, r_cf_ne h3, r_cf_ne h4, r_cf_ne h5, r_cf_ne h6]⟩)
          · skip
            refine z_iconst (v := 0) h dX11_charge_56 (by decide) ?_
            exact z_zret h dX11_charge_57 hr rfl (z_f (fun q => q.2.2.2.2 (by clear q; simp only [z_lt, z_le, z_ie] at *; omega)) ⟨rfl, rfl⟩)
set_option maxHeartbeats 4000000 in
set_option maxRecDepth 100000 in
theorem m_X11_blow (G : z_G) {nb na np g : Nat} {w0 w : z_w} {c : r_c} {l : r_l} {r : r_r} (hX : XR nb na np g w0 c l r w) (n : Int32) (ra bl ch : Nat → Nat) (u : Nat → Int32) (nc : Nat) (hF : XF ra bl ch u c) (hgap : ¬ u 13 ≤ 0) (hra : p_sm ra 12 < 2 ^ 30) (hc : c (8, 0) 4 = nI nc) (h40 : nc ≤ 40) : z_M G yX11_blow cX11_blow 3 (some .int) 6 (0) (0) [vr (0, 0), vi n] w (fun q w1 => if (0 ≤ n ∧ n ≤ 2000) ∧ c (13, 0) 7 + n ≤ 20000 then q = some (vi ((f_n nc (c (9, 0)) (c (10, 0)) (c (11, 0)) (c (12, 0)) ch (ra, bl, u) n.toNatClampNeg).2.2 6)) ∧ ∃ c1 l1, r_p dX (TX nb na np g) w0 (c1) (l1) (r) w1 ∧ XF (f_n nc (c (9, 0)) (c (10, 0)) (c (11, 0)) (c (12, 0)) ch (ra, bl, u) n.toNatClampNeg).1 (f_n nc (c (9, 0)) (c (10, 0)) (c (11, 0)) (c (12, 0)) ch (ra, bl, u) n.toNatClampNeg).2.1 ch (f_n nc (c (9, 0)) (c (10, 0)) (c (11, 0)) (c (12, 0)) ch (ra, bl, u) n.toNatClampNeg).2.2 c1 ∧ (∀ t, t ≠ (13, 0) → t ≠ (14, 0) → t ≠ (15, 0) → t ≠ (45, 0) → c1 t = c t) else q = some (vi (-1)) ∧ w1 = w) := by
  refine z_met ym_X11_blow (by decide) ⟨Nat.le_of_ble_eq_true rfl, Nat.le_of_ble_eq_true rfl⟩ (fun X hG hn hmc hms hin h hr => ?_)
  have he := hr.2.2.2.2.2.1
  obtain ⟨hR, hnb, hna, hnp, hg6, hc2, hc8, hc12, hr1, hr17, hr26⟩ := id hX
  refine z_iload_n h dX11_blow_0 rfl ?_
  refine z_iconst (v := 0) h dX11_blow_1 (by decide) ?_
  refine z_sipush (v := 2000) h dX11_blow_2 (by decide) ?_
  refine z_callS h dX11_blow_5 (fun _ _ q => z_okv_no he q) (fun _ _ _ t q => absurd q (he t)) (m_X11_within _ _ _ _ _) ym_X11_within mlX11_92 sm_X11_within rfl (by decide) (Nat.le_of_ble_eq_true rfl) ?_
  rintro q1 w1 ⟨rfl, hw1⟩
  have hw1 := hw1.symm; subst hw1
  refine z_if_eq h dX11_blow_8 26 (by decide) (fun c_1 => ?_) (fun c_1 => ?_)
  · skip
    refine z_iconst (v := -1) h dX11_blow_26 (by decide) ?_
    exact z_iret h dX11_blow_27 hr (z_f (fun q => z_bf c_1 q.1) ⟨rfl, rfl⟩)
  · skip
    refine z_aload_n h dX11_blow_11 rfl ?_
    refine y_getr h dX11_blow_12 hR flX11_39 (by first | assumption | exact Nat.le_of_ble_eq_true rfl) (by first | rfl | assumption | exact tx_2 (by first | assumption | omega) | exact tx_18 (by first | assumption | omega) | exact tx_19 (by first | assumption | omega) | exact tx_20 (by first | assumption | omega) | exact tx_27 (by first | assumption | omega) | exact tx_28 (by first | assumption | omega) | exact tx_30 (by first | assumption | omega) | exact tx_31 (by first | assumption | omega) | exact tx_32 (by first | assumption | omega) | exact tx_33 (by first | assumption | omega)) (by rfl) ?_
    refine y_geti h dX11_blow_15 hR flX11_198 (by first | assumption | exact Nat.le_of_ble_eq_true rfl) (by first | rfl | assumption | exact tx_2 (by first | assumption | omega) | exact tx_18 (by first | assumption | omega) | exact tx_19 (by first | assumption | omega) | exact tx_20 (by first | assumption | omega) | exact tx_27 (by first | assumption | omega) | exact tx_28 (by first | assumption | omega) | exact tx_30 (by first | assumption | omega) | exact tx_31 (by first | assumption | omega) | exact tx_32 (by first | assumption | omega) | exact tx_33 (by first | assumption | omega)) (by rfl) ?_
    refine z_iload_n h dX11_blow_18 rfl ?_
    refine z_iadd h dX11_blow_19 ?_
    refine z_sipush (v := 20000) h dX11_blow_20 (by decide) ?_
    refine z_icmp_le h dX11_blow_23 28 (by decide) (fun c_2 => ?_) (fun c_2 => ?_)
    · skip
      obtain ⟨hnn, -, hn9⟩ := z_rng 0 2000 (z_bt c_1) (by decide) (by decide)
      generalize hN0 : n.toNatClampNeg = N at *
      refine z_iconst (v := 0) h dX11_blow_28 (by decide) ?_
      refine z_istore_n h dX11_blow_29 (by rw [hn]; decide) ?_
      have loop_30 : ∀ (n_ : Nat) (i : Nat) (w1 : z_w) (c1 : r_c) (l1 : r_l), i ≤ N → N + 1 ≤ i + n_ → r_p dX (TX nb na np g) w0 (c1) (l1) (r) w1 → XF (f_n nc (c (9, 0)) (c (10, 0)) (c (11, 0)) (c (12, 0)) ch (ra, bl, u) i).1 (f_n nc (c (9, 0)) (c (10, 0)) (c (11, 0)) (c (12, 0)) ch (ra, bl, u) i).2.1 ch (f_n nc (c (9, 0)) (c (10, 0)) (c (11, 0)) (c (12, 0)) ch (ra, bl, u) i).2.2 c1 → (∀ t, t ≠ (13, 0) → t ≠ (14, 0) → t ≠ (15, 0) → t ≠ (45, 0) → c1 t = c t) → z_V X 0 0 w1 30 [(0, vr (0, 0)), (1, vi n), (2, vi (nI i))] [] := by
        intro n_
        induction n_ with
        | zero => intros; omega
        | succ n_ ih_30 =>
          intro i w c1 l1 hi hN hR hxf hfr
          refine z_iload_n h dX11_blow_30 rfl ?_
          refine z_iload_n h dX11_blow_31 rfl ?_
          refine z_toe (y := nI N) hnn ?_
          refine z_icmp_ge h dX11_blow_32 56 (by decide) (fun c_3 => ?_) (fun c_3 => ?_)
          · skip
            have e1 : N ≤ i := (nI_leI (by omega) (by omega)).mp c_3
            refine z_aload_n h dX11_blow_56 rfl ?_
            refine y_getr h dX11_blow_57 hR flX11_39 (by first | assumption | exact Nat.le_of_ble_eq_true rfl) (by first | rfl | assumption | exact tx_2 (by first | assumption | omega) | exact tx_18 (by first | assumption | omega) | exact tx_19 (by first | assumption | omega) | exact tx_20 (by first | assumption | omega) | exact tx_27 (by first | assumption | omega) | exact tx_28 (by first | assumption | omega) | exact tx_30 (by first | assumption | omega) | exact tx_31 (by first | assumption | omega) | exact tx_32 (by first | assumption | omega) | exact tx_33 (by first | assumption | omega)) (by rfl) ?_
            refine y_geti h dX11_blow_60 hR flX11_205 (by first | assumption | exact Nat.le_of_ble_eq_true rfl) (by first | rfl | assumption | exact tx_2 (by first | assumption | omega) | exact tx_18 (by first | assumption | omega) | exact tx_19 (by first | assumption | omega) | exact tx_20 (by first | assumption | omega) | exact tx_27 (by first | assumption | omega) | exact tx_28 (by first | assumption | omega) | exact tx_30 (by first | assumption | omega) | exact tx_31 (by first | assumption | omega) | exact tx_32 (by first | assumption | omega) | exact tx_33 (by first | assumption | omega)) (by rfl) ?_
            exact z_iret h dX11_blow_63 hr (z_t ⟨z_bt c_1, c_2⟩ ⟨by rw [show N = i by omega]; exact z_e1 (hxf.2.2.2.2.2 6 (by omega) (by omega)), c1, l1, hR, by rw [show N = i by omega]; exact hxf, hfr⟩)
          · skip
            have e1 : ¬ N ≤ i := fun q => c_3 ((nI_leI (by omega) (by omega)).mpr q)
            refine z_aload_n h dX11_blow_35 rfl ?_
            refine y_getr h dX11_blow_36 hR flX11_39 (by first | assumption | exact Nat.le_of_ble_eq_true rfl) (by first | rfl | assumption | exact tx_2 (by first | assumption | omega) | exact tx_18 (by first | assumption | omega) | exact tx_19 (by first | assumption | omega) | exact tx_20 (by first | assumption | omega) | exact tx_27 (by first | assumption | omega) | exact tx_28 (by first | assumption | omega) | exact tx_30 (by first | assumption | omega) | exact tx_31 (by first | assumption | omega) | exact tx_32 (by first | assumption | omega) | exact tx_33 (by first | assumption | omega)) (by rfl) ?_
            refine z_aload_n h dX11_blow_39 rfl ?_
            refine y_getr h dX11_blow_40 hR flX11_32 (by first | assumption | exact Nat.le_of_ble_eq_true rfl) (by first | rfl | assumption | exact tx_2 (by first | assumption | omega) | exact tx_18 (by first | assumption | omega) | exact tx_19 (by first | assumption | omega) | exact tx_20 (by first | assumption | omega) | exact tx_27 (by first | assumption | omega) | exact tx_28 (by first | assumption | omega) | exact tx_30 (by first | assumption | omega) | exact tx_31 (by first | assumption | omega) | exact tx_32 (by first | assumption | omega) | exact tx_33 (by first | assumption | omega)) (by rfl) ?_
            refine z_aload_n h dX11_blow_43 rfl ?_
            refine y_getr h dX11_blow_44 hR flX11_79 (by first | assumption | exact Nat.le_of_ble_eq_true rfl) (by first | rfl | assumption | exact tx_2 (by first | assumption | omega) | exact tx_18 (by first | assumption | omega) | exact tx_19 (by first | assumption | omega) | exact tx_20 (by first | assumption | omega) | exact tx_27 (by first | assumption | omega) | exact tx_28 (by first | assumption | omega) | exact tx_30 (by first | assumption | omega) | exact tx_31 (by first | assumption | omega) | exact tx_32 (by first | assumption | omega) | exact tx_33 (by first | assumption | omega)) (by rfl) ?_
            refine z_callV h dX11_blow_47 (fun _ _ q => z_okv_no he q) (fun _ _ _ t q => absurd q (he t)) (m_X3_passMinute _ hR (f_n nc (c (9, 0)) (c (10, 0)) (c (11, 0)) (c (12, 0)) ch (ra, bl, u) i).1 (f_n nc (c (9, 0)) (c (10, 0)) (c (11, 0)) (c (12, 0)) ch (ra, bl, u) i).2.1 ch (f_n nc (c (9, 0)) (c (10, 0)) (c (11, 0)) (c (12, 0)) ch (ra, bl, u) i).2.2 nc hxf (by rw [(f_n_gap i).1]; exact hgap) (Nat.lt_of_le_of_lt (f_n_ore i) hra) (by rw [hfr (8, 0) (by simp) (by simp) (by simp) (by simp)]; exact hc) h40 _ _ _ _ rfl rfl rfl rfl) ym_X3_passMinute mlX11_201 im_X3_passMinute (ci := 3) rfl se_X3_passMinute icX3 rfl (r_p.ob hR (by first | assumption | exact Nat.le_of_ble_eq_true rfl) (by first | rfl | assumption | exact tx_2 (by first | assumption | omega) | exact tx_18 (by first | assumption | omega) | exact tx_19 (by first | assumption | omega) | exact tx_20 (by first | assumption | omega) | exact tx_27 (by first | assumption | omega) | exact tx_28 (by first | assumption | omega) | exact tx_30 (by first | assumption | omega) | exact tx_31 (by first | assumption | omega) | exact tx_32 (by first | assumption | omega) | exact tx_33 (by first | assumption | omega))) rfl (by decide) (Nat.le_of_ble_eq_true rfl) ?_
            rintro q1 w ⟨rfl, c2, l2, hR, hxf2, hfr2⟩
            rw [hfr (9, 0) (by simp) (by simp) (by simp) (by simp), hfr (10, 0) (by simp) (by simp) (by simp) (by simp), hfr (11, 0) (by simp) (by simp) (by simp) (by simp), hfr (12, 0) (by simp) (by simp) (by simp) (by simp)] at hxf2
            refine z_iinc (v := 1) h dX11_blow_50 rfl (by decide) (by rw [hn]; decide) ?_
            refine z_goto h dX11_blow_53 30 (by decide) ?_
            refine z_loc [(0, vr (0, 0)), (1, vi n), (2, vi (nI (i + 1)))] ⟨rfl, rfl, congrArg (fun z => some (vi z)) (z_up i), trivial⟩ ?_
            exact ih_30 (i + 1) _ _ _ (by omega) (by omega) hR hxf2 (fun t h1 h2 h3 h4 => (hfr2 t h1 h2 h3 h4).trans (hfr t h1 h2 h3 h4))
      exact z_loc [(0, vr (0, 0)), (1, vi n), (2, vi 0)] ⟨rfl, rfl, rfl, trivial⟩ (loop_30 (N + 1) 0 _ _ _ (by omega) (by omega) hR hF (fun _ _ _ _ _ => rfl))
    · skip
      refine z_iconst (v := -1) h dX11_blow_26 (by decide) ?_
      exact z_iret h dX11_blow_27 hr (z_f (fun q => c_2 q.2) ⟨rfl, rfl⟩)
set_option maxHeartbeats 4000000 in
set_option maxRecDepth 100000 in
theorem m_X11_iron0 (G : z_G) {nb na np g : Nat} {w0 w : z_w} {c : r_c} {l : r_l} {r : r_r} (hR : r_p dX (TX nb na np g) w0 c l r w) (hnb : nb ≤ 12) (hc2 : c (0, 0) 2 = nI nb) (hr1 : ∀ i, i < nb → r (1, 0) i = some (2, i)) : z_M G yX11_ironInBloom cX11_ironInBloom 6 (some .int) 2 (0) (0) [vr (0, 0), vi 0] w (fun q w1 => q = some (vi ((n_iron (c (15, 0)) (fun j => c (2, j) 3) nb) / 1000).toInt32) ∧ w1 = w) := by
  refine z_met ym_X11_ironInBloom (by decide) ⟨Nat.le_of_ble_eq_true rfl, Nat.le_of_ble_eq_true rfl⟩ (fun X hG hn hmc hms hin h hr => ?_)
  have he := hr.2.2.2.2.2.1
  refine z_lconst (v := 0) h dX11_ironInBloom_0 (by decide) ?_
  refine z_lstore_n h dX11_ironInBloom_1 (by rw [hn]; decide) ?_
  refine z_iconst (v := 0) h dX11_ironInBloom_2 (by decide) ?_
  refine z_istore h dX11_ironInBloom_3 (by rw [hn]; decide) ?_
  have loop_5 : ∀ (n_ : Nat) (i : Nat), i ≤ nb → nb + 1 ≤ i + n_ → z_V X 0 0 w 5 [(0, vr (0, 0)), (1, vi 0), (2, vl (n_iron (c (15, 0)) (fun j => c (2, j) 3) i)), (4, vi (nI i))] [] := by
    intro n_
    induction n_ with
    | zero => intros; omega
    | succ n_ ih_5 =>
      intro i hi hN
      refine z_iload h dX11_ironInBloom_5 rfl ?_
      refine z_aload_n h dX11_ironInBloom_7 rfl ?_
      refine y_geti h dX11_ironInBloom_8 hR flX11_87 (by first | assumption | exact Nat.le_of_ble_eq_true rfl) (by first | rfl | assumption | exact tx_2 (by first | assumption | omega) | exact tx_18 (by first | assumption | omega) | exact tx_19 (by first | assumption | omega) | exact tx_20 (by first | assumption | omega) | exact tx_27 (by first | assumption | omega) | exact tx_28 (by first | assumption | omega) | exact tx_30 (by first | assumption | omega) | exact tx_31 (by first | assumption | omega) | exact tx_32 (by first | assumption | omega) | exact tx_33 (by first | assumption | omega)) (by rfl) ?_
      rw [hc2]
      refine z_icmp_ge h dX11_ironInBloom_11 68 (by decide) (fun c_1 => ?_) (fun c_1 => ?_)
      · skip
        have e1 : nb ≤ i := (nI_leI (by omega) (by omega)).mp c_1
        refine z_iload_n h dX11_ironInBloom_68 rfl ?_
        refine z_if_eq h dX11_ironInBloom_69 82 (by decide) (fun c_3 => ?_) (fun c_3 => ?_)
        · skip
          refine z_lload_n h dX11_ironInBloom_82 rfl ?_
          refine z_ldc2 h dX11_ironInBloom_83 klX11_256 ?_
          refine z_ldiv h dX11_ironInBloom_86 (by decide) ?_
          refine z_l2i h dX11_ironInBloom_87 ?_
          exact z_iret h dX11_ironInBloom_88 hr (⟨z_e1 (by rw [show nb = i by omega]), rfl⟩)
        · skip
          exact absurd rfl c_3
      · skip
        have e1 : ¬ nb ≤ i := fun q => c_1 ((nI_leI (by omega) (by omega)).mpr q)
        refine z_aload_n h dX11_ironInBloom_14 rfl ?_
        refine z_iload h dX11_ironInBloom_15 rfl ?_
        refine z_callV h dX11_ironInBloom_17 (fun _ _ q => z_okv_no he q) (fun _ _ _ t q => absurd q (he t)) (m_X11_bogAt _ hR (nI i) hc2 hnb hr1) ym_X11_bogAt mlX11_99 im_X11_bogAt (ci := 11) rfl se_X11_bogAt icX11 rfl (r_p.ob hR (by first | assumption | exact Nat.le_of_ble_eq_true rfl) (by first | rfl | assumption | exact tx_2 (by first | assumption | omega) | exact tx_18 (by first | assumption | omega) | exact tx_19 (by first | assumption | omega) | exact tx_20 (by first | assumption | omega) | exact tx_27 (by first | assumption | omega) | exact tx_28 (by first | assumption | omega) | exact tx_30 (by first | assumption | omega) | exact tx_31 (by first | assumption | omega) | exact tx_32 (by first | assumption | omega) | exact tx_33 (by first | assumption | omega))) rfl (by decide) (Nat.le_of_ble_eq_true rfl) ?_
        rintro q1 w1 ⟨hw1, hq⟩
        have hw1 := hw1.symm; subst hw1
        rw [if_pos (ix_of (show i < nb by omega) (by omega)), nI_clamp (by omega)] at hq
        subst hq
        refine z_astore h dX11_ironInBloom_20 (by rw [hn]; decide) ?_
        refine z_aload h dX11_ironInBloom_22 rfl ?_
        refine z_ifnull h dX11_ironInBloom_24 ?_
        refine z_lload_n h dX11_ironInBloom_27 rfl ?_
        refine z_aload_n h dX11_ironInBloom_28 rfl ?_
        refine y_getr h dX11_ironInBloom_29 hR flX11_39 (by first | assumption | exact Nat.le_of_ble_eq_true rfl) (by first | rfl | assumption | exact tx_2 (by first | assumption | omega) | exact tx_18 (by first | assumption | omega) | exact tx_19 (by first | assumption | omega) | exact tx_20 (by first | assumption | omega) | exact tx_27 (by first | assumption | omega) | exact tx_28 (by first | assumption | omega) | exact tx_30 (by first | assumption | omega) | exact tx_31 (by first | assumption | omega) | exact tx_32 (by first | assumption | omega) | exact tx_33 (by first | assumption | omega)) (by rfl) ?_
        refine y_getr h dX11_ironInBloom_32 hR flX11_214 (by first | assumption | exact Nat.le_of_ble_eq_true rfl) (by first | rfl | assumption | exact tx_2 (by first | assumption | omega) | exact tx_18 (by first | assumption | omega) | exact tx_19 (by first | assumption | omega) | exact tx_20 (by first | assumption | omega) | exact tx_27 (by first | assumption | omega) | exact tx_28 (by first | assumption | omega) | exact tx_30 (by first | assumption | omega) | exact tx_31 (by first | assumption | omega) | exact tx_32 (by first | assumption | omega) | exact tx_33 (by first | assumption | omega)) (by rfl) ?_
        refine z_iload h dX11_ironInBloom_35 rfl ?_
        refine z_callS h dX11_ironInBloom_37 (fun _ _ q => z_okv_no he q) (fun _ _ _ t q => absurd q (he t)) (m_X11_itemOf _ _ (15, 0) 12 (c (15, 0)) (nI i) (hR.ia (Nat.le_of_ble_eq_true rfl) rfl) (by decide)) ym_X11_itemOf mlX11_148 sm_X11_itemOf rfl (by decide) (Nat.le_of_ble_eq_true rfl) ?_
        rintro q1 w1 ⟨rfl, hw1⟩
        have hw1 := hw1.symm; subst hw1
        refine z_toe (y := c (15, 0) i) (by rw [n_item (n := 12) (ix_of (by omega) (by decide)) (by omega) (by decide), nI_clamp (by omega)]) ?_
        refine z_i2l h dX11_ironInBloom_40 ?_
        refine z_iload_n h dX11_ironInBloom_41 rfl ?_
        refine z_if_eq h dX11_ironInBloom_42 53 (by decide) (fun c_2 => ?_) (fun c_2 => ?_)
        · skip
          refine z_aload h dX11_ironInBloom_53 rfl ?_
          refine y_geti h dX11_ironInBloom_55 hR flX11_140 (by first | assumption | exact Nat.le_of_ble_eq_true rfl) (tx_2 (by omega)) (by rfl) ?_
          refine z_i2l h dX11_ironInBloom_58 ?_
          refine z_lmul h dX11_ironInBloom_59 ?_
          refine z_ladd h dX11_ironInBloom_60 ?_
          refine z_lstore_n h dX11_ironInBloom_61 (by rw [hn]; decide) ?_
          refine z_iinc (v := 1) h dX11_ironInBloom_62 rfl (by decide) (by rw [hn]; decide) ?_
          refine z_goto h dX11_ironInBloom_65 5 (by decide) ?_
          refine z_loc [(0, vr (0, 0)), (1, vi 0), (2, vl (n_iron (c (15, 0)) (fun j => c (2, j) 3) (i + 1))), (4, vi (nI (i + 1)))] ⟨rfl, rfl, rfl, congrArg (fun z => some (vi z)) (z_up i), trivial⟩ ?_
          exact ih_5 (i + 1) (by omega) (by omega)
        · skip
          exact absurd rfl c_2
  exact z_loc [(0, vr (0, 0)), (1, vi 0), (2, vl 0), (4, vi 0)] ⟨rfl, rfl, rfl, rfl, trivial⟩ (loop_5 (nb + 1) 0 (by omega) (by omega))
set_option maxHeartbeats 4000000 in
set_option maxRecDepth 100000 in
theorem m_X11_iron1 (G : z_G) {nb na np g : Nat} {w0 w : z_w} {c : r_c} {l : r_l} {r : r_r} (hR : r_p dX (TX nb na np g) w0 c l r w) (hnb : nb ≤ 12) (hc2 : c (0, 0) 2 = nI nb) (hr1 : ∀ i, i < nb → r (1, 0) i = some (2, i)) : z_M G yX11_ironInBloom cX11_ironInBloom 6 (some .int) 2 (0) (0) [vr (0, 0), vi 1] w (fun q w1 => q = some (vi ((n_iron (c (15, 0)) (fun j => c (2, j) 4) nb + 1000 - 1) / 1000).toInt32) ∧ w1 = w) := by
  refine z_met ym_X11_ironInBloom (by decide) ⟨Nat.le_of_ble_eq_true rfl, Nat.le_of_ble_eq_true rfl⟩ (fun X hG hn hmc hms hin h hr => ?_)
  have he := hr.2.2.2.2.2.1
  refine z_lconst (v := 0) h dX11_ironInBloom_0 (by decide) ?_
  refine z_lstore_n h dX11_ironInBloom_1 (by rw [hn]; decide) ?_
  refine z_iconst (v := 0) h dX11_ironInBloom_2 (by decide) ?_
  refine z_istore h dX11_ironInBloom_3 (by rw [hn]; decide) ?_
  have loop_5 : ∀ (n_ : Nat) (i : Nat), i ≤ nb → nb + 1 ≤ i + n_ → z_V X 0 0 w 5 [(0, vr (0, 0)), (1, vi 1), (2, vl (n_iron (c (15, 0)) (fun j => c (2, j) 4) i)), (4, vi (nI i))] [] := by
    intro n_
    induction n_ with
    | zero => intros; omega
    | succ n_ ih_5 =>
      intro i hi hN
      refine z_iload h dX11_ironInBloom_5 rfl ?_
      refine z_aload_n h dX11_ironInBloom_7 rfl ?_
      refine y_geti h dX11_ironInBloom_8 hR flX11_87 (by first | assumption | exact Nat.le_of_ble_eq_true rfl) (by first | rfl | assumption | exact tx_2 (by first | assumption | omega) | exact tx_18 (by first | assumption | omega) | exact tx_19 (by first | assumption | omega) | exact tx_20 (by first | assumption | omega) | exact tx_27 (by first | assumption | omega) | exact tx_28 (by first | assumption | omega) | exact tx_30 (by first | assumption | omega) | exact tx_31 (by first | assumption | omega) | exact tx_32 (by first | assumption | omega) | exact tx_33 (by first | assumption | omega)) (by rfl) ?_
      rw [hc2]
      refine z_icmp_ge h dX11_ironInBloom_11 68 (by decide) (fun c_1 => ?_) (fun c_1 => ?_)
      · skip
        have e1 : nb ≤ i := (nI_leI (by omega) (by omega)).mp c_1
        refine z_iload_n h dX11_ironInBloom_68 rfl ?_
        refine z_if_eq h dX11_ironInBloom_69 82 (by decide) (fun c_3 => ?_) (fun c_3 => ?_)
        · skip
          exact absurd c_3 (by decide)
        · skip
          refine z_lload_n h dX11_ironInBloom_72 rfl ?_
          refine z_ldc2 h dX11_ironInBloom_73 klX11_256 ?_
          refine z_ladd h dX11_ironInBloom_76 ?_
          refine z_lconst (v := 1) h dX11_ironInBloom_77 (by decide) ?_
          refine z_lsub h dX11_ironInBloom_78 ?_
          refine z_goto h dX11_ironInBloom_79 83 (by decide) ?_
          refine z_ldc2 h dX11_ironInBloom_83 klX11_256 ?_
          refine z_ldiv h dX11_ironInBloom_86 (by decide) ?_
          refine z_l2i h dX11_ironInBloom_87 ?_
          exact z_iret h dX11_ironInBloom_88 hr (⟨z_e1 (by rw [show nb = i by omega]), rfl⟩)
      · skip
        have e1 : ¬ nb ≤ i := fun q => c_1 ((nI_leI (by omega) (by omega)).mpr q)
        refine z_aload_n h dX11_ironInBloom_14 rfl ?_
        refine z_iload h dX11_ironInBloom_15 rfl ?_
        refine z_callV h dX11_ironInBloom_17 (fun _ _ q => z_okv_no he q) (fun _ _ _ t q => absurd q (he t)) (m_X11_bogAt _ hR (nI i) hc2 hnb hr1) ym_X11_bogAt mlX11_99 im_X11_bogAt (ci := 11) rfl se_X11_bogAt icX11 rfl (r_p.ob hR (by first | assumption | exact Nat.le_of_ble_eq_true rfl) (by first | rfl | assumption | exact tx_2 (by first | assumption | omega) | exact tx_18 (by first | assumption | omega) | exact tx_19 (by first | assumption | omega) | exact tx_20 (by first | assumption | omega) | exact tx_27 (by first | assumption | omega) | exact tx_28 (by first | assumption | omega) | exact tx_30 (by first | assumption | omega) | exact tx_31 (by first | assumption | omega) | exact tx_32 (by first | assumption | omega) | exact tx_33 (by first | assumption | omega))) rfl (by decide) (Nat.le_of_ble_eq_true rfl) ?_
        rintro q1 w1 ⟨hw1, hq⟩
        have hw1 := hw1.symm; subst hw1
        rw [if_pos (ix_of (show i < nb by omega) (by omega)), nI_clamp (by omega)] at hq
        subst hq
        refine z_astore h dX11_ironInBloom_20 (by rw [hn]; decide) ?_
        refine z_aload h dX11_ironInBloom_22 rfl ?_
        refine z_ifnull h dX11_ironInBloom_24 ?_
        refine z_lload_n h dX11_ironInBloom_27 rfl ?_
        refine z_aload_n h dX11_ironInBloom_28 rfl ?_
        refine y_getr h dX11_ironInBloom_29 hR flX11_39 (by first | assumption | exact Nat.le_of_ble_eq_true rfl) (by first | rfl | assumption | exact tx_2 (by first | assumption | omega) | exact tx_18 (by first | assumption | omega) | exact tx_19 (by first | assumption | omega) | exact tx_20 (by first | assumption | omega) | exact tx_27 (by first | assumption | omega) | exact tx_28 (by first | assumption | omega) | exact tx_30 (by first | assumption | omega) | exact tx_31 (by first | assumption | omega) | exact tx_32 (by first | assumption | omega) | exact tx_33 (by first | assumption | omega)) (by rfl) ?_
        refine y_getr h dX11_ironInBloom_32 hR flX11_214 (by first | assumption | exact Nat.le_of_ble_eq_true rfl) (by first | rfl | assumption | exact tx_2 (by first | assumption | omega) | exact tx_18 (by first | assumption | omega) | exact tx_19 (by first | assumption | omega) | exact tx_20 (by first | assumption | omega) | exact tx_27 (by first | assumption | omega) | exact tx_28 (by first | assumption | omega) | exact tx_30 (by first | assumption | omega) | exact tx_31 (by first | assumption | omega) | exact tx_32 (by first | assumption | omega) | exact tx_33 (by first | assumption | omega)) (by rfl) ?_
        refine z_iload h dX11_ironInBloom_35 rfl ?_
        refine z_callS h dX11_ironInBloom_37 (fun _ _ q => z_okv_no he q) (fun _ _ _ t q => absurd q (he t)) (m_X11_itemOf _ _ (15, 0) 12 (c (15, 0)) (nI i) (hR.ia (Nat.le_of_ble_eq_true rfl) rfl) (by decide)) ym_X11_itemOf mlX11_148 sm_X11_itemOf rfl (by decide) (Nat.le_of_ble_eq_true rfl) ?_
        rintro q1 w1 ⟨rfl, hw1⟩
        have hw1 := hw1.symm; subst hw1
        refine z_toe (y := c (15, 0) i) (by rw [n_item (n := 12) (ix_of (by omega) (by decide)) (by omega) (by decide), nI_clamp (by omega)]) ?_
        refine z_i2l h dX11_ironInBloom_40 ?_
        refine z_iload_n h dX11_ironInBloom_41 rfl ?_
        refine z_if_eq h dX11_ironInBloom_42 53 (by decide) (fun c_2 => ?_) (fun c_2 => ?_)
        · skip
          exact absurd c_2 (by decide)
        · skip
          refine z_aload h dX11_ironInBloom_45 rfl ?_
          refine y_geti h dX11_ironInBloom_47 hR flX11_143 (by first | assumption | exact Nat.le_of_ble_eq_true rfl) (tx_2 (by omega)) (by rfl) ?_
          refine z_goto h dX11_ironInBloom_50 58 (by decide) ?_
          refine z_i2l h dX11_ironInBloom_58 ?_
          refine z_lmul h dX11_ironInBloom_59 ?_
          refine z_ladd h dX11_ironInBloom_60 ?_
          refine z_lstore_n h dX11_ironInBloom_61 (by rw [hn]; decide) ?_
          refine z_iinc (v := 1) h dX11_ironInBloom_62 rfl (by decide) (by rw [hn]; decide) ?_
          refine z_goto h dX11_ironInBloom_65 5 (by decide) ?_
          refine z_loc [(0, vr (0, 0)), (1, vi 1), (2, vl (n_iron (c (15, 0)) (fun j => c (2, j) 4) (i + 1))), (4, vi (nI (i + 1)))] ⟨rfl, rfl, rfl, congrArg (fun z => some (vi z)) (z_up i), trivial⟩ ?_
          exact ih_5 (i + 1) (by omega) (by omega)
  exact z_loc [(0, vr (0, 0)), (1, vi 1), (2, vl 0), (4, vi 0)] ⟨rfl, rfl, rfl, rfl, trivial⟩ (loop_5 (nb + 1) 0 (by omega) (by omega))
