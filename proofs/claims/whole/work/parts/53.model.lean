/-! the reference: blowing, drawing -/
set_option maxHeartbeats 4000000 in
set_option maxRecDepth 100000 in
theorem m_X12_blow (G : z_G) {g : Nat} {w0 w : z_w} {c : r_c} {l : r_l} {r : r_r} (hR : r_p dM (TM g) w0 c l r w) (n : Int32) (ra bl ch : Nat → Nat) (u : Nat → Int32) (nc : Nat) (hF : MF ra bl ch u c) (hgap : ¬ u 13 ≤ 0) (hra : p_sm ra 12 < 2 ^ 30) (hc34 : c (100, 0) 34 = nI nc) (h60 : nc ≤ 60) : z_M G yX12_blow cX12_blow 3 (some .int) 4 (0) (0) [vr (100, 0), vi n] w (fun q w1 => if (0 ≤ n ∧ n ≤ 2000) ∧ c (100, 0) 24 + n ≤ 20000 then q = some (vi ((f_n nc (c (136, 0)) (c (137, 0)) (c (138, 0)) (c (139, 0)) ch (ra, bl, u) n.toNatClampNeg).2.2 6)) ∧ ∃ c1 l1, r_p dM (TM g) w0 (c1) (l1) (r) w1 ∧ MF (f_n nc (c (136, 0)) (c (137, 0)) (c (138, 0)) (c (139, 0)) ch (ra, bl, u) n.toNatClampNeg).1 (f_n nc (c (136, 0)) (c (137, 0)) (c (138, 0)) (c (139, 0)) ch (ra, bl, u) n.toNatClampNeg).2.1 ch (f_n nc (c (136, 0)) (c (137, 0)) (c (138, 0)) (c (139, 0)) ch (ra, bl, u) n.toNatClampNeg).2.2 c1 ∧ (∀ k, k < 22 ∨ 28 < k → c1 (100, 0) k = c (100, 0) k) ∧ (∀ t, t ≠ (100, 0) → t ≠ (117, 0) → t ≠ (118, 0) → t ≠ (119, 0) → t ≠ (121, 0) → c1 t = c t) else q = some (vi (-1)) ∧ w1 = w) := by
  refine z_met ym_X12_blow (by decide) ⟨Nat.le_of_ble_eq_true rfl, Nat.le_of_ble_eq_true rfl⟩ (fun X hG hn hmc hms hin h hr => ?_)
  have he := hr.2.2.2.2.2.1
  refine z_iload_n h dX12_blow_0 rfl ?_
  refine z_iconst (v := 0) h dX12_blow_1 (by decide) ?_
  refine z_sipush (v := 2000) h dX12_blow_2 (by decide) ?_
  refine z_callS h dX12_blow_5 (fun _ _ q => z_okv_no he q) (fun _ _ _ t q => absurd q (he t)) (m_X12_in _ _ _ _ _) ym_X12_in mlX12_169 sm_X12_in rfl (by decide) (Nat.le_of_ble_eq_true rfl) ?_
  rintro q1 w1 ⟨rfl, hw1⟩
  have hw1 := hw1.symm; subst hw1
  refine z_if_eq h dX12_blow_8 23 (by decide) (fun c_1 => ?_) (fun c_1 => ?_)
  · skip
    refine z_iconst (v := -1) h dX12_blow_23 (by decide) ?_
    exact z_iret h dX12_blow_24 hr (z_f (fun q => z_bf c_1 q.1) ⟨rfl, rfl⟩)
  · skip
    refine z_aload_n h dX12_blow_11 rfl ?_
    refine y_geti h dX12_blow_12 hR flX12_206 (by first | assumption | exact Nat.le_of_ble_eq_true rfl) (by first | rfl | assumption | exact tx_2 (by first | assumption | omega) | exact tx_18 (by first | assumption | omega) | exact tx_19 (by first | assumption | omega) | exact tx_20 (by first | assumption | omega) | exact tx_27 (by first | assumption | omega) | exact tx_28 (by first | assumption | omega) | exact tx_30 (by first | assumption | omega) | exact tx_31 (by first | assumption | omega) | exact tx_32 (by first | assumption | omega) | exact tx_33 (by first | assumption | omega)) (by rfl) ?_
    refine z_iload_n h dX12_blow_15 rfl ?_
    refine z_iadd h dX12_blow_16 ?_
    refine z_sipush (v := 20000) h dX12_blow_17 (by decide) ?_
    refine z_icmp_le h dX12_blow_20 25 (by decide) (fun c_2 => ?_) (fun c_2 => ?_)
    · skip
      obtain ⟨hnn, -, hn9⟩ := z_rng 0 2000 (z_bt c_1) (by decide) (by decide)
      generalize hN0 : n.toNatClampNeg = N at *
      refine z_iconst (v := 0) h dX12_blow_25 (by decide) ?_
      refine z_istore_n h dX12_blow_26 (by rw [hn]; decide) ?_
      have loop_27 : ∀ (n_ : Nat) (i : Nat) (w1 : z_w) (c1 : r_c) (l1 : r_l), i ≤ N → N + 1 ≤ i + n_ → r_p dM (TM g) w0 (c1) (l1) (r) w1 → MF (f_n nc (c (136, 0)) (c (137, 0)) (c (138, 0)) (c (139, 0)) ch (ra, bl, u) i).1 (f_n nc (c (136, 0)) (c (137, 0)) (c (138, 0)) (c (139, 0)) ch (ra, bl, u) i).2.1 ch (f_n nc (c (136, 0)) (c (137, 0)) (c (138, 0)) (c (139, 0)) ch (ra, bl, u) i).2.2 c1 → (∀ k, k < 22 ∨ 28 < k → c1 (100, 0) k = c (100, 0) k) → (∀ t, t ≠ (100, 0) → t ≠ (117, 0) → t ≠ (118, 0) → t ≠ (119, 0) → t ≠ (121, 0) → c1 t = c t) → z_V X 0 0 w1 27 [(0, vr (100, 0)), (1, vi n), (2, vi (nI i))] [] := by
        intro n_
        induction n_ with
        | zero => intros; omega
        | succ n_ ih_27 =>
          intro i w c1 l1 hi hN hR hmf hob hfr
          refine z_iload_n h dX12_blow_27 rfl ?_
          refine z_iload_n h dX12_blow_28 rfl ?_
          refine z_toe (y := nI N) hnn ?_
          refine z_icmp_ge h dX12_blow_29 42 (by decide) (fun c_3 => ?_) (fun c_3 => ?_)
          · skip
            have e1 : N ≤ i := (nI_leI (by omega) (by omega)).mp c_3
            refine z_aload_n h dX12_blow_42 rfl ?_
            refine y_geti h dX12_blow_43 hR flX12_209 (by first | assumption | exact Nat.le_of_ble_eq_true rfl) (by first | rfl | assumption | exact tx_2 (by first | assumption | omega) | exact tx_18 (by first | assumption | omega) | exact tx_19 (by first | assumption | omega) | exact tx_20 (by first | assumption | omega) | exact tx_27 (by first | assumption | omega) | exact tx_28 (by first | assumption | omega) | exact tx_30 (by first | assumption | omega) | exact tx_31 (by first | assumption | omega) | exact tx_32 (by first | assumption | omega) | exact tx_33 (by first | assumption | omega)) (by rfl) ?_
            exact z_iret h dX12_blow_46 hr (z_t ⟨z_bt c_1, c_2⟩ ⟨by rw [show N = i by omega]; exact z_e1 (hmf.2.2.2 6 (by omega) (by omega)), c1, l1, hR, by rw [show N = i by omega]; exact hmf, hob, hfr⟩)
          · skip
            have e1 : ¬ N ≤ i := fun q => c_3 ((nI_leI (by omega) (by omega)).mpr q)
            refine z_aload_n h dX12_blow_32 rfl ?_
            refine z_callV h dX12_blow_33 (fun _ _ q => z_okv_no he q) (fun _ _ _ t q => absurd q (he t)) (m_X12_minute _ hR (f_n nc (c (136, 0)) (c (137, 0)) (c (138, 0)) (c (139, 0)) ch (ra, bl, u) i).1 (f_n nc (c (136, 0)) (c (137, 0)) (c (138, 0)) (c (139, 0)) ch (ra, bl, u) i).2.1 ch (f_n nc (c (136, 0)) (c (137, 0)) (c (138, 0)) (c (139, 0)) ch (ra, bl, u) i).2.2 nc hmf (by rw [(f_n_gap i).1]; exact hgap) (Nat.lt_of_le_of_lt (f_n_ore i) hra) ((hob 34 (Or.inr (by decide))).trans hc34) h60 _ _ _ _ rfl rfl rfl rfl) ym_X12_minute mlX12_227 im_X12_minute (ci := 12) rfl se_X12_minute icX12 rfl (r_p.ob hR (by first | assumption | exact Nat.le_of_ble_eq_true rfl) (by first | rfl | assumption | exact tx_2 (by first | assumption | omega) | exact tx_18 (by first | assumption | omega) | exact tx_19 (by first | assumption | omega) | exact tx_20 (by first | assumption | omega) | exact tx_27 (by first | assumption | omega) | exact tx_28 (by first | assumption | omega) | exact tx_30 (by first | assumption | omega) | exact tx_31 (by first | assumption | omega) | exact tx_32 (by first | assumption | omega) | exact tx_33 (by first | assumption | omega))) rfl (by decide) (Nat.le_of_ble_eq_true rfl) ?_
            rintro q1 w ⟨rfl, c2, l2, hR, hmf2, hob2, hfr2⟩
            rw [hfr (136, 0) (by simp) (by simp) (by simp) (by simp) (by simp), hfr (137, 0) (by simp) (by simp) (by simp) (by simp) (by simp), hfr (138, 0) (by simp) (by simp) (by simp) (by simp) (by simp), hfr (139, 0) (by simp) (by simp) (by simp) (by simp) (by simp)] at hmf2
            refine z_iinc (v := 1) h dX12_blow_36 rfl (by decide) (by rw [hn]; decide) ?_
            refine z_goto h dX12_blow_39 27 (by decide) ?_
            refine z_loc [(0, vr (100, 0)), (1, vi n), (2, vi (nI (i + 1)))] ⟨rfl, rfl, congrArg (fun z => some (vi z)) (z_up i), trivial⟩ ?_
            exact ih_27 (i + 1) _ _ _ (by omega) (by omega) hR hmf2 (fun k hk => (hob2 k hk).trans (hob k hk)) (fun t h1 h2 h3 h4 h5 => (hfr2 t h1 h2 h3 h4 h5).trans (hfr t h1 h2 h3 h4 h5))
      exact z_loc [(0, vr (100, 0)), (1, vi n), (2, vi (nI 0))] ⟨rfl, rfl, rfl, trivial⟩ (loop_27 (N + 1) 0 _ _ _ (by omega) (by omega) hR hF (fun _ _ => rfl) (fun _ _ _ _ _ _ => rfl))
    · skip
      refine z_iconst (v := -1) h dX12_blow_23 (by decide) ?_
      exact z_iret h dX12_blow_24 hr (z_f (fun q => c_2 q.2) ⟨rfl, rfl⟩)
/-- a block of a row written from its base on -/
def blk (f g : Nat → Int32) (base i : Nat) : Nat → Int32 := fun j => if base ≤ j ∧ j < base + i then g (j - base) else f j
theorem blk_0 {f g : Nat → Int32} {base : Nat} : blk f g base 0 = f := funext fun j => if_neg (by omega)
theorem blk_up {f g : Nat → Int32} {base i : Nat} : upd (blk f g base i) (base + i) (g i) = blk f g base (i + 1) := by
  funext j
  by_cases e : j = base + i
  · subst e
    rw [pk_us]
    show _ = if base ≤ base + i ∧ base + i < base + (i + 1) then g (base + i - base) else f (base + i)
    rw [if_pos (by omega), show base + i - base = i by omega]
  · rw [pk_un e]
    show (if base ≤ j ∧ j < base + i then g (j - base) else f j) = (if base ≤ j ∧ j < base + (i + 1) then g (j - base) else f j)
    by_cases q : base ≤ j ∧ j < base + i
    · rw [if_pos q, if_pos (by omega)]
    · rw [if_neg q, if_neg (by omega)]
theorem blk_in {f g : Nat → Int32} {base n i : Nat} (h : i < n) : blk f g base n (base + i) = g i := by
  show (if base ≤ base + i ∧ base + i < base + n then g (base + i - base) else f (base + i)) = _
  rw [if_pos (by omega), show base + i - base = i by omega]
theorem blk_out {f g : Nat → Int32} {base n j : Nat} (h : j < base ∨ base + n ≤ j) : blk f g base n j = f j := if_neg (by omega)
set_option maxHeartbeats 4000000 in
set_option maxRecDepth 100000 in
theorem m_X12_draw (G : z_G) {g : Nat} {w0 w : z_w} {c : r_c} {l : r_l} {r : r_r} (hR : r_p dM (TM g) w0 c l r w) (nb : Nat) (hc1 : c (100, 0) 1 = nI nb) (hnb : nb ≤ 12) (na : Nat) (hc2 : c (100, 0) 2 = nI na) (hna : na ≤ 100) (bu : Nat) (hbu : c (100, 0) 22 = nI bu) (hbu2 : bu < 2 ^ 22) (ch : Nat → Nat) (hch : ∀ i, i < 8 → ch i < 2 ^ 31 ∧ c (120, 0) i = nI (ch i)) (hbs : bu ≤ p_sm ch 8) : z_M G yX12_draw cX12_draw 6 (some .int) 3 (0) (0) [vr (100, 0)] w (fun q w1 => if na < 100 ∧ ¬ z_sum (c (121, 0)) 12 = 0 then q = some (vi (nI na)) ∧ ∃ c1 l1, r_p dM (TM g) w0 (c1) (l1) (r) w1 ∧ c1 (144, 0) = blk (c (144, 0)) (c (121, 0)) (12 * na) nb ∧ c1 (145, 0) = blk (c (145, 0)) (ptf bu ch 8 (c (117, 0))) (8 * na) 8 ∧ c1 (146, 0) = upd (c (146, 0)) na ((n_iron (c (121, 0)) (c (111, 0)) nb) / 1000).toInt32 ∧ c1 (147, 0) = upd (c (147, 0)) na (((n_iron (c (121, 0)) (c (112, 0)) nb) + 999) / 1000).toInt32 ∧ c1 (148, 0) = upd (c (148, 0)) na (if c (100, 0) 27 = 0 then 0 else if c (100, 0) 27 ≤ 10 then 1 else 2) ∧ c1 (149, 0) = upd (c (149, 0)) na 0 ∧ c1 (150, 0) = upd (c (150, 0)) na (c (100, 0) 0) ∧ c1 (100, 0) 2 = nI (na + 1) ∧ c1 (100, 0) 7 = c (100, 0) 7 + z_sum (c (119, 0)) 12 ∧ (∀ k, 22 ≤ k → k ≤ 27 → c1 (100, 0) k = 0) ∧ c1 (100, 0) 28 = -1 ∧ (∀ k, k ≠ 2 → k ≠ 7 → (k < 22 ∨ 28 < k) → c1 (100, 0) k = c (100, 0) k) ∧ (∀ i, i < 12 → c1 (119, 0) i = 0) ∧ (∀ i, i < 12 → c1 (121, 0) i = 0) ∧ (∀ i, i < 8 → c1 (120, 0) i = 0) ∧ (∀ t, t ≠ (100, 0) → t ≠ (117, 0) → t ≠ (118, 0) → t ≠ (119, 0) → t ≠ (120, 0) → t ≠ (121, 0) → t ≠ (144, 0) → t ≠ (145, 0) → t ≠ (146, 0) → t ≠ (147, 0) → t ≠ (148, 0) → t ≠ (149, 0) → t ≠ (150, 0) → c1 t = c t) else q = some (vi (-1)) ∧ w1 = w) := by
  refine z_met ym_X12_draw (by decide) ⟨Nat.le_of_ble_eq_true rfl, Nat.le_of_ble_eq_true rfl⟩ (fun X hG hn hmc hms hin h hr => ?_)
  have he := hr.2.2.2.2.2.1
  refine z_aload_n h dX12_draw_0 rfl ?_
  refine y_getr h dX12_draw_1 hR flX12_51 (by first | assumption | exact Nat.le_of_ble_eq_true rfl) (by first | rfl | assumption | exact tx_2 (by first | assumption | omega) | exact tx_18 (by first | assumption | omega) | exact tx_19 (by first | assumption | omega) | exact tx_20 (by first | assumption | omega) | exact tx_27 (by first | assumption | omega) | exact tx_28 (by first | assumption | omega) | exact tx_30 (by first | assumption | omega) | exact tx_31 (by first | assumption | omega) | exact tx_32 (by first | assumption | omega) | exact tx_33 (by first | assumption | omega)) (by rfl) ?_
  refine z_callS h dX12_draw_4 (fun _ _ q => z_okv_no he q) (fun _ _ _ t q => absurd q (he t)) (m_X12_sum _ _ (121, 0) 12 (c (121, 0)) (hR.ia (Nat.le_of_ble_eq_true rfl) rfl) (by decide)) ym_X12_sum mlX12_195 sm_X12_sum rfl (by decide) (Nat.le_of_ble_eq_true rfl) ?_
  rintro q1 w1 ⟨rfl, hw1⟩
  have hw1 := hw1.symm; subst hw1
  refine z_if_eq h dX12_draw_7 19 (by decide) (fun c_1 => ?_) (fun c_1 => ?_)
  · skip
    refine z_iconst (v := -1) h dX12_draw_19 (by decide) ?_
    exact z_iret h dX12_draw_20 hr (z_f (fun q => q.2 c_1) ⟨rfl, rfl⟩)
  · skip
    refine z_aload_n h dX12_draw_10 rfl ?_
    refine y_geti h dX12_draw_11 hR flX12_257 (by first | assumption | exact Nat.le_of_ble_eq_true rfl) (by first | rfl | assumption | exact tx_2 (by first | assumption | omega) | exact tx_18 (by first | assumption | omega) | exact tx_19 (by first | assumption | omega) | exact tx_20 (by first | assumption | omega) | exact tx_27 (by first | assumption | omega) | exact tx_28 (by first | assumption | omega) | exact tx_30 (by first | assumption | omega) | exact tx_31 (by first | assumption | omega) | exact tx_32 (by first | assumption | omega) | exact tx_33 (by first | assumption | omega)) (by rfl) ?_
    rw [hc2]
    refine z_bipush (v := 100) h dX12_draw_14 (by decide) ?_
    refine z_icmp_ne h dX12_draw_16 21 (by decide) (fun c_2 => ?_) (fun c_2 => ?_)
    · skip
      have hna9 : na < 100 := by
        have : na ≠ 100 := fun q => c_2 (by rw [q]; rfl)
        omega
      refine z_lconst (v := 0) h dX12_draw_21 (by decide) ?_
      refine z_lstore_n h dX12_draw_22 (by rw [hn]; decide) ?_
      refine z_lconst (v := 0) h dX12_draw_23 (by decide) ?_
      refine z_lstore_n h dX12_draw_24 (by rw [hn]; decide) ?_
      refine z_iconst (v := 0) h dX12_draw_25 (by decide) ?_
      refine z_istore h dX12_draw_26 (by rw [hn]; decide) ?_
      have loop_28 : ∀ (n_ : Nat) (i : Nat) (w : z_w), r_p dM (TM g) w0 (r_cf c (144, 0) (blk (c (144, 0)) (c (121, 0)) (12 * na) i)) l r w → i ≤ nb → nb + 1 ≤ i + n_ → z_V X 0 0 w 28 [(0, vr (100, 0)), (1, vl (n_iron (c (121, 0)) (c (111, 0)) i)), (3, vl (n_iron (c (121, 0)) (c (112, 0)) i)), (5, vi (nI i))] [] := by
        intro n_
        induction n_ with
        | zero => intros; omega
        | succ n_ ih_28 =>
          intro i w hR hi hN
          refine z_iload h dX12_draw_28 rfl ?_
          refine z_aload_n h dX12_draw_30 rfl ?_
          refine y_geti h dX12_draw_31 hR flX12_166 (by first | assumption | exact Nat.le_of_ble_eq_true rfl) (by first | rfl | assumption | exact tx_2 (by first | assumption | omega) | exact tx_18 (by first | assumption | omega) | exact tx_19 (by first | assumption | omega) | exact tx_20 (by first | assumption | omega) | exact tx_27 (by first | assumption | omega) | exact tx_28 (by first | assumption | omega) | exact tx_30 (by first | assumption | omega) | exact tx_31 (by first | assumption | omega) | exact tx_32 (by first | assumption | omega) | exact tx_33 (by first | assumption | omega)) (by rfl) ?_
          refine z_toe (y := nI nb) hc1 ?_
          refine z_icmp_ge h dX12_draw_34 105 (by decide) (fun c_3 => ?_) (fun c_3 => ?_)
          · skip
            have e1 : nb ≤ i := (nI_leI (by omega) (by omega)).mp c_3
            have hin : i = nb := by omega
            clear ih_28 hN
            subst i
            refine z_aload_n h dX12_draw_105 rfl ?_
            refine z_aload_n h dX12_draw_106 rfl ?_
            refine y_geti h dX12_draw_107 hR flX12_199 (by first | assumption | exact Nat.le_of_ble_eq_true rfl) (by first | rfl | assumption | exact tx_2 (by first | assumption | omega) | exact tx_18 (by first | assumption | omega) | exact tx_19 (by first | assumption | omega) | exact tx_20 (by first | assumption | omega) | exact tx_27 (by first | assumption | omega) | exact tx_28 (by first | assumption | omega) | exact tx_30 (by first | assumption | omega) | exact tx_31 (by first | assumption | omega) | exact tx_32 (by first | assumption | omega) | exact tx_33 (by first | assumption | omega)) (by rfl) ?_
            refine z_toe (y := nI bu) hbu ?_
            refine z_aload_n h dX12_draw_110 rfl ?_
            refine y_getr h dX12_draw_111 hR flX12_48 (by first | assumption | exact Nat.le_of_ble_eq_true rfl) (by first | rfl | assumption | exact tx_2 (by first | assumption | omega) | exact tx_18 (by first | assumption | omega) | exact tx_19 (by first | assumption | omega) | exact tx_20 (by first | assumption | omega) | exact tx_27 (by first | assumption | omega) | exact tx_28 (by first | assumption | omega) | exact tx_30 (by first | assumption | omega) | exact tx_31 (by first | assumption | omega) | exact tx_32 (by first | assumption | omega) | exact tx_33 (by first | assumption | omega)) (by rfl) ?_
            refine z_callV h dX12_draw_114 (fun _ _ q => z_okv_no he q) (fun _ _ _ t q => absurd q (he t)) (m_X12_partBy _ hR (120, 0) 8 bu ch (Nat.le_of_ble_eq_true rfl) rfl (by simp) (by simp) (by decide) (by decide) hbu2 hch (fun q => by omega)) ym_X12_partBy mlX12_202 im_X12_partBy (ci := 12) rfl se_X12_partBy icX12 rfl (r_p.ob hR (by first | assumption | exact Nat.le_of_ble_eq_true rfl) (by first | rfl | assumption | exact tx_2 (by first | assumption | omega) | exact tx_18 (by first | assumption | omega) | exact tx_19 (by first | assumption | omega) | exact tx_20 (by first | assumption | omega) | exact tx_27 (by first | assumption | omega) | exact tx_28 (by first | assumption | omega) | exact tx_30 (by first | assumption | omega) | exact tx_31 (by first | assumption | omega) | exact tx_32 (by first | assumption | omega) | exact tx_33 (by first | assumption | omega))) rfl (by decide) (Nat.le_of_ble_eq_true rfl) ?_
            rintro q1 w ⟨rfl, mo, lf, hR⟩
            refine z_iconst (v := 0) h dX12_draw_117 (by decide) ?_
            refine z_istore h dX12_draw_118 (by rw [hn]; decide) ?_
            have loop_120 : ∀ (m_ : Nat) (k : Nat) (w : z_w), r_p dM (TM g) w0 (r_cf (MP (r_cf c (144, 0) (blk (c (144, 0)) (c (121, 0)) (12 * na) nb)) (ptf bu ch 8 (c (117, 0))) mo) (145, 0) (blk (c (145, 0)) (ptf bu ch 8 (c (117, 0))) (8 * na) k)) (r_cf l (116, 0) lf) r w → k ≤ 8 → 8 + 1 ≤ k + m_ → z_V X 0 0 w 120 [(0, vr (100, 0)), (1, vl (n_iron (c (121, 0)) (c (111, 0)) nb)), (3, vl (n_iron (c (121, 0)) (c (112, 0)) nb)), (5, vi (nI k))] [] := by
              intro m_
              induction m_ with
              | zero => intros; omega
              | succ m_ ih_120 =>
                intro k w hR hk hN
                refine z_iload h dX12_draw_120 rfl ?_
                refine z_bipush (v := 8) h dX12_draw_122 (by decide) ?_
                refine z_icmp_ge h dX12_draw_124 155 (by decide) (fun c_4 => ?_) (fun c_4 => ?_)
                · skip
                  have e1 : 8 ≤ k := (nI_leI (a := 8) (by omega) (by omega)).mp c_4
                  have hk8 : k = 8 := by omega
                  clear ih_120 hN
                  subst hk8
                  obtain ⟨cA, hcA⟩ : ∃ cA, cA = (r_cf (MP (r_cf c (144, 0) (blk (c (144, 0)) (c (121, 0)) (12 * na) nb)) (ptf bu ch 8 (c (117, 0))) mo) (145, 0) (blk (c (145, 0)) (ptf bu ch 8 (c (117, 0))) (8 * na) 8)) := ⟨_, rfl⟩
                  rw [← hcA] at hR
                  have qA : cA (100, 0) = c (100, 0) := by rw [hcA]; rfl
                  refine z_aload_n h dX12_draw_155 rfl ?_
                  refine y_getr h dX12_draw_156 hR flX12_97 (by first | assumption | exact Nat.le_of_ble_eq_true rfl) (by first | rfl | assumption | exact tx_2 (by first | assumption | omega) | exact tx_18 (by first | assumption | omega) | exact tx_19 (by first | assumption | omega) | exact tx_20 (by first | assumption | omega) | exact tx_27 (by first | assumption | omega) | exact tx_28 (by first | assumption | omega) | exact tx_30 (by first | assumption | omega) | exact tx_31 (by first | assumption | omega) | exact tx_32 (by first | assumption | omega) | exact tx_33 (by first | assumption | omega)) (by rfl) ?_
                  refine z_aload_n h dX12_draw_159 rfl ?_
                  refine y_geti h dX12_draw_160 hR flX12_257 (by first | assumption | exact Nat.le_of_ble_eq_true rfl) (by first | rfl | assumption | exact tx_2 (by first | assumption | omega) | exact tx_18 (by first | assumption | omega) | exact tx_19 (by first | assumption | omega) | exact tx_20 (by first | assumption | omega) | exact tx_27 (by first | assumption | omega) | exact tx_28 (by first | assumption | omega) | exact tx_30 (by first | assumption | omega) | exact tx_31 (by first | assumption | omega) | exact tx_32 (by first | assumption | omega) | exact tx_33 (by first | assumption | omega)) (by rfl) ?_
                  refine z_toe (y := nI na) (by rw [qA]; exact hc2) ?_
                  refine z_lload_n h dX12_draw_163 rfl ?_
                  refine z_ldc2 h dX12_draw_164 klX12_260 ?_
                  refine z_ldiv h dX12_draw_167 (by first | assumption | decide) ?_
                  refine z_l2i h dX12_draw_168 ?_
                  refine y_iast h dX12_draw_169 hR (by first | assumption | exact Nat.le_of_ble_eq_true rfl) (by first | rfl | assumption | exact tx_2 (by first | assumption | omega) | exact tx_18 (by first | assumption | omega) | exact tx_19 (by first | assumption | omega) | exact tx_20 (by first | assumption | omega) | exact tx_27 (by first | assumption | omega) | exact tx_28 (by first | assumption | omega) | exact tx_30 (by first | assumption | omega) | exact tx_31 (by first | assumption | omega) | exact tx_32 (by first | assumption | omega) | exact tx_33 (by first | assumption | omega)) (z_ixn (show na < 100 by omega) (by decide)) (fun w hR => ?_)
                  obtain ⟨cP, hcP⟩ : ∃ cP, cP = r_cs cA (146, 0) na (((n_iron (c (121, 0)) (c (111, 0)) nb) / 1000).toInt32) := ⟨_, rfl⟩
                  rw [← hcP] at hR
                  have eP : cP (146, 0) = upd (cA (146, 0)) na (((n_iron (c (121, 0)) (c (111, 0)) nb) / 1000).toInt32) := by rw [hcP, r_cs, r_cf_self]
                  have nP : ∀ t, t ≠ (146, 0) → cP t = cA t := fun t h => by rw [hcP, r_cs, r_cf_ne h]
                  have qP : cP (100, 0) = c (100, 0) := (nP _ (by simp)).trans qA
                  refine z_aload_n h dX12_draw_170 rfl ?_
                  refine y_getr h dX12_draw_171 hR flX12_100 (by first | assumption | exact Nat.le_of_ble_eq_true rfl) (by first | rfl | assumption | exact tx_2 (by first | assumption | omega) | exact tx_18 (by first | assumption | omega) | exact tx_19 (by first | assumption | omega) | exact tx_20 (by first | assumption | omega) | exact tx_27 (by first | assumption | omega) | exact tx_28 (by first | assumption | omega) | exact tx_30 (by first | assumption | omega) | exact tx_31 (by first | assumption | omega) | exact tx_32 (by first | assumption | omega) | exact tx_33 (by first | assumption | omega)) (by rfl) ?_
                  refine z_aload_n h dX12_draw_174 rfl ?_
                  refine y_geti h dX12_draw_175 hR flX12_257 (by first | assumption | exact Nat.le_of_ble_eq_true rfl) (by first | rfl | assumption | exact tx_2 (by first | assumption | omega) | exact tx_18 (by first | assumption | omega) | exact tx_19 (by first | assumption | omega) | exact tx_20 (by first | assumption | omega) | exact tx_27 (by first | assumption | omega) | exact tx_28 (by first | assumption | omega) | exact tx_30 (by first | assumption | omega) | exact tx_31 (by first | assumption | omega) | exact tx_32 (by first | assumption | omega) | exact tx_33 (by first | assumption | omega)) (by rfl) ?_
                  refine z_toe (y := nI na) (by rw [qP]; exact hc2) ?_
                  refine z_lload_n h dX12_draw_178 rfl ?_
                  refine z_ldc2 h dX12_draw_179 klX12_262 ?_
                  refine z_ladd h dX12_draw_182 ?_
                  refine z_ldc2 h dX12_draw_183 klX12_260 ?_
                  refine z_ldiv h dX12_draw_186 (by first | assumption | decide) ?_
                  refine z_l2i h dX12_draw_187 ?_
                  refine y_iast h dX12_draw_188 hR (by first | assumption | exact Nat.le_of_ble_eq_true rfl) (by first | rfl | assumption | exact tx_2 (by first | assumption | omega) | exact tx_18 (by first | assumption | omega) | exact tx_19 (by first | assumption | omega) | exact tx_20 (by first | assumption | omega) | exact tx_27 (by first | assumption | omega) | exact tx_28 (by first | assumption | omega) | exact tx_30 (by first | assumption | omega) | exact tx_31 (by first | assumption | omega) | exact tx_32 (by first | assumption | omega) | exact tx_33 (by first | assumption | omega)) (z_ixn (show na < 100 by omega) (by decide)) (fun w hR => ?_)
                  obtain ⟨cQ, hcQ⟩ : ∃ cQ, cQ = r_cs cP (147, 0) na ((((n_iron (c (121, 0)) (c (112, 0)) nb) + 999) / 1000).toInt32) := ⟨_, rfl⟩
                  rw [← hcQ] at hR
                  have eQ : cQ (147, 0) = upd (cP (147, 0)) na ((((n_iron (c (121, 0)) (c (112, 0)) nb) + 999) / 1000).toInt32) := by rw [hcQ, r_cs, r_cf_self]
                  have nQ : ∀ t, t ≠ (147, 0) → cQ t = cP t := fun t h => by rw [hcQ, r_cs, r_cf_ne h]
                  have qQ : cQ (100, 0) = c (100, 0) := (nQ _ (by simp)).trans qP
                  refine z_aload_n h dX12_draw_189 rfl ?_
                  refine y_getr h dX12_draw_190 hR flX12_103 (by first | assumption | exact Nat.le_of_ble_eq_true rfl) (by first | rfl | assumption | exact tx_2 (by first | assumption | omega) | exact tx_18 (by first | assumption | omega) | exact tx_19 (by first | assumption | omega) | exact tx_20 (by first | assumption | omega) | exact tx_27 (by first | assumption | omega) | exact tx_28 (by first | assumption | omega) | exact tx_30 (by first | assumption | omega) | exact tx_31 (by first | assumption | omega) | exact tx_32 (by first | assumption | omega) | exact tx_33 (by first | assumption | omega)) (by rfl) ?_
                  refine z_aload_n h dX12_draw_193 rfl ?_
                  refine y_geti h dX12_draw_194 hR flX12_257 (by first | assumption | exact Nat.le_of_ble_eq_true rfl) (by first | rfl | assumption | exact tx_2 (by first | assumption | omega) | exact tx_18 (by first | assumption | omega) | exact tx_19 (by first | assumption | omega) | exact tx_20 (by first | assumption | omega) | exact tx_27 (by first | assumption | omega) | exact tx_28 (by first | assumption | omega) | exact tx_30 (by first | assumption | omega) | exact tx_31 (by first | assumption | omega) | exact tx_32 (by first | assumption | omega) | exact tx_33 (by first | assumption | omega)) (by rfl) ?_
                  refine z_toe (y := nI na) (by rw [qQ]; exact hc2) ?_
                  have join_222 : z_V X 0 0 w 222 [(0, vr (100, 0)), (1, vl (n_iron (c (121, 0)) (c (111, 0)) nb)), (3, vl (n_iron (c (121, 0)) (c (112, 0)) nb)), (5, vi (nI 8))] [vi (if c (100, 0) 27 = 0 then 0 else if c (100, 0) 27 ≤ 10 then 1 else 2), vi (nI na), vr (148, 0)] := by
                    refine y_iast h dX12_draw_222 hR (by first | assumption | exact Nat.le_of_ble_eq_true rfl) (by first | rfl | assumption | exact tx_2 (by first | assumption | omega) | exact tx_18 (by first | assumption | omega) | exact tx_19 (by first | assumption | omega) | exact tx_20 (by first | assumption | omega) | exact tx_27 (by first | assumption | omega) | exact tx_28 (by first | assumption | omega) | exact tx_30 (by first | assumption | omega) | exact tx_31 (by first | assumption | omega) | exact tx_32 (by first | assumption | omega) | exact tx_33 (by first | assumption | omega)) (z_ixn (show na < 100 by omega) (by decide)) (fun w hR => ?_)
                    obtain ⟨cR, hcR⟩ : ∃ cR, cR = r_cs cQ (148, 0) na ((if c (100, 0) 27 = 0 then 0 else if c (100, 0) 27 ≤ 10 then 1 else 2)) := ⟨_, rfl⟩
                    rw [← hcR] at hR
                    have eR : cR (148, 0) = upd (cQ (148, 0)) na ((if c (100, 0) 27 = 0 then 0 else if c (100, 0) 27 ≤ 10 then 1 else 2)) := by rw [hcR, r_cs, r_cf_self]
                    have nR : ∀ t, t ≠ (148, 0) → cR t = cQ t := fun t h => by rw [hcR, r_cs, r_cf_ne h]
                    have qR : cR (100, 0) = c (100, 0) := (nR _ (by simp)).trans qQ
                    refine z_aload_n h dX12_draw_223 rfl ?_
                    refine y_getr h dX12_draw_224 hR flX12_106 (by first | assumption | exact Nat.le_of_ble_eq_true rfl) (by first | rfl | assumption | exact tx_2 (by first | assumption | omega) | exact tx_18 (by first | assumption | omega) | exact tx_19 (by first | assumption | omega) | exact tx_20 (by first | assumption | omega) | exact tx_27 (by first | assumption | omega) | exact tx_28 (by first | assumption | omega) | exact tx_30 (by first | assumption | omega) | exact tx_31 (by first | assumption | omega) | exact tx_32 (by first | assumption | omega) | exact tx_33 (by first | assumption | omega)) (by rfl) ?_
                    refine z_aload_n h dX12_draw_227 rfl ?_
                    refine y_geti h dX12_draw_228 hR flX12_257 (by first | assumption | exact Nat.le_of_ble_eq_true rfl) (by first | rfl | assumption | exact tx_2 (by first | assumption | omega) | exact tx_18 (by first | assumption | omega) | exact tx_19 (by first | assumption | omega) | exact tx_20 (by first | assumption | omega) | exact tx_27 (by first | assumption | omega) | exact tx_28 (by first | assumption | omega) | exact tx_30 (by first | assumption | omega) | exact tx_31 (by first | assumption | omega) | exact tx_32 (by first | assumption | omega) | exact tx_33 (by first | assumption | omega)) (by rfl) ?_
                    refine z_toe (y := nI na) (by rw [qR]; exact hc2) ?_
                    refine z_iconst (v := 0) h dX12_draw_231 (by decide) ?_
                    refine y_iast h dX12_draw_232 hR (by first | assumption | exact Nat.le_of_ble_eq_true rfl) (by first | rfl | assumption | exact tx_2 (by first | assumption | omega) | exact tx_18 (by first | assumption | omega) | exact tx_19 (by first | assumption | omega) | exact tx_20 (by first | assumption | omega) | exact tx_27 (by first | assumption | omega) | exact tx_28 (by first | assumption | omega) | exact tx_30 (by first | assumption | omega) | exact tx_31 (by first | assumption | omega) | exact tx_32 (by first | assumption | omega) | exact tx_33 (by first | assumption | omega)) (z_ixn (show na < 100 by omega) (by decide)) (fun w hR => ?_)
                    obtain ⟨cS, hcS⟩ : ∃ cS, cS = r_cs cR (149, 0) na (0) := ⟨_, rfl⟩
                    rw [← hcS] at hR
                    have eS : cS (149, 0) = upd (cR (149, 0)) na (0) := by rw [hcS, r_cs, r_cf_self]
                    have nS : ∀ t, t ≠ (149, 0) → cS t = cR t := fun t h => by rw [hcS, r_cs, r_cf_ne h]
                    have qS : cS (100, 0) = c (100, 0) := (nS _ (by simp)).trans qR
                    refine z_aload_n h dX12_draw_233 rfl ?_
                    refine y_getr h dX12_draw_234 hR flX12_109 (by first | assumption | exact Nat.le_of_ble_eq_true rfl) (by first | rfl | assumption | exact tx_2 (by first | assumption | omega) | exact tx_18 (by first | assumption | omega) | exact tx_19 (by first | assumption | omega) | exact tx_20 (by first | assumption | omega) | exact tx_27 (by first | assumption | omega) | exact tx_28 (by first | assumption | omega) | exact tx_30 (by first | assumption | omega) | exact tx_31 (by first | assumption | omega) | exact tx_32 (by first | assumption | omega) | exact tx_33 (by first | assumption | omega)) (by rfl) ?_
                    refine z_aload_n h dX12_draw_237 rfl ?_
                    refine y_geti h dX12_draw_238 hR flX12_257 (by first | assumption | exact Nat.le_of_ble_eq_true rfl) (by first | rfl | assumption | exact tx_2 (by first | assumption | omega) | exact tx_18 (by first | assumption | omega) | exact tx_19 (by first | assumption | omega) | exact tx_20 (by first | assumption | omega) | exact tx_27 (by first | assumption | omega) | exact tx_28 (by first | assumption | omega) | exact tx_30 (by first | assumption | omega) | exact tx_31 (by first | assumption | omega) | exact tx_32 (by first | assumption | omega) | exact tx_33 (by first | assumption | omega)) (by rfl) ?_
                    refine z_toe (y := nI na) (by rw [qS]; exact hc2) ?_
                    refine z_aload_n h dX12_draw_241 rfl ?_
                    refine y_geti h dX12_draw_242 hR flX12_191 (by first | assumption | exact Nat.le_of_ble_eq_true rfl) (by first | rfl | assumption | exact tx_2 (by first | assumption | omega) | exact tx_18 (by first | assumption | omega) | exact tx_19 (by first | assumption | omega) | exact tx_20 (by first | assumption | omega) | exact tx_27 (by first | assumption | omega) | exact tx_28 (by first | assumption | omega) | exact tx_30 (by first | assumption | omega) | exact tx_31 (by first | assumption | omega) | exact tx_32 (by first | assumption | omega) | exact tx_33 (by first | assumption | omega)) (by rfl) ?_
                    rw [qS]
                    refine y_iast h dX12_draw_245 hR (by first | assumption | exact Nat.le_of_ble_eq_true rfl) (by first | rfl | assumption | exact tx_2 (by first | assumption | omega) | exact tx_18 (by first | assumption | omega) | exact tx_19 (by first | assumption | omega) | exact tx_20 (by first | assumption | omega) | exact tx_27 (by first | assumption | omega) | exact tx_28 (by first | assumption | omega) | exact tx_30 (by first | assumption | omega) | exact tx_31 (by first | assumption | omega) | exact tx_32 (by first | assumption | omega) | exact tx_33 (by first | assumption | omega)) (z_ixn (show na < 100 by omega) (by decide)) (fun w hR => ?_)
                    obtain ⟨cT, hcT⟩ : ∃ cT, cT = r_cs cS (150, 0) na (c (100, 0) 0) := ⟨_, rfl⟩
                    rw [← hcT] at hR
                    have eT : cT (150, 0) = upd (cS (150, 0)) na (c (100, 0) 0) := by rw [hcT, r_cs, r_cf_self]
                    have nT : ∀ t, t ≠ (150, 0) → cT t = cS t := fun t h => by rw [hcT, r_cs, r_cf_ne h]
                    have qT : cT (100, 0) = c (100, 0) := (nT _ (by simp)).trans qS
                    refine z_aload_n h dX12_draw_246 rfl ?_
                    refine z_dup_r h dX12_draw_247 ?_
                    refine y_geti h dX12_draw_248 hR flX12_264 (by first | assumption | exact Nat.le_of_ble_eq_true rfl) (by first | rfl | assumption | exact tx_2 (by first | assumption | omega) | exact tx_18 (by first | assumption | omega) | exact tx_19 (by first | assumption | omega) | exact tx_20 (by first | assumption | omega) | exact tx_27 (by first | assumption | omega) | exact tx_28 (by first | assumption | omega) | exact tx_30 (by first | assumption | omega) | exact tx_31 (by first | assumption | omega) | exact tx_32 (by first | assumption | omega) | exact tx_33 (by first | assumption | omega)) (by rfl) ?_
                    refine z_aload_n h dX12_draw_251 rfl ?_
                    refine y_getr h dX12_draw_252 hR flX12_45 (by first | assumption | exact Nat.le_of_ble_eq_true rfl) (by first | rfl | assumption | exact tx_2 (by first | assumption | omega) | exact tx_18 (by first | assumption | omega) | exact tx_19 (by first | assumption | omega) | exact tx_20 (by first | assumption | omega) | exact tx_27 (by first | assumption | omega) | exact tx_28 (by first | assumption | omega) | exact tx_30 (by first | assumption | omega) | exact tx_31 (by first | assumption | omega) | exact tx_32 (by first | assumption | omega) | exact tx_33 (by first | assumption | omega)) (by rfl) ?_
                    refine z_callS h dX12_draw_255 (fun _ _ q => z_okv_no he q) (fun _ _ _ t q => absurd q (he t)) (m_X12_sum _ _ (119, 0) 12 (cT (119, 0)) (hR.ia (Nat.le_of_ble_eq_true rfl) rfl) (by decide)) ym_X12_sum mlX12_195 sm_X12_sum rfl (by decide) (Nat.le_of_ble_eq_true rfl) ?_
                    rintro q1 w1 ⟨rfl, hw1⟩
                    have hw1 := hw1.symm; subst hw1
                    refine z_iadd h dX12_draw_258 ?_
                    refine y_put h dX12_draw_259 he hR flX12_264 rfl (by first | assumption | exact Nat.le_of_ble_eq_true rfl) (by first | rfl | assumption | exact tx_2 (by first | assumption | omega) | exact tx_18 (by first | assumption | omega) | exact tx_19 (by first | assumption | omega) | exact tx_20 (by first | assumption | omega) | exact tx_27 (by first | assumption | omega) | exact tx_28 (by first | assumption | omega) | exact tx_30 (by first | assumption | omega) | exact tx_31 (by first | assumption | omega) | exact tx_32 (by first | assumption | omega) | exact tx_33 (by first | assumption | omega)) (by rfl) (fun w hR => ?_)
                    obtain ⟨cB, hcB⟩ : ∃ cB, cB = r_cs cT (100, 0) 7 (cT (100, 0) 7 + z_sum (cT (119, 0)) 12) := ⟨_, rfl⟩
                    rw [← hcB] at hR
                    have eB : cB (100, 0) = upd (cT (100, 0)) 7 (cT (100, 0) 7 + z_sum (cT (119, 0)) 12) := by rw [hcB, r_cs, r_cf_self]
                    have nB : ∀ t, t ≠ (100, 0) → cB t = cT t := fun t h => by rw [hcB, r_cs, r_cf_ne h]
                    have nA : ∀ t, t ≠ (117, 0) → t ≠ (118, 0) → t ≠ (144, 0) → t ≠ (145, 0) → cA t = c t := fun t h1 h2 h3 h4 => by rw [hcA, r_cf_ne h4, mp_ne h1 h2, r_cf_ne h3]
                    have nAT : ∀ t, t ≠ (146, 0) → t ≠ (147, 0) → t ≠ (148, 0) → t ≠ (149, 0) → t ≠ (150, 0) → cT t = cA t := fun t h1 h2 h3 h4 h5 => (nT t h5).trans ((nS t h4).trans ((nR t h3).trans ((nQ t h2).trans (nP t h1))))
                    have b100 : cB (100, 0) = upd (c (100, 0)) 7 (c (100, 0) 7 + z_sum (c (119, 0)) 12) := by rw [eB, qT, nAT (119, 0) (by simp) (by simp) (by simp) (by simp) (by simp), nA (119, 0) (by simp) (by simp) (by simp) (by simp)]
                    have b144 : cB (144, 0) = blk (c (144, 0)) (c (121, 0)) (12 * na) nb := (nB _ (by simp)).trans ((nAT _ (by simp) (by simp) (by simp) (by simp) (by simp)).trans (by rw [hcA, r_cf_ne (by simp), mp_ne (by simp) (by simp), r_cf_self]))
                    have b145 : cB (145, 0) = blk (c (145, 0)) (ptf bu ch 8 (c (117, 0))) (8 * na) 8 := (nB _ (by simp)).trans ((nAT _ (by simp) (by simp) (by simp) (by simp) (by simp)).trans (by rw [hcA, r_cf_self]))
                    have b146 : cB (146, 0) = upd (c (146, 0)) na (((n_iron (c (121, 0)) (c (111, 0)) nb) / 1000).toInt32) := (nB _ (by simp)).trans ((nT _ (by simp)).trans ((nS _ (by simp)).trans ((nR _ (by simp)).trans ((nQ _ (by simp)).trans (eP.trans (by rw [nA (146, 0) (by simp) (by simp) (by simp) (by simp)]))))))
                    have b147 : cB (147, 0) = upd (c (147, 0)) na ((((n_iron (c (121, 0)) (c (112, 0)) nb) + 999) / 1000).toInt32) := (nB _ (by simp)).trans ((nT _ (by simp)).trans ((nS _ (by simp)).trans ((nR _ (by simp)).trans (eQ.trans (by rw [nP _ (by simp), nA (147, 0) (by simp) (by simp) (by simp) (by simp)])))))
                    have b148 : cB (148, 0) = upd (c (148, 0)) na (if c (100, 0) 27 = 0 then 0 else if c (100, 0) 27 ≤ 10 then 1 else 2) := (nB _ (by simp)).trans ((nT _ (by simp)).trans ((nS _ (by simp)).trans (eR.trans (by rw [nQ _ (by simp), nP _ (by simp), nA (148, 0) (by simp) (by simp) (by simp) (by simp)]))))
                    have b149 : cB (149, 0) = upd (c (149, 0)) na 0 := (nB _ (by simp)).trans ((nT _ (by simp)).trans (eS.trans (by rw [nR _ (by simp), nQ _ (by simp), nP _ (by simp), nA (149, 0) (by simp) (by simp) (by simp) (by simp)])))
                    have b150 : cB (150, 0) = upd (c (150, 0)) na (c (100, 0) 0) := (nB _ (by simp)).trans (eT.trans (by rw [nS _ (by simp), nR _ (by simp), nQ _ (by simp), nP _ (by simp), nA (150, 0) (by simp) (by simp) (by simp) (by simp)]))
                    have bfr : ∀ t, t ≠ (100, 0) → t ≠ (117, 0) → t ≠ (118, 0) → t ≠ (144, 0) → t ≠ (145, 0) → t ≠ (146, 0) → t ≠ (147, 0) → t ≠ (148, 0) → t ≠ (149, 0) → t ≠ (150, 0) → cB t = c t := fun t h1 h2 h3 h4 h5 h6 h7 h8 h9 h10 => (nB t h1).trans ((nAT t h6 h7 h8 h9 h10).trans (nA t h2 h3 h4 h5))
                    refine z_iconst (v := 0) h dX12_draw_262 (by decide) ?_
                    refine z_istore h dX12_draw_263 (by rw [hn]; decide) ?_
                    have loop_265 : ∀ (k_ : Nat) (k : Nat) (w : z_w), r_p dM (TM g) w0 (r_cf (r_cf cB (119, 0) (fun q => if q < k then 0 else cB (119, 0) q)) (121, 0) (fun q => if q < k then 0 else cB (121, 0) q)) (r_cf l (116, 0) lf) r w → k ≤ 12 → 12 + 1 ≤ k + k_ → z_V X 0 0 w 265 [(0, vr (100, 0)), (1, vl (n_iron (c (121, 0)) (c (111, 0)) nb)), (3, vl (n_iron (c (121, 0)) (c (112, 0)) nb)), (5, vi (nI k))] [] := by
                      intro k_
                      induction k_ with
                      | zero => intros; omega
                      | succ k_ ih_265 =>
                        intro k w hR hk hN
                        refine z_iload h dX12_draw_265 rfl ?_
                        refine z_bipush (v := 12) h dX12_draw_267 (by decide) ?_
                        refine z_icmp_ge h dX12_draw_269 294 (by decide) (fun c_8 => ?_) (fun c_8 => ?_)
                        · skip
                          have e1 : 12 ≤ k := (nI_leI (a := 12) (by omega) (by omega)).mp c_8
                          have hk12 : k = 12 := by omega
                          rw [hk12] at hR
                          refine z_iconst (v := 0) h dX12_draw_294 (by decide) ?_
                          refine z_istore h dX12_draw_295 (by rw [hn]; decide) ?_
                          have loop_297 : ∀ (j_ : Nat) (k : Nat) (w : z_w), r_p dM (TM g) w0 (r_cf (r_cf (r_cf cB (119, 0) (fun q => if q < 12 then 0 else cB (119, 0) q)) (121, 0) (fun q => if q < 12 then 0 else cB (121, 0) q)) (120, 0) (fun q => if q < k then 0 else cB (120, 0) q)) (r_cf l (116, 0) lf) r w → k ≤ 8 → 8 + 1 ≤ k + j_ → z_V X 0 0 w 297 [(0, vr (100, 0)), (1, vl (n_iron (c (121, 0)) (c (111, 0)) nb)), (3, vl (n_iron (c (121, 0)) (c (112, 0)) nb)), (5, vi (nI k))] [] := by
                            intro j_
                            induction j_ with
                            | zero => intros; omega
                            | succ j_ ih_297 =>
                              intro k w hR hk hN
                              refine z_iload h dX12_draw_297 rfl ?_
                              refine z_bipush (v := 8) h dX12_draw_299 (by decide) ?_
                              refine z_icmp_ge h dX12_draw_301 318 (by decide) (fun c_9 => ?_) (fun c_9 => ?_)
                              · skip
                                have e1 : 8 ≤ k := (nI_leI (a := 8) (by omega) (by omega)).mp c_9
                                have hk88 : k = 8 := by omega
                                rw [hk88] at hR
                                obtain ⟨cC, hcC⟩ : ∃ cC, cC = (r_cf (r_cf (r_cf cB (119, 0) (fun q => if q < 12 then 0 else cB (119, 0) q)) (121, 0) (fun q => if q < 12 then 0 else cB (121, 0) q)) (120, 0) (fun q => if q < 8 then 0 else cB (120, 0) q)) := ⟨_, rfl⟩
                                rw [← hcC] at hR
                                have d100 : cC (100, 0) = upd (c (100, 0)) 7 (c (100, 0) 7 + z_sum (c (119, 0)) 12) := by rw [hcC]; exact b100
                                have d144 := (show cC (144, 0) = cB (144, 0) from by rw [hcC, r_cf_ne (by simp), r_cf_ne (by simp), r_cf_ne (by simp)]).trans b144
                                have d145 := (show cC (145, 0) = cB (145, 0) from by rw [hcC, r_cf_ne (by simp), r_cf_ne (by simp), r_cf_ne (by simp)]).trans b145
                                have d146 := (show cC (146, 0) = cB (146, 0) from by rw [hcC, r_cf_ne (by simp), r_cf_ne (by simp), r_cf_ne (by simp)]).trans b146
                                have d147 := (show cC (147, 0) = cB (147, 0) from by rw [hcC, r_cf_ne (by simp), r_cf_ne (by simp), r_cf_ne (by simp)]).trans b147
                                have d148 := (show cC (148, 0) = cB (148, 0) from by rw [hcC, r_cf_ne (by simp), r_cf_ne (by simp), r_cf_ne (by simp)]).trans b148
                                have d149 := (show cC (149, 0) = cB (149, 0) from by rw [hcC, r_cf_ne (by simp), r_cf_ne (by simp), r_cf_ne (by simp)]).trans b149
                                have d150 := (show cC (150, 0) = cB (150, 0) from by rw [hcC, r_cf_ne (by simp), r_cf_ne (by simp), r_cf_ne (by simp)]).trans b150
                                have d119 : ∀ i, i < 12 → cC (119, 0) i = 0 := fun i hi => by rw [hcC]; exact if_pos hi
                                have d121 : ∀ i, i < 12 → cC (121, 0) i = 0 := fun i hi => by rw [hcC]; exact if_pos hi
                                have d120 : ∀ i, i < 8 → cC (120, 0) i = 0 := fun i hi => by rw [hcC]; exact if_pos hi
                                refine z_aload_n h dX12_draw_318 rfl ?_
                                refine z_iconst (v := 0) h dX12_draw_319 (by decide) ?_
                                refine y_put h dX12_draw_320 he hR flX12_199 rfl (by first | assumption | exact Nat.le_of_ble_eq_true rfl) (by first | rfl | assumption | exact tx_2 (by first | assumption | omega) | exact tx_18 (by first | assumption | omega) | exact tx_19 (by first | assumption | omega) | exact tx_20 (by first | assumption | omega) | exact tx_27 (by first | assumption | omega) | exact tx_28 (by first | assumption | omega) | exact tx_30 (by first | assumption | omega) | exact tx_31 (by first | assumption | omega) | exact tx_32 (by first | assumption | omega) | exact tx_33 (by first | assumption | omega)) (by rfl) (fun w hR => ?_)
                                refine z_aload_n h dX12_draw_323 rfl ?_
                                refine z_iconst (v := 0) h dX12_draw_324 (by decide) ?_
                                refine y_put h dX12_draw_325 he hR flX12_209 rfl (by first | assumption | exact Nat.le_of_ble_eq_true rfl) (by first | rfl | assumption | exact tx_2 (by first | assumption | omega) | exact tx_18 (by first | assumption | omega) | exact tx_19 (by first | assumption | omega) | exact tx_20 (by first | assumption | omega) | exact tx_27 (by first | assumption | omega) | exact tx_28 (by first | assumption | omega) | exact tx_30 (by first | assumption | omega) | exact tx_31 (by first | assumption | omega) | exact tx_32 (by first | assumption | omega) | exact tx_33 (by first | assumption | omega)) (by rfl) (fun w hR => ?_)
                                refine z_aload_n h dX12_draw_328 rfl ?_
                                refine z_iconst (v := 0) h dX12_draw_329 (by decide) ?_
                                refine y_put h dX12_draw_330 he hR flX12_206 rfl (by first | assumption | exact Nat.le_of_ble_eq_true rfl) (by first | rfl | assumption | exact tx_2 (by first | assumption | omega) | exact tx_18 (by first | assumption | omega) | exact tx_19 (by first | assumption | omega) | exact tx_20 (by first | assumption | omega) | exact tx_27 (by first | assumption | omega) | exact tx_28 (by first | assumption | omega) | exact tx_30 (by first | assumption | omega) | exact tx_31 (by first | assumption | omega) | exact tx_32 (by first | assumption | omega) | exact tx_33 (by first | assumption | omega)) (by rfl) (fun w hR => ?_)
                                refine z_aload_n h dX12_draw_333 rfl ?_
                                refine z_iconst (v := 0) h dX12_draw_334 (by decide) ?_
                                refine y_put h dX12_draw_335 he hR flX12_212 rfl (by first | assumption | exact Nat.le_of_ble_eq_true rfl) (by first | rfl | assumption | exact tx_2 (by first | assumption | omega) | exact tx_18 (by first | assumption | omega) | exact tx_19 (by first | assumption | omega) | exact tx_20 (by first | assumption | omega) | exact tx_27 (by first | assumption | omega) | exact tx_28 (by first | assumption | omega) | exact tx_30 (by first | assumption | omega) | exact tx_31 (by first | assumption | omega) | exact tx_32 (by first | assumption | omega) | exact tx_33 (by first | assumption | omega)) (by rfl) (fun w hR => ?_)
                                refine z_aload_n h dX12_draw_338 rfl ?_
                                refine z_iconst (v := 0) h dX12_draw_339 (by decide) ?_
                                refine y_put h dX12_draw_340 he hR flX12_221 rfl (by first | assumption | exact Nat.le_of_ble_eq_true rfl) (by first | rfl | assumption | exact tx_2 (by first | assumption | omega) | exact tx_18 (by first | assumption | omega) | exact tx_19 (by first | assumption | omega) | exact tx_20 (by first | assumption | omega) | exact tx_27 (by first | assumption | omega) | exact tx_28 (by first | assumption | omega) | exact tx_30 (by first | assumption | omega) | exact tx_31 (by first | assumption | omega) | exact tx_32 (by first | assumption | omega) | exact tx_33 (by first | assumption | omega)) (by rfl) (fun w hR => ?_)
                                refine z_aload_n h dX12_draw_343 rfl ?_
                                refine z_iconst (v := 0) h dX12_draw_344 (by decide) ?_
                                refine y_put h dX12_draw_345 he hR flX12_224 rfl (by first | assumption | exact Nat.le_of_ble_eq_true rfl) (by first | rfl | assumption | exact tx_2 (by first | assumption | omega) | exact tx_18 (by first | assumption | omega) | exact tx_19 (by first | assumption | omega) | exact tx_20 (by first | assumption | omega) | exact tx_27 (by first | assumption | omega) | exact tx_28 (by first | assumption | omega) | exact tx_30 (by first | assumption | omega) | exact tx_31 (by first | assumption | omega) | exact tx_32 (by first | assumption | omega) | exact tx_33 (by first | assumption | omega)) (by rfl) (fun w hR => ?_)
                                refine z_aload_n h dX12_draw_348 rfl ?_
                                refine z_iconst (v := -1) h dX12_draw_349 (by decide) ?_
                                refine y_put h dX12_draw_350 he hR flX12_54 rfl (by first | assumption | exact Nat.le_of_ble_eq_true rfl) (by first | rfl | assumption | exact tx_2 (by first | assumption | omega) | exact tx_18 (by first | assumption | omega) | exact tx_19 (by first | assumption | omega) | exact tx_20 (by first | assumption | omega) | exact tx_27 (by first | assumption | omega) | exact tx_28 (by first | assumption | omega) | exact tx_30 (by first | assumption | omega) | exact tx_31 (by first | assumption | omega) | exact tx_32 (by first | assumption | omega) | exact tx_33 (by first | assumption | omega)) (by rfl) (fun w hR => ?_)
                                refine z_aload_n h dX12_draw_353 rfl ?_
                                refine z_dup_r h dX12_draw_354 ?_
                                refine y_geti h dX12_draw_355 hR flX12_257 (by first | assumption | exact Nat.le_of_ble_eq_true rfl) (by first | rfl | assumption | exact tx_2 (by first | assumption | omega) | exact tx_18 (by first | assumption | omega) | exact tx_19 (by first | assumption | omega) | exact tx_20 (by first | assumption | omega) | exact tx_27 (by first | assumption | omega) | exact tx_28 (by first | assumption | omega) | exact tx_30 (by first | assumption | omega) | exact tx_31 (by first | assumption | omega) | exact tx_32 (by first | assumption | omega) | exact tx_33 (by first | assumption | omega)) (by rfl) ?_
                                refine z_iconst (v := 1) h dX12_draw_358 (by decide) ?_
                                refine z_iadd h dX12_draw_359 ?_
                                refine y_put h dX12_draw_360 he hR flX12_257 rfl (by first | assumption | exact Nat.le_of_ble_eq_true rfl) (by first | rfl | assumption | exact tx_2 (by first | assumption | omega) | exact tx_18 (by first | assumption | omega) | exact tx_19 (by first | assumption | omega) | exact tx_20 (by first | assumption | omega) | exact tx_27 (by first | assumption | omega) | exact tx_28 (by first | assumption | omega) | exact tx_30 (by first | assumption | omega) | exact tx_31 (by first | assumption | omega) | exact tx_32 (by first | assumption | omega) | exact tx_33 (by first | assumption | omega)) (by rfl) (fun w hR => ?_)
                                refine z_aload_n h dX12_draw_363 rfl ?_
                                refine y_geti h dX12_draw_364 hR flX12_257 (by first | assumption | exact Nat.le_of_ble_eq_true rfl) (by first | rfl | assumption | exact tx_2 (by first | assumption | omega) | exact tx_18 (by first | assumption | omega) | exact tx_19 (by first | assumption | omega) | exact tx_20 (by first | assumption | omega) | exact tx_27 (by first | assumption | omega) | exact tx_28 (by first | assumption | omega) | exact tx_30 (by first | assumption | omega) | exact tx_31 (by first | assumption | omega) | exact tx_32 (by first | assumption | omega) | exact tx_33 (by first | assumption | omega)) (by rfl) ?_
                                refine z_iconst (v := 1) h dX12_draw_367 (by decide) ?_
                                refine z_isub h dX12_draw_368 ?_
                                exact z_iret h dX12_draw_369 hr (z_t ⟨hna9, c_1⟩ ⟨z_e1 (by show cC (100, 0) 2 + 1 - 1 = _; rw [d100]; show c (100, 0) 2 + 1 - 1 = _; rw [hc2, nI_1, nI_pred]), _, _, hR, d144, d145, d146, d147, d148, d149, d150, (by show cC (100, 0) 2 + 1 = _; rw [d100]; show c (100, 0) 2 + 1 = _; rw [hc2, nI_1]), (by show cC (100, 0) 7 = _; rw [d100]; rfl), (fun k hk1 hk2 => by
        rcases (show k = 22 ∨ k = 23 ∨ k = 24 ∨ k = 25 ∨ k = 26 ∨ k = 27 by omega) with rfl | rfl | rfl | rfl | rfl | rfl <;> rfl), rfl, (fun k h2 h7 hk => by
        simp only [r_cs, r_cf_self]
        rw [pk_un (show k ≠ 2 by omega), pk_un (show k ≠ 28 by omega), pk_un (show k ≠ 27 by omega), pk_un (show k ≠ 26 by omega), pk_un (show k ≠ 25 by omega), pk_un (show k ≠ 24 by omega), pk_un (show k ≠ 23 by omega), pk_un (show k ≠ 22 by omega), d100, pk_un h7]), d119, d121, d120, (fun t h1 h2 h3 h4 h5 h6 h7 h8 h9 h10 h11 h12 h13 => by
        simp only [r_cs]
        rw [r_cf_ne h1, r_cf_ne h1, r_cf_ne h1, r_cf_ne h1, r_cf_ne h1, r_cf_ne h1, r_cf_ne h1, r_cf_ne h1, hcC, r_cf_ne h5, r_cf_ne h6, r_cf_ne h4, bfr t h1 h2 h3 h7 h8 h9 h10 h11 h12 h13])⟩)
                              · skip
                                have e1 : ¬ 8 ≤ k := fun q => c_9 ((nI_leI (a := 8) (by omega) (by omega)).mpr q)
                                refine z_aload_n h dX12_draw_304 rfl ?_
                                refine y_getr h dX12_draw_305 hR flX12_48 (by first | assumption | exact Nat.le_of_ble_eq_true rfl) (by first | rfl | assumption | exact tx_2 (by first | assumption | omega) | exact tx_18 (by first | assumption | omega) | exact tx_19 (by first | assumption | omega) | exact tx_20 (by first | assumption | omega) | exact tx_27 (by first | assumption | omega) | exact tx_28 (by first | assumption | omega) | exact tx_30 (by first | assumption | omega) | exact tx_31 (by first | assumption | omega) | exact tx_32 (by first | assumption | omega) | exact tx_33 (by first | assumption | omega)) (by rfl) ?_
                                refine z_iload h dX12_draw_308 rfl ?_
                                refine z_iconst (v := 0) h dX12_draw_310 (by decide) ?_
                                refine y_iast h dX12_draw_311 hR (by first | assumption | exact Nat.le_of_ble_eq_true rfl) (by first | rfl | assumption | exact tx_2 (by first | assumption | omega) | exact tx_18 (by first | assumption | omega) | exact tx_19 (by first | assumption | omega) | exact tx_20 (by first | assumption | omega) | exact tx_27 (by first | assumption | omega) | exact tx_28 (by first | assumption | omega) | exact tx_30 (by first | assumption | omega) | exact tx_31 (by first | assumption | omega) | exact tx_32 (by first | assumption | omega) | exact tx_33 (by first | assumption | omega)) (z_ixn (show k < 8 by omega) (by decide)) (fun w hR => ?_)
                                refine z_iinc (v := 1) h dX12_draw_312 rfl (by decide) (by rw [hn]; decide) ?_
                                refine z_goto h dX12_draw_315 297 (by decide) ?_
                                refine z_loc [(0, vr (100, 0)), (1, vl (n_iron (c (121, 0)) (c (111, 0)) nb)), (3, vl (n_iron (c (121, 0)) (c (112, 0)) nb)), (5, vi (nI (k + 1)))] ⟨rfl, rfl, rfl, congrArg (fun z => some (vi z)) (z_up k), trivial⟩ ?_
                                exact ih_297 (k + 1) w (by
                                  have e : r_cs (r_cf (r_cf (r_cf cB (119, 0) (fun q => if q < 12 then 0 else cB (119, 0) q)) (121, 0) (fun q => if q < 12 then 0 else cB (121, 0) q)) (120, 0) (fun q => if q < k then 0 else cB (120, 0) q)) (120, 0) k 0 = (r_cf (r_cf (r_cf cB (119, 0) (fun q => if q < 12 then 0 else cB (119, 0) q)) (121, 0) (fun q => if q < 12 then 0 else cB (121, 0) q)) (120, 0) (fun q => if q < (k + 1) then 0 else cB (120, 0) q)) := by rw [r_cs, r_cf_self, z_upd_fill, r_cf_cf]
                                  rw [← e]; exact hR) (by omega) (by omega)
                          exact z_loc [(0, vr (100, 0)), (1, vl (n_iron (c (121, 0)) (c (111, 0)) nb)), (3, vl (n_iron (c (121, 0)) (c (112, 0)) nb)), (5, vi (nI 0))] ⟨rfl, rfl, rfl, rfl, trivial⟩ (loop_297 (8 + 1) 0 w (by
                            have e : (r_cf (r_cf (r_cf cB (119, 0) (fun q => if q < 12 then 0 else cB (119, 0) q)) (121, 0) (fun q => if q < 12 then 0 else cB (121, 0) q)) (120, 0) (fun q => if q < 0 then 0 else cB (120, 0) q)) = (r_cf (r_cf cB (119, 0) (fun q => if q < 12 then 0 else cB (119, 0) q)) (121, 0) (fun q => if q < 12 then 0 else cB (121, 0) q)) := by rw [show (fun q => if q < 0 then 0 else cB (120, 0) q) = (r_cf (r_cf cB (119, 0) (fun q => if q < 12 then 0 else cB (119, 0) q)) (121, 0) (fun q => if q < 12 then 0 else cB (121, 0) q)) (120, 0) from funext fun k => if_neg (by omega), r_cf_same]
                            rw [e]; exact hR) (by omega) (by omega))
                        · skip
                          have e1 : ¬ 12 ≤ k := fun q => c_8 ((nI_leI (a := 12) (by omega) (by omega)).mpr q)
                          refine z_aload_n h dX12_draw_272 rfl ?_
                          refine y_getr h dX12_draw_273 hR flX12_45 (by first | assumption | exact Nat.le_of_ble_eq_true rfl) (by first | rfl | assumption | exact tx_2 (by first | assumption | omega) | exact tx_18 (by first | assumption | omega) | exact tx_19 (by first | assumption | omega) | exact tx_20 (by first | assumption | omega) | exact tx_27 (by first | assumption | omega) | exact tx_28 (by first | assumption | omega) | exact tx_30 (by first | assumption | omega) | exact tx_31 (by first | assumption | omega) | exact tx_32 (by first | assumption | omega) | exact tx_33 (by first | assumption | omega)) (by rfl) ?_
                          refine z_iload h dX12_draw_276 rfl ?_
                          refine z_iconst (v := 0) h dX12_draw_278 (by decide) ?_
                          refine y_iast h dX12_draw_279 hR (by first | assumption | exact Nat.le_of_ble_eq_true rfl) (by first | rfl | assumption | exact tx_2 (by first | assumption | omega) | exact tx_18 (by first | assumption | omega) | exact tx_19 (by first | assumption | omega) | exact tx_20 (by first | assumption | omega) | exact tx_27 (by first | assumption | omega) | exact tx_28 (by first | assumption | omega) | exact tx_30 (by first | assumption | omega) | exact tx_31 (by first | assumption | omega) | exact tx_32 (by first | assumption | omega) | exact tx_33 (by first | assumption | omega)) (z_ixn (show k < 12 by omega) (by decide)) (fun w hR => ?_)
                          refine z_aload_n h dX12_draw_280 rfl ?_
                          refine y_getr h dX12_draw_281 hR flX12_51 (by first | assumption | exact Nat.le_of_ble_eq_true rfl) (by first | rfl | assumption | exact tx_2 (by first | assumption | omega) | exact tx_18 (by first | assumption | omega) | exact tx_19 (by first | assumption | omega) | exact tx_20 (by first | assumption | omega) | exact tx_27 (by first | assumption | omega) | exact tx_28 (by first | assumption | omega) | exact tx_30 (by first | assumption | omega) | exact tx_31 (by first | assumption | omega) | exact tx_32 (by first | assumption | omega) | exact tx_33 (by first | assumption | omega)) (by rfl) ?_
                          refine z_iload h dX12_draw_284 rfl ?_
                          refine z_iconst (v := 0) h dX12_draw_286 (by decide) ?_
                          refine y_iast h dX12_draw_287 hR (by first | assumption | exact Nat.le_of_ble_eq_true rfl) (by first | rfl | assumption | exact tx_2 (by first | assumption | omega) | exact tx_18 (by first | assumption | omega) | exact tx_19 (by first | assumption | omega) | exact tx_20 (by first | assumption | omega) | exact tx_27 (by first | assumption | omega) | exact tx_28 (by first | assumption | omega) | exact tx_30 (by first | assumption | omega) | exact tx_31 (by first | assumption | omega) | exact tx_32 (by first | assumption | omega) | exact tx_33 (by first | assumption | omega)) (z_ixn (show k < 12 by omega) (by decide)) (fun w hR => ?_)
                          refine z_iinc (v := 1) h dX12_draw_288 rfl (by decide) (by rw [hn]; decide) ?_
                          refine z_goto h dX12_draw_291 265 (by decide) ?_
                          refine z_loc [(0, vr (100, 0)), (1, vl (n_iron (c (121, 0)) (c (111, 0)) nb)), (3, vl (n_iron (c (121, 0)) (c (112, 0)) nb)), (5, vi (nI (k + 1)))] ⟨rfl, rfl, rfl, congrArg (fun z => some (vi z)) (z_up k), trivial⟩ ?_
                          exact ih_265 (k + 1) w (by
                            have e : r_cs (r_cs (r_cf (r_cf cB (119, 0) (fun q => if q < k then 0 else cB (119, 0) q)) (121, 0) (fun q => if q < k then 0 else cB (121, 0) q)) (119, 0) k 0) (121, 0) k 0 = (r_cf (r_cf cB (119, 0) (fun q => if q < (k + 1) then 0 else cB (119, 0) q)) (121, 0) (fun q => if q < (k + 1) then 0 else cB (121, 0) q)) := by
                              have e1 : r_cs (r_cf (r_cf cB (119, 0) (fun q => if q < k then 0 else cB (119, 0) q)) (121, 0) (fun q => if q < k then 0 else cB (121, 0) q)) (119, 0) k 0 = r_cf (r_cf cB (119, 0) (fun q => if q < (k + 1) then 0 else cB (119, 0) q)) (121, 0) (fun q => if q < k then 0 else cB (121, 0) q) := by
                                rw [r_cs, r_cf_ne (t := (121, 0)) (by simp), r_cf_self, z_upd_fill, r_cf_comm (t := (121, 0)) (u := (119, 0)) rfl, r_cf_cf]
                              rw [e1, r_cs, r_cf_self, z_upd_fill, r_cf_cf]
                            rw [← e]; exact hR) (by omega) (by omega)
                    exact z_loc [(0, vr (100, 0)), (1, vl (n_iron (c (121, 0)) (c (111, 0)) nb)), (3, vl (n_iron (c (121, 0)) (c (112, 0)) nb)), (5, vi (nI 0))] ⟨rfl, rfl, rfl, rfl, trivial⟩ (loop_265 (12 + 1) 0 w (by
                      have e : (r_cf (r_cf cB (119, 0) (fun q => if q < 0 then 0 else cB (119, 0) q)) (121, 0) (fun q => if q < 0 then 0 else cB (121, 0) q)) = cB := by
                        rw [show (fun q => if q < 0 then 0 else cB (119, 0) q) = cB (119, 0) from funext fun k => if_neg (by omega), show (fun q => if q < 0 then 0 else cB (121, 0) q) = cB (121, 0) from funext fun k => if_neg (by omega), r_cf_same, r_cf_same]
                      rw [e]; exact hR) (by omega) (by omega))
                  refine z_aload_n h dX12_draw_197 rfl ?_
                  refine y_geti h dX12_draw_198 hR flX12_224 (by first | assumption | exact Nat.le_of_ble_eq_true rfl) (by first | rfl | assumption | exact tx_2 (by first | assumption | omega) | exact tx_18 (by first | assumption | omega) | exact tx_19 (by first | assumption | omega) | exact tx_20 (by first | assumption | omega) | exact tx_27 (by first | assumption | omega) | exact tx_28 (by first | assumption | omega) | exact tx_30 (by first | assumption | omega) | exact tx_31 (by first | assumption | omega) | exact tx_32 (by first | assumption | omega) | exact tx_33 (by first | assumption | omega)) (by rfl) ?_
                  rw [qQ]
                  refine z_if_ne h dX12_draw_201 208 (by decide) (fun c_5 => ?_) (fun c_5 => ?_)
                  · skip
                    refine z_aload_n h dX12_draw_208 rfl ?_
                    refine y_geti h dX12_draw_209 hR flX12_224 (by first | assumption | exact Nat.le_of_ble_eq_true rfl) (by first | rfl | assumption | exact tx_2 (by first | assumption | omega) | exact tx_18 (by first | assumption | omega) | exact tx_19 (by first | assumption | omega) | exact tx_20 (by first | assumption | omega) | exact tx_27 (by first | assumption | omega) | exact tx_28 (by first | assumption | omega) | exact tx_30 (by first | assumption | omega) | exact tx_31 (by first | assumption | omega) | exact tx_32 (by first | assumption | omega) | exact tx_33 (by first | assumption | omega)) (by rfl) ?_
                    rw [qQ]
                    refine z_bipush (v := 10) h dX12_draw_212 (by decide) ?_
                    refine z_icmp_gt h dX12_draw_214 221 (by decide) (fun c_7 => ?_) (fun c_7 => ?_)
                    · skip
                      have c_6 : ¬ c (100, 0) 27 ≤ 10 := Int32.not_le.mpr c_7
                      refine z_iconst (v := 2) h dX12_draw_221 (by decide) ?_
                      refine z_toe (y := (if c (100, 0) 27 = 0 then 0 else if c (100, 0) 27 ≤ 10 then 1 else 2)) (by rw [if_neg c_5, if_neg c_6]) ?_
                      exact z_loc [(0, vr (100, 0)), (1, vl (n_iron (c (121, 0)) (c (111, 0)) nb)), (3, vl (n_iron (c (121, 0)) (c (112, 0)) nb)), (5, vi (nI 8))] ⟨rfl, rfl, rfl, rfl, trivial⟩ join_222
                    · skip
                      have c_6 : c (100, 0) 27 ≤ 10 := Int32.not_lt.mp c_7
                      refine z_iconst (v := 1) h dX12_draw_217 (by decide) ?_
                      refine z_goto h dX12_draw_218 222 (by decide) ?_
                      refine z_toe (y := (if c (100, 0) 27 = 0 then 0 else if c (100, 0) 27 ≤ 10 then 1 else 2)) (by rw [if_neg c_5, if_pos c_6]) ?_
                      exact z_loc [(0, vr (100, 0)), (1, vl (n_iron (c (121, 0)) (c (111, 0)) nb)), (3, vl (n_iron (c (121, 0)) (c (112, 0)) nb)), (5, vi (nI 8))] ⟨rfl, rfl, rfl, rfl, trivial⟩ join_222
                  · skip
                    refine z_iconst (v := 0) h dX12_draw_204 (by decide) ?_
                    refine z_goto h dX12_draw_205 222 (by decide) ?_
                    refine z_toe (y := (if c (100, 0) 27 = 0 then 0 else if c (100, 0) 27 ≤ 10 then 1 else 2)) (if_pos c_5).symm ?_
                    exact z_loc [(0, vr (100, 0)), (1, vl (n_iron (c (121, 0)) (c (111, 0)) nb)), (3, vl (n_iron (c (121, 0)) (c (112, 0)) nb)), (5, vi (nI 8))] ⟨rfl, rfl, rfl, rfl, trivial⟩ join_222
                · skip
                  have e1 : ¬ 8 ≤ k := fun q => c_4 ((nI_leI (a := 8) (by omega) (by omega)).mpr q)
                  refine z_aload_n h dX12_draw_127 rfl ?_
                  refine y_getr h dX12_draw_128 hR flX12_94 (by first | assumption | exact Nat.le_of_ble_eq_true rfl) (by first | rfl | assumption | exact tx_2 (by first | assumption | omega) | exact tx_18 (by first | assumption | omega) | exact tx_19 (by first | assumption | omega) | exact tx_20 (by first | assumption | omega) | exact tx_27 (by first | assumption | omega) | exact tx_28 (by first | assumption | omega) | exact tx_30 (by first | assumption | omega) | exact tx_31 (by first | assumption | omega) | exact tx_32 (by first | assumption | omega) | exact tx_33 (by first | assumption | omega)) (by rfl) ?_
                  refine z_bipush (v := 8) h dX12_draw_131 (by decide) ?_
                  refine z_aload_n h dX12_draw_133 rfl ?_
                  refine y_geti h dX12_draw_134 hR flX12_257 (by first | assumption | exact Nat.le_of_ble_eq_true rfl) (by first | rfl | assumption | exact tx_2 (by first | assumption | omega) | exact tx_18 (by first | assumption | omega) | exact tx_19 (by first | assumption | omega) | exact tx_20 (by first | assumption | omega) | exact tx_27 (by first | assumption | omega) | exact tx_28 (by first | assumption | omega) | exact tx_30 (by first | assumption | omega) | exact tx_31 (by first | assumption | omega) | exact tx_32 (by first | assumption | omega) | exact tx_33 (by first | assumption | omega)) (by rfl) ?_
                  refine z_imul h dX12_draw_137 ?_
                  refine z_iload h dX12_draw_138 rfl ?_
                  refine z_iadd h dX12_draw_140 ?_
                  refine z_toe (y := nI (8 * na + k)) (by show 8 * c (100, 0) 2 + nI k = _; rw [hc2]; show nI 8 * nI na + nI k = _; rw [nI_mul, nI_add]) ?_
                  refine z_aload_n h dX12_draw_141 rfl ?_
                  refine y_getr h dX12_draw_142 hR flX12_38 (by first | assumption | exact Nat.le_of_ble_eq_true rfl) (by first | rfl | assumption | exact tx_2 (by first | assumption | omega) | exact tx_18 (by first | assumption | omega) | exact tx_19 (by first | assumption | omega) | exact tx_20 (by first | assumption | omega) | exact tx_27 (by first | assumption | omega) | exact tx_28 (by first | assumption | omega) | exact tx_30 (by first | assumption | omega) | exact tx_31 (by first | assumption | omega) | exact tx_32 (by first | assumption | omega) | exact tx_33 (by first | assumption | omega)) (by rfl) ?_
                  refine z_iload h dX12_draw_145 rfl ?_
                  refine y_iald h dX12_draw_147 hR (by first | assumption | exact Nat.le_of_ble_eq_true rfl) (by first | rfl | assumption | exact tx_2 (by first | assumption | omega) | exact tx_18 (by first | assumption | omega) | exact tx_19 (by first | assumption | omega) | exact tx_20 (by first | assumption | omega) | exact tx_27 (by first | assumption | omega) | exact tx_28 (by first | assumption | omega) | exact tx_30 (by first | assumption | omega) | exact tx_31 (by first | assumption | omega) | exact tx_32 (by first | assumption | omega) | exact tx_33 (by first | assumption | omega)) (z_ixn (show k < 12 by omega) (by decide)) ?_
                  refine y_iast h dX12_draw_148 hR (by first | assumption | exact Nat.le_of_ble_eq_true rfl) (by first | rfl | assumption | exact tx_2 (by first | assumption | omega) | exact tx_18 (by first | assumption | omega) | exact tx_19 (by first | assumption | omega) | exact tx_20 (by first | assumption | omega) | exact tx_27 (by first | assumption | omega) | exact tx_28 (by first | assumption | omega) | exact tx_30 (by first | assumption | omega) | exact tx_31 (by first | assumption | omega) | exact tx_32 (by first | assumption | omega) | exact tx_33 (by first | assumption | omega)) (z_ixn (show 8 * na + k < 800 by omega) (by decide)) (fun w hR => ?_)
                  refine z_iinc (v := 1) h dX12_draw_149 rfl (by decide) (by rw [hn]; decide) ?_
                  refine z_goto h dX12_draw_152 120 (by decide) ?_
                  refine z_loc [(0, vr (100, 0)), (1, vl (n_iron (c (121, 0)) (c (111, 0)) nb)), (3, vl (n_iron (c (121, 0)) (c (112, 0)) nb)), (5, vi (nI (k + 1)))] ⟨rfl, rfl, rfl, congrArg (fun z => some (vi z)) (z_up k), trivial⟩ ?_
                  exact ih_120 (k + 1) w (by
                    have e : r_cs (r_cf (MP (r_cf c (144, 0) (blk (c (144, 0)) (c (121, 0)) (12 * na) nb)) (ptf bu ch 8 (c (117, 0))) mo) (145, 0) (blk (c (145, 0)) (ptf bu ch 8 (c (117, 0))) (8 * na) k)) (145, 0) (8 * na + k) ((ptf bu ch 8 (c (117, 0))) k) = (r_cf (MP (r_cf c (144, 0) (blk (c (144, 0)) (c (121, 0)) (12 * na) nb)) (ptf bu ch 8 (c (117, 0))) mo) (145, 0) (blk (c (145, 0)) (ptf bu ch 8 (c (117, 0))) (8 * na) (k + 1))) := by rw [r_cs, r_cf_self, r_cf_cf, blk_up]
                    rw [← e]; exact hR) (by omega) (by omega)
            exact z_loc [(0, vr (100, 0)), (1, vl (n_iron (c (121, 0)) (c (111, 0)) nb)), (3, vl (n_iron (c (121, 0)) (c (112, 0)) nb)), (5, vi (nI 0))] ⟨rfl, rfl, rfl, rfl, trivial⟩ (loop_120 (8 + 1) 0 w (by rw [blk_0, show c (145, 0) = (MP (r_cf c (144, 0) (blk (c (144, 0)) (c (121, 0)) (12 * na) nb)) (ptf bu ch 8 (c (117, 0))) mo) (145, 0) from rfl, r_cf_same]; exact hR) (by omega) (by omega))
          · skip
            have e1 : ¬ nb ≤ i := fun q => c_3 ((nI_leI (by omega) (by omega)).mpr q)
            refine z_aload_n h dX12_draw_37 rfl ?_
            refine y_getr h dX12_draw_38 hR flX12_91 (by first | assumption | exact Nat.le_of_ble_eq_true rfl) (by first | rfl | assumption | exact tx_2 (by first | assumption | omega) | exact tx_18 (by first | assumption | omega) | exact tx_19 (by first | assumption | omega) | exact tx_20 (by first | assumption | omega) | exact tx_27 (by first | assumption | omega) | exact tx_28 (by first | assumption | omega) | exact tx_30 (by first | assumption | omega) | exact tx_31 (by first | assumption | omega) | exact tx_32 (by first | assumption | omega) | exact tx_33 (by first | assumption | omega)) (by rfl) ?_
            refine z_bipush (v := 12) h dX12_draw_41 (by decide) ?_
            refine z_aload_n h dX12_draw_43 rfl ?_
            refine y_geti h dX12_draw_44 hR flX12_257 (by first | assumption | exact Nat.le_of_ble_eq_true rfl) (by first | rfl | assumption | exact tx_2 (by first | assumption | omega) | exact tx_18 (by first | assumption | omega) | exact tx_19 (by first | assumption | omega) | exact tx_20 (by first | assumption | omega) | exact tx_27 (by first | assumption | omega) | exact tx_28 (by first | assumption | omega) | exact tx_30 (by first | assumption | omega) | exact tx_31 (by first | assumption | omega) | exact tx_32 (by first | assumption | omega) | exact tx_33 (by first | assumption | omega)) (by rfl) ?_
            refine z_imul h dX12_draw_47 ?_
            refine z_iload h dX12_draw_48 rfl ?_
            refine z_iadd h dX12_draw_50 ?_
            refine z_toe (y := nI (12 * na + i)) (by show 12 * c (100, 0) 2 + nI i = _; rw [hc2]; show nI 12 * nI na + nI i = _; rw [nI_mul, nI_add]) ?_
            refine z_aload_n h dX12_draw_51 rfl ?_
            refine y_getr h dX12_draw_52 hR flX12_51 (by first | assumption | exact Nat.le_of_ble_eq_true rfl) (by first | rfl | assumption | exact tx_2 (by first | assumption | omega) | exact tx_18 (by first | assumption | omega) | exact tx_19 (by first | assumption | omega) | exact tx_20 (by first | assumption | omega) | exact tx_27 (by first | assumption | omega) | exact tx_28 (by first | assumption | omega) | exact tx_30 (by first | assumption | omega) | exact tx_31 (by first | assumption | omega) | exact tx_32 (by first | assumption | omega) | exact tx_33 (by first | assumption | omega)) (by rfl) ?_
            refine z_iload h dX12_draw_55 rfl ?_
            refine y_iald h dX12_draw_57 hR (by first | assumption | exact Nat.le_of_ble_eq_true rfl) (by first | rfl | assumption | exact tx_2 (by first | assumption | omega) | exact tx_18 (by first | assumption | omega) | exact tx_19 (by first | assumption | omega) | exact tx_20 (by first | assumption | omega) | exact tx_27 (by first | assumption | omega) | exact tx_28 (by first | assumption | omega) | exact tx_30 (by first | assumption | omega) | exact tx_31 (by first | assumption | omega) | exact tx_32 (by first | assumption | omega) | exact tx_33 (by first | assumption | omega)) (z_ixn (show i < 12 by omega) (by decide)) ?_
            refine y_iast h dX12_draw_58 hR (by first | assumption | exact Nat.le_of_ble_eq_true rfl) (by first | rfl | assumption | exact tx_2 (by first | assumption | omega) | exact tx_18 (by first | assumption | omega) | exact tx_19 (by first | assumption | omega) | exact tx_20 (by first | assumption | omega) | exact tx_27 (by first | assumption | omega) | exact tx_28 (by first | assumption | omega) | exact tx_30 (by first | assumption | omega) | exact tx_31 (by first | assumption | omega) | exact tx_32 (by first | assumption | omega) | exact tx_33 (by first | assumption | omega)) (z_ixn (show 12 * na + i < 1200 by omega) (by decide)) (fun w hR => ?_)
            refine z_lload_n h dX12_draw_59 rfl ?_
            refine z_aload_n h dX12_draw_60 rfl ?_
            refine y_getr h dX12_draw_61 hR flX12_51 (by first | assumption | exact Nat.le_of_ble_eq_true rfl) (by first | rfl | assumption | exact tx_2 (by first | assumption | omega) | exact tx_18 (by first | assumption | omega) | exact tx_19 (by first | assumption | omega) | exact tx_20 (by first | assumption | omega) | exact tx_27 (by first | assumption | omega) | exact tx_28 (by first | assumption | omega) | exact tx_30 (by first | assumption | omega) | exact tx_31 (by first | assumption | omega) | exact tx_32 (by first | assumption | omega) | exact tx_33 (by first | assumption | omega)) (by rfl) ?_
            refine z_iload h dX12_draw_64 rfl ?_
            refine y_iald h dX12_draw_66 hR (by first | assumption | exact Nat.le_of_ble_eq_true rfl) (by first | rfl | assumption | exact tx_2 (by first | assumption | omega) | exact tx_18 (by first | assumption | omega) | exact tx_19 (by first | assumption | omega) | exact tx_20 (by first | assumption | omega) | exact tx_27 (by first | assumption | omega) | exact tx_28 (by first | assumption | omega) | exact tx_30 (by first | assumption | omega) | exact tx_31 (by first | assumption | omega) | exact tx_32 (by first | assumption | omega) | exact tx_33 (by first | assumption | omega)) (z_ixn (show i < 12 by omega) (by decide)) ?_
            refine z_i2l h dX12_draw_67 ?_
            refine z_aload_n h dX12_draw_68 rfl ?_
            refine y_getr h dX12_draw_69 hR flX12_19 (by first | assumption | exact Nat.le_of_ble_eq_true rfl) (by first | rfl | assumption | exact tx_2 (by first | assumption | omega) | exact tx_18 (by first | assumption | omega) | exact tx_19 (by first | assumption | omega) | exact tx_20 (by first | assumption | omega) | exact tx_27 (by first | assumption | omega) | exact tx_28 (by first | assumption | omega) | exact tx_30 (by first | assumption | omega) | exact tx_31 (by first | assumption | omega) | exact tx_32 (by first | assumption | omega) | exact tx_33 (by first | assumption | omega)) (by rfl) ?_
            refine z_iload h dX12_draw_72 rfl ?_
            refine y_iald h dX12_draw_74 hR (by first | assumption | exact Nat.le_of_ble_eq_true rfl) (by first | rfl | assumption | exact tx_2 (by first | assumption | omega) | exact tx_18 (by first | assumption | omega) | exact tx_19 (by first | assumption | omega) | exact tx_20 (by first | assumption | omega) | exact tx_27 (by first | assumption | omega) | exact tx_28 (by first | assumption | omega) | exact tx_30 (by first | assumption | omega) | exact tx_31 (by first | assumption | omega) | exact tx_32 (by first | assumption | omega) | exact tx_33 (by first | assumption | omega)) (z_ixn (show i < 12 by omega) (by decide)) ?_
            refine z_i2l h dX12_draw_75 ?_
            refine z_lmul h dX12_draw_76 ?_
            refine z_ladd h dX12_draw_77 ?_
            refine z_lstore_n h dX12_draw_78 (by rw [hn]; decide) ?_
            refine z_lload_n h dX12_draw_79 rfl ?_
            refine z_aload_n h dX12_draw_80 rfl ?_
            refine y_getr h dX12_draw_81 hR flX12_51 (by first | assumption | exact Nat.le_of_ble_eq_true rfl) (by first | rfl | assumption | exact tx_2 (by first | assumption | omega) | exact tx_18 (by first | assumption | omega) | exact tx_19 (by first | assumption | omega) | exact tx_20 (by first | assumption | omega) | exact tx_27 (by first | assumption | omega) | exact tx_28 (by first | assumption | omega) | exact tx_30 (by first | assumption | omega) | exact tx_31 (by first | assumption | omega) | exact tx_32 (by first | assumption | omega) | exact tx_33 (by first | assumption | omega)) (by rfl) ?_
            refine z_iload h dX12_draw_84 rfl ?_
            refine y_iald h dX12_draw_86 hR (by first | assumption | exact Nat.le_of_ble_eq_true rfl) (by first | rfl | assumption | exact tx_2 (by first | assumption | omega) | exact tx_18 (by first | assumption | omega) | exact tx_19 (by first | assumption | omega) | exact tx_20 (by first | assumption | omega) | exact tx_27 (by first | assumption | omega) | exact tx_28 (by first | assumption | omega) | exact tx_30 (by first | assumption | omega) | exact tx_31 (by first | assumption | omega) | exact tx_32 (by first | assumption | omega) | exact tx_33 (by first | assumption | omega)) (z_ixn (show i < 12 by omega) (by decide)) ?_
            refine z_i2l h dX12_draw_87 ?_
            refine z_aload_n h dX12_draw_88 rfl ?_
            refine y_getr h dX12_draw_89 hR flX12_22 (by first | assumption | exact Nat.le_of_ble_eq_true rfl) (by first | rfl | assumption | exact tx_2 (by first | assumption | omega) | exact tx_18 (by first | assumption | omega) | exact tx_19 (by first | assumption | omega) | exact tx_20 (by first | assumption | omega) | exact tx_27 (by first | assumption | omega) | exact tx_28 (by first | assumption | omega) | exact tx_30 (by first | assumption | omega) | exact tx_31 (by first | assumption | omega) | exact tx_32 (by first | assumption | omega) | exact tx_33 (by first | assumption | omega)) (by rfl) ?_
            refine z_iload h dX12_draw_92 rfl ?_
            refine y_iald h dX12_draw_94 hR (by first | assumption | exact Nat.le_of_ble_eq_true rfl) (by first | rfl | assumption | exact tx_2 (by first | assumption | omega) | exact tx_18 (by first | assumption | omega) | exact tx_19 (by first | assumption | omega) | exact tx_20 (by first | assumption | omega) | exact tx_27 (by first | assumption | omega) | exact tx_28 (by first | assumption | omega) | exact tx_30 (by first | assumption | omega) | exact tx_31 (by first | assumption | omega) | exact tx_32 (by first | assumption | omega) | exact tx_33 (by first | assumption | omega)) (z_ixn (show i < 12 by omega) (by decide)) ?_
            refine z_i2l h dX12_draw_95 ?_
            refine z_lmul h dX12_draw_96 ?_
            refine z_ladd h dX12_draw_97 ?_
            refine z_lstore_n h dX12_draw_98 (by rw [hn]; decide) ?_
            refine z_iinc (v := 1) h dX12_draw_99 rfl (by decide) (by rw [hn]; decide) ?_
            refine z_goto h dX12_draw_102 28 (by decide) ?_
            refine z_loc [(0, vr (100, 0)), (1, vl (n_iron (c (121, 0)) (c (111, 0)) (i + 1))), (3, vl (n_iron (c (121, 0)) (c (112, 0)) (i + 1))), (5, vi (nI (i + 1)))] ⟨rfl, rfl, rfl, congrArg (fun z => some (vi z)) (z_up i), trivial⟩ ?_
            exact ih_28 (i + 1) w (by
              have e : r_cs (r_cf c (144, 0) (blk (c (144, 0)) (c (121, 0)) (12 * na) i)) (144, 0) (12 * na + i) (c (121, 0) i) = (r_cf c (144, 0) (blk (c (144, 0)) (c (121, 0)) (12 * na) (i + 1))) := by rw [r_cs, r_cf_self, r_cf_cf, blk_up]
              rw [← e]; exact hR) (by omega) (by omega)
      exact z_loc [(0, vr (100, 0)), (1, vl (n_iron (c (121, 0)) (c (111, 0)) 0)), (3, vl (n_iron (c (121, 0)) (c (112, 0)) 0)), (5, vi (nI 0))] ⟨rfl, rfl, rfl, rfl, trivial⟩ (loop_28 (nb + 1) 0 w (by rw [blk_0, r_cf_same]; exact hR) (by omega) (by omega))
    · skip
      have hna9 : na = 100 := (nI_eq (a := na) (b := 100) (by omega) (by decide)).mp c_2
      refine z_iconst (v := -1) h dX12_draw_19 (by decide) ?_
      exact z_iret h dX12_draw_20 hr (z_f (fun q => by omega) ⟨rfl, rfl⟩)
