/-! the class: pay, again -/
theorem tx_np {nb na np g : Nat} {q : z_T} (h0 : q ≠ (27, np)) (h1 : q ≠ (28, np)) : TX nb na (np + 1) g q = TX nb na np g q := by
  obtain ⟨k, i⟩ := q
  by_cases e : k = 27 ∨ k = 28
  · have hi : i ≠ np := fun z => by
      subst z
      rcases e with rfl | rfl
      · exact h0 rfl
      · exact h1 rfl
    have hb : Nat.blt i (np + 1) = Nat.blt i np := by
      by_cases hl : i < np
      · rw [show Nat.blt i np = true from Nat.ble_eq_true_of_le hl, show Nat.blt i (np + 1) = true from Nat.ble_eq_true_of_le (show i + 1 ≤ np + 1 by omega)]
      · rw [blt_false (show np ≤ i by omega), blt_false (show np + 1 ≤ i by omega)]
    rcases e with rfl | rfl <;>
    · show (bif Nat.blt i (np + 1) then _ else _) = (bif Nat.blt i np then _ else _)
      rw [hb]
  · have b27 : Nat.beq k 27 = false := by rw [z_beq]; simp; omega
    have b28 : Nat.beq k 28 = false := by rw [z_beq]; simp; omega
    unfold TX
    simp only [b27, b28]
    rfl
theorem tx_27n {nb na np g i : Nat} (h : np ≤ i) : TX nb na np g (27, i) = none := by
  show (bif Nat.blt i np then _ else _) = _
  rw [blt_false h]; rfl
theorem tx_28n {nb na np g i : Nat} (h : np ≤ i) : TX nb na np g (28, i) = none := by
  show (bif Nat.blt i np then _ else _) = _
  rw [blt_false h]; rfl
def pay_r (b n y : Int32) : Nat → Int32 := fun k => if k = 0 then b else if k = 1 then n else if k = 2 then y else 0
def pay_c (c : r_c) (np : Nat) (b n y : Int32) : r_c := r_cf (r_cf c (27, np) (pay_r b n y)) (28, np) (fun _ => 0)
theorem pay_new {nb na np g : Nat} {w0 w W : z_w} {c : r_c} {l : r_l} {r : r_r} (hR : r_p dX (TX nb na np g) w0 c l r w) (b n y : Int32)
    (a27 : W (27, np) = some (z_ob 7 [vi b, vi n, vi y, vr (28, np)])) (a28 : W (28, np) = some (z_ia 8 (fun _ => 0)))
    (hf : z_fr [(27, np), (28, np)] w W) : r_p dX (TX nb na (np + 1) g) w0 (pay_c c np b n y) l r W := by
  refine ⟨fun q hq => ?_, fun q hq => ?_⟩
  · by_cases e0 : q = (27, np)
    · subst e0
      rw [a27, tx_27 (by omega)]
      show _ = some (z_ob 7 (r_row (pay_c c np b n y (27, np)) 0 _))
      unfold pay_c
      rw [r_cf_ne (by simp), r_cf_self]
      rfl
    · by_cases e1 : q = (28, np)
      · subst e1
        rw [a28, tx_28 (by omega)]
        show _ = some (z_ia 8 (pay_c c np b n y (28, np)))
        unfold pay_c
        rw [r_cf_self]
      · rw [hf q (by simp [e0, e1]), hR.1 q hq, tx_np e0 e1]
        unfold pay_c
        rw [r_cf_ne e1, r_cf_ne e0]
  · have hne : ∀ k i, k < 100 → q ≠ (k, i) := fun k i hk e => hq (by rw [e]; exact hk)
    rw [hf q (by simp [hne 27 _ (by decide), hne 28 _ (by decide)]), hR.2 q hq]
set_option maxHeartbeats 4000000 in
set_option maxRecDepth 100000 in
theorem m_X7_init (G : z_G) {nb na np g : Nat} {w0 wb w : z_w} {c : r_c} {l : r_l} {r : r_r} (hR : r_p dX (TX nb na np g) w0 c l r wb) (hw : w (27, np) = some (z_ob 7 [vi 0, vi 0, vi 0, vn])) (h28 : w (28, np) = none) (hfr : z_fr [(27, np), (28, np)] wb w) (b n y : Int32) : z_M G yX7_init cX7_init 4 none 2 (1) (8) [vr (27, np), vi b, vi n, vi y] w (fun q w1 => q = none ∧ r_p dX (TX nb na (np + 1) g) w0 (pay_c c np b n y) (l) (r) w1) := by
  refine z_met ym_X7_init (by decide) ⟨Nat.le_of_ble_eq_true rfl, Nat.le_of_ble_eq_true rfl⟩ (fun X hG hn hmc hms hin h hr => ?_)
  have he := hr.2.2.2.2.2.1
  refine z_less (kC' := 0 + 1) (kS' := 0 + 8) (by omega) (by omega) ?_
  refine z_aload_n h dX7_init_0 rfl ?_
  refine z_obj h dX7_init_1 mlX7_3 im_objectInit co_objectInit (Nat.le_of_ble_eq_true rfl) ?_
  refine z_aload_n h dX7_init_4 rfl ?_
  refine z_bipush (v := 8) h dX7_init_5 (by decide) ?_
  refine z_newarr h dX7_init_7 he 0 (.inl (fun _ => 0)) ⟨by decide, rfl, ac_int, fun _ _ _ => ⟨(_, .inl (fun _ => 0)), rfl, rfl⟩⟩ trivial rfl (by decide) (28, np) (by first | assumption | (repeat (first | assumption | refine z_skip rfl ?_))) ?_
  refine z_putF h dX7_init_9 he hin flX7_9 (by first | assumption | rfl | (repeat (first | exact z_set_self _ _ _ | assumption | refine z_skip rfl ?_))) (Nat.le_of_ble_eq_true rfl) (z_fit_r (Or.inr ⟨_, rfl⟩) _) ?_
  refine z_aload_n h dX7_init_12 rfl ?_
  refine z_iload_n h dX7_init_13 rfl ?_
  refine z_putF h dX7_init_14 he hin flX7_15 (by first | assumption | rfl | (repeat (first | exact z_set_self _ _ _ | assumption | refine z_skip rfl ?_))) (Nat.le_of_ble_eq_true rfl) (z_fit_i _) ?_
  refine z_aload_n h dX7_init_17 rfl ?_
  refine z_iload_n h dX7_init_18 rfl ?_
  refine z_putF h dX7_init_19 he hin flX7_19 (by first | assumption | rfl | (repeat (first | exact z_set_self _ _ _ | assumption | refine z_skip rfl ?_))) (Nat.le_of_ble_eq_true rfl) (z_fit_i _) ?_
  refine z_aload_n h dX7_init_22 rfl ?_
  refine z_iload_n h dX7_init_23 rfl ?_
  refine z_putF h dX7_init_24 he hin flX7_22 (by first | assumption | rfl | (repeat (first | exact z_set_self _ _ _ | assumption | refine z_skip rfl ?_))) (Nat.le_of_ble_eq_true rfl) (z_fit_i _) ?_
  exact z_vret h dX7_init_27 hr (⟨rfl, pay_new hR b n y (by repeat (first | exact z_set_self _ _ _ | refine z_skip rfl ?_)) (by repeat (first | exact z_set_self _ _ _ | refine z_skip rfl ?_)) (((((hfr.set (by simp)).set (by simp)).set (by simp)).set (by simp)).set (by simp))⟩)
set_option maxHeartbeats 4000000 in
set_option maxRecDepth 100000 in
theorem m_X11_pay (G : z_G) {nb na np g : Nat} {w0 w : z_w} {c : r_c} {l : r_l} {r : r_r} (hX : XR nb na np g w0 c l r w) (nl nr : Nat) (m : Nat → Nat) (hcl : c (29, 0) 5 = nI nl) (hnl : nl ≤ 64 * 2 ^ g) (hnl8 : nl + 8 ≤ 4096) (hcr : c (21, 0) 4 = nI nr) (hnr : nr ≤ 100) (x n : Int32) (hm : ∀ h, h < 8 → m h < 2 ^ 31 ∧ s_cl c x.toNatClampNeg nr (c (0, 0) 0) h = nI (m h)) (d : Nat → Int32) (hd : d = fun h => s_sh n.toNatClampNeg m h - 0) : z_M G yX11_pay cX11_pay 3 (some .int) 6 ((if nl + cn d 8 ≤ 64 * 2 ^ g then 0 else 4) + 2) ((if nl + cn d 8 ≤ 64 * 2 ^ g then 0 else 8 * (64 * 2 ^ g)) + 12) [vr (0, 0), vi x, vi n] w (fun q w1 => if ix_ok x na ∧ (1 ≤ n ∧ n ≤ 1000000) ∧ np < 60 then q = some (vi (nI np)) ∧ ∃ g1 c1 l1, r_p dX (TX nb na (np + 1) g1) w0 (c1) (l1) (r_cf r (26, 0) (va_up (r (26, 0)) np (some (27, np)))) w1 ∧ LN c g nl np d (c (0, 0) 0) 8 c1 g1 ∧ (c1 (27, np) 0 = x ∧ c1 (27, np) 1 = n ∧ c1 (27, np) 2 = c (0, 0) 0) ∧ (∀ j, j < 8 → c1 (28, np) j = s_sh n.toNatClampNeg m j) ∧ c1 (0, 0) = upd (c (0, 0)) 12 (nI (np + 1)) ∧
  (∀ t, t ≠ (47, 0) → t ≠ (45, 0) → t ≠ (28, np) → t ≠ (27, np) → t ≠ (0, 0) → ¬ (29 ≤ t.1 ∧ t.1 ≤ 34) → c1 t = c t) else q = some (vi (-1)) ∧ w1 = w) := by
  refine z_met ym_X11_pay (by decide) ⟨Nat.le_of_ble_eq_true rfl, Nat.le_of_ble_eq_true rfl⟩ (fun X hG hn hmc hms hin h hr => ?_)
  have he := hr.2.2.2.2.2.1
  obtain ⟨hR, hnb, hna, hnp, hg6, hc2, hc8, hc12, hr1, hr17, hr26⟩ := id hX
  refine z_less (kC' := 0 + (if nl + cn d 8 ≤ 64 * 2 ^ g then 0 else 4) + 1 + 1) (kS' := 0 + (if nl + cn d 8 ≤ 64 * 2 ^ g then 0 else 8 * (64 * 2 ^ g)) + 8 + 4) (by omega) (by omega) ?_
  refine z_aload_n h dX11_pay_0 rfl ?_
  refine z_iload_n h dX11_pay_1 rfl ?_
  refine z_callV h dX11_pay_2 (fun _ _ q => z_okv_no he q) (fun _ _ _ t q => absurd q (he t)) (m_X11_barAt _ hR x hc8 hna hr17) ym_X11_barAt mlX11_258 im_X11_barAt (ci := 11) rfl se_X11_barAt icX11 rfl (r_p.ob hR (by first | assumption | exact Nat.le_of_ble_eq_true rfl) (by first | rfl | assumption | exact tx_2 (by first | assumption | omega) | exact tx_18 (by first | assumption | omega) | exact tx_19 (by first | assumption | omega) | exact tx_20 (by first | assumption | omega) | exact tx_27 (by first | assumption | omega) | exact tx_28 (by first | assumption | omega) | exact tx_30 (by first | assumption | omega) | exact tx_31 (by first | assumption | omega) | exact tx_32 (by first | assumption | omega) | exact tx_33 (by first | assumption | omega))) rfl (by decide) (Nat.le_of_ble_eq_true rfl) ?_
  rintro r w1 ⟨hw1, hq⟩
  have hw1 := hw1.symm; subst hw1
  by_cases hix : ix_ok x na
  · skip
    rw [if_pos hix] at hq; subst hq
    refine z_ifnull h dX11_pay_5 ?_
    refine z_iload_n h dX11_pay_8 rfl ?_
    refine z_iconst (v := 1) h dX11_pay_9 (by decide) ?_
    refine z_ldcw h dX11_pay_10 kcX11_284 ?_
    refine z_callS h dX11_pay_13 (fun _ _ q => z_okv_no he q) (fun _ _ _ t q => absurd q (he t)) (m_X11_within _ _ _ _ _) ym_X11_within mlX11_92 sm_X11_within rfl (by decide) (Nat.le_of_ble_eq_true rfl) ?_
    rintro q1 w1 ⟨rfl, hw1⟩
    have hw1 := hw1.symm; subst hw1
    refine z_if_eq h dX11_pay_16 41 (by decide) (fun c_1 => ?_) (fun c_1 => ?_)
    · skip
      refine z_iconst (v := -1) h dX11_pay_41 (by decide) ?_
      exact z_iret h dX11_pay_42 hr (z_f (fun q => z_bf c_1 q.2.1) ⟨rfl, rfl⟩)
    · skip
      refine z_aload_n h dX11_pay_19 rfl ?_
      refine y_geti h dX11_pay_20 hR flX11_285 (by first | assumption | exact Nat.le_of_ble_eq_true rfl) (by first | rfl | assumption | exact tx_2 (by first | assumption | omega) | exact tx_18 (by first | assumption | omega) | exact tx_19 (by first | assumption | omega) | exact tx_20 (by first | assumption | omega) | exact tx_27 (by first | assumption | omega) | exact tx_28 (by first | assumption | omega) | exact tx_30 (by first | assumption | omega) | exact tx_31 (by first | assumption | omega) | exact tx_32 (by first | assumption | omega) | exact tx_33 (by first | assumption | omega)) (by rfl) ?_
      rw [hc12]
      refine z_aload_n h dX11_pay_23 rfl ?_
      refine y_getr h dX11_pay_24 hR flX11_58 (by first | assumption | exact Nat.le_of_ble_eq_true rfl) (by first | rfl | assumption | exact tx_2 (by first | assumption | omega) | exact tx_18 (by first | assumption | omega) | exact tx_19 (by first | assumption | omega) | exact tx_20 (by first | assumption | omega) | exact tx_27 (by first | assumption | omega) | exact tx_28 (by first | assumption | omega) | exact tx_30 (by first | assumption | omega) | exact tx_31 (by first | assumption | omega) | exact tx_32 (by first | assumption | omega) | exact tx_33 (by first | assumption | omega)) (by rfl) ?_
      refine y_len h dX11_pay_27 hR (by first | assumption | exact Nat.le_of_ble_eq_true rfl) (by first | rfl | assumption | exact tx_2 (by first | assumption | omega) | exact tx_18 (by first | assumption | omega) | exact tx_19 (by first | assumption | omega) | exact tx_20 (by first | assumption | omega) | exact tx_27 (by first | assumption | omega) | exact tx_28 (by first | assumption | omega) | exact tx_30 (by first | assumption | omega) | exact tx_31 (by first | assumption | omega) | exact tx_32 (by first | assumption | omega) | exact tx_33 (by first | assumption | omega)) (by rfl) ?_
      refine z_icmp_ge h dX11_pay_28 41 (by decide) (fun c_2 => ?_) (fun c_2 => ?_)
      · skip
        have e1 : 60 ≤ np := (nI_leI (a := 60) (by omega) (by omega)).mp c_2
        refine z_iconst (v := -1) h dX11_pay_41 (by decide) ?_
        exact z_iret h dX11_pay_42 hr (z_f (fun q => by omega) ⟨rfl, rfl⟩)
      · skip
        have e1 : ¬ 60 ≤ np := fun q => c_2 ((nI_leI (a := 60) (by omega) (by omega)).mpr q)
        refine z_aload_n h dX11_pay_31 rfl ?_
        refine y_getr h dX11_pay_32 hR flX11_65 (by first | assumption | exact Nat.le_of_ble_eq_true rfl) (by first | rfl | assumption | exact tx_2 (by first | assumption | omega) | exact tx_18 (by first | assumption | omega) | exact tx_19 (by first | assumption | omega) | exact tx_20 (by first | assumption | omega) | exact tx_27 (by first | assumption | omega) | exact tx_28 (by first | assumption | omega) | exact tx_30 (by first | assumption | omega) | exact tx_31 (by first | assumption | omega) | exact tx_32 (by first | assumption | omega) | exact tx_33 (by first | assumption | omega)) (by rfl) ?_
        refine z_callV h dX11_pay_35 (fun _ _ q => z_okv_no he q) (fun _ _ _ t q => absurd q (he t)) (m_X4_hasRoom _ hR nl hcl (by omega)) ym_X4_hasRoom mlX11_288 im_X4_hasRoom (ci := 4) rfl se_X4_hasRoom icX4 rfl (r_p.ob hR (by first | assumption | exact Nat.le_of_ble_eq_true rfl) (by first | rfl | assumption | exact tx_2 (by first | assumption | omega) | exact tx_18 (by first | assumption | omega) | exact tx_19 (by first | assumption | omega) | exact tx_20 (by first | assumption | omega) | exact tx_27 (by first | assumption | omega) | exact tx_28 (by first | assumption | omega) | exact tx_30 (by first | assumption | omega) | exact tx_31 (by first | assumption | omega) | exact tx_32 (by first | assumption | omega) | exact tx_33 (by first | assumption | omega))) rfl (by decide) (Nat.le_of_ble_eq_true rfl) ?_
        rintro q1 w1 ⟨rfl, hw1⟩
        have hw1 := hw1.symm; subst hw1
        refine z_if_ne h dX11_pay_38 43 (by decide) (fun c_3 => ?_) (fun c_3 => ?_)
        · skip
          refine z_aload_n h dX11_pay_43 rfl ?_
          refine y_getr h dX11_pay_44 hR flX11_58 (by first | assumption | exact Nat.le_of_ble_eq_true rfl) (by first | rfl | assumption | exact tx_2 (by first | assumption | omega) | exact tx_18 (by first | assumption | omega) | exact tx_19 (by first | assumption | omega) | exact tx_20 (by first | assumption | omega) | exact tx_27 (by first | assumption | omega) | exact tx_28 (by first | assumption | omega) | exact tx_30 (by first | assumption | omega) | exact tx_31 (by first | assumption | omega) | exact tx_32 (by first | assumption | omega) | exact tx_33 (by first | assumption | omega)) (by rfl) ?_
          refine z_aload_n h dX11_pay_47 rfl ?_
          refine y_geti h dX11_pay_48 hR flX11_285 (by first | assumption | exact Nat.le_of_ble_eq_true rfl) (by first | rfl | assumption | exact tx_2 (by first | assumption | omega) | exact tx_18 (by first | assumption | omega) | exact tx_19 (by first | assumption | omega) | exact tx_20 (by first | assumption | omega) | exact tx_27 (by first | assumption | omega) | exact tx_28 (by first | assumption | omega) | exact tx_30 (by first | assumption | omega) | exact tx_31 (by first | assumption | omega) | exact tx_32 (by first | assumption | omega) | exact tx_33 (by first | assumption | omega)) (by rfl) ?_
          have hT0 := hR.ob (ci := 11) (t := (0, 0)) (Nat.le_of_ble_eq_true rfl) rfl
          have f27 := hR.free (t := (27, np)) (Nat.le_of_ble_eq_true rfl) (tx_27n (Nat.le_refl _))
          have f28 := hR.free (t := (28, np)) (Nat.le_of_ble_eq_true rfl) (tx_28n (Nat.le_refl _))
          refine z_new (n := 4) h dX11_pay_51 he nwX11_56 (27, np) f27 ?_
          refine z_dup_r h dX11_pay_54 ?_
          refine z_iload_n h dX11_pay_55 rfl ?_
          refine z_iload_n h dX11_pay_56 rfl ?_
          refine z_aload_n h dX11_pay_57 rfl ?_
          refine z_get h dX11_pay_58 flX11_110 (z_skip rfl hT0) rfl ?_
          refine z_callI h dX11_pay_61 (fun _ _ q => z_okv_no he q) (fun _ _ _ t q => absurd q (he t)) (m_X7_init _ hR (z_set_self _ _ _) (z_skip rfl f28) (z_fr.rf.set (by simp)) _ _ _) ym_X7_init mlX11_291 im_X7_init rfl (z_some_of (z_set_self _ _ _)) rfl (by decide) (Nat.le_of_ble_eq_true rfl) ?_
          rintro q1 w ⟨rfl, hR⟩
          refine y_aast h dX11_pay_64 hR (by first | assumption | exact Nat.le_of_ble_eq_true rfl) (by first | rfl | assumption | exact tx_2 (by first | assumption | omega) | exact tx_18 (by first | assumption | omega) | exact tx_19 (by first | assumption | omega) | exact tx_20 (by first | assumption | omega) | exact tx_27 (by first | assumption | omega) | exact tx_28 (by first | assumption | omega) | exact tx_30 (by first | assumption | omega) | exact tx_31 (by first | assumption | omega) | exact tx_32 (by first | assumption | omega) | exact tx_33 (by first | assumption | omega)) rfl rfl (z_ixe (show _ = nI np from hc12) (by omega) (by omega)) (by first | assumption | exact Nat.le_of_ble_eq_true rfl) (tx_27 (by omega)) (fun w hR => ?_)
          refine z_aload_n h dX11_pay_65 rfl ?_
          refine z_dup_r h dX11_pay_66 ?_
          refine y_geti h dX11_pay_67 hR flX11_285 (by first | assumption | exact Nat.le_of_ble_eq_true rfl) (by first | rfl | assumption | exact tx_2 (by first | assumption | omega) | exact tx_18 (by first | assumption | omega) | exact tx_19 (by first | assumption | omega) | exact tx_20 (by first | assumption | omega) | exact tx_27 (by first | assumption | omega) | exact tx_28 (by first | assumption | omega) | exact tx_30 (by first | assumption | omega) | exact tx_31 (by first | assumption | omega) | exact tx_32 (by first | assumption | omega) | exact tx_33 (by first | assumption | omega)) (by rfl) ?_
          refine z_iconst (v := 1) h dX11_pay_70 (by decide) ?_
          refine z_iadd h dX11_pay_71 ?_
          refine z_toe (y := nI (np + 1)) (by show c (0, 0) 12 + 1 = _; rw [hc12]; exact z_up np) ?_
          refine y_put h dX11_pay_72 he hR flX11_285 rfl (by first | assumption | exact Nat.le_of_ble_eq_true rfl) (by first | rfl | assumption | exact tx_2 (by first | assumption | omega) | exact tx_18 (by first | assumption | omega) | exact tx_19 (by first | assumption | omega) | exact tx_20 (by first | assumption | omega) | exact tx_27 (by first | assumption | omega) | exact tx_28 (by first | assumption | omega) | exact tx_30 (by first | assumption | omega) | exact tx_31 (by first | assumption | omega) | exact tx_32 (by first | assumption | omega) | exact tx_33 (by first | assumption | omega)) (by rfl) (fun w hR => ?_)
          obtain ⟨hnn, hn1, hn2⟩ := z_rng 1 1000000 (z_bt c_1) (by decide) (by decide)
          have hset := m_X11_settle (x_G X) hR hna (show np + 1 ≤ 60 by omega) hg6 (show _ = nI na from hc8) (fun i hi => by rw [r_cf_ne (by simp)]; exact hr17 i hi) (fun i hi => by
            rw [r_cf_self]
            by_cases e : i = np
            · subst e; simp [va_up]
            · simp only [va_up, e, if_false]; exact hr26 i (by omega)) np x.toNatClampNeg n.toNatClampNeg nl nr m (by omega) (by
            show pay_c c np x n (c (0, 0) 0) (27, np) 0 = _
            unfold pay_c
            rw [r_cf_ne (by simp), r_cf_self]
            exact ix_eq hix) (ix_lt hix (by omega)) (by
            show pay_c c np x n (c (0, 0) 0) (27, np) 1 = _
            unfold pay_c
            rw [r_cf_ne (by simp), r_cf_self]
            exact hnn) (by omega) hcl hnl hnl8 hcr hnr (fun h_ hh => ⟨(hm h_ hh).1, by
            rw [← (hm h_ hh).2]
            have e27 : (r_cs (pay_c c np x n (c (0, 0) 0)) (0, 0) 12 (nI (np + 1))) (27, np) 2 = c (0, 0) 0 := by
              show pay_c c np x n (c (0, 0) 0) (27, np) 2 = _
              unfold pay_c
              rw [r_cf_ne (by simp), r_cf_self]
              rfl
            rw [e27]
            rfl⟩)
          have e28 : (r_cs (pay_c c np x n (c (0, 0) 0)) (0, 0) 12 (nI (np + 1))) (28, np) = fun _ => 0 := by
            show pay_c c np x n (c (0, 0) 0) (28, np) = _
            unfold pay_c
            rw [r_cf_self]
          rw [e28, ← hd] at hset
          refine z_aload_n h dX11_pay_75 rfl ?_
          refine z_aload_n h dX11_pay_76 rfl ?_
          refine y_geti h dX11_pay_77 hR flX11_285 (by first | assumption | exact Nat.le_of_ble_eq_true rfl) (by first | rfl | assumption | exact tx_2 (by first | assumption | omega) | exact tx_18 (by first | assumption | omega) | exact tx_19 (by first | assumption | omega) | exact tx_20 (by first | assumption | omega) | exact tx_27 (by first | assumption | omega) | exact tx_28 (by first | assumption | omega) | exact tx_30 (by first | assumption | omega) | exact tx_31 (by first | assumption | omega) | exact tx_32 (by first | assumption | omega) | exact tx_33 (by first | assumption | omega)) (by rfl) ?_
          refine z_iconst (v := 1) h dX11_pay_80 (by decide) ?_
          refine z_isub h dX11_pay_81 ?_
          refine z_toe (y := nI np) (by show nI (np + 1) - 1 = _; exact nI_pred np) ?_
          refine z_callV h dX11_pay_82 (fun _ _ q => z_okv_no he q) (fun _ _ _ t q => absurd q (he t)) (hset) ym_X11_settle mlX11_292 im_X11_settle (ci := 11) rfl se_X11_settle icX11 rfl (r_p.ob hR (by first | assumption | exact Nat.le_of_ble_eq_true rfl) (by first | rfl | assumption | exact tx_2 (by first | assumption | omega) | exact tx_18 (by first | assumption | omega) | exact tx_19 (by first | assumption | omega) | exact tx_20 (by first | assumption | omega) | exact tx_27 (by first | assumption | omega) | exact tx_28 (by first | assumption | omega) | exact tx_30 (by first | assumption | omega) | exact tx_31 (by first | assumption | omega) | exact tx_32 (by first | assumption | omega) | exact tx_33 (by first | assumption | omega))) rfl (by decide) (Nat.le_of_ble_eq_true rfl) ?_
          rintro q1 w ⟨rfl, g1, c1, l1, hR, hLN, h28, hfr⟩
          refine z_pop_i h dX11_pay_85 ?_
          refine z_aload_n h dX11_pay_86 rfl ?_
          refine y_geti h dX11_pay_87 hR flX11_285 (by first | assumption | exact Nat.le_of_ble_eq_true rfl) (by first | rfl | assumption | exact tx_2 (by first | assumption | omega) | exact tx_18 (by first | assumption | omega) | exact tx_19 (by first | assumption | omega) | exact tx_20 (by first | assumption | omega) | exact tx_27 (by first | assumption | omega) | exact tx_28 (by first | assumption | omega) | exact tx_30 (by first | assumption | omega) | exact tx_31 (by first | assumption | omega) | exact tx_32 (by first | assumption | omega) | exact tx_33 (by first | assumption | omega)) (by rfl) ?_
          refine z_iconst (v := 1) h dX11_pay_90 (by decide) ?_
          refine z_isub h dX11_pay_91 ?_
          exact z_iret h dX11_pay_92 hr (z_t ⟨hix, z_bt c_1, by omega⟩ (by
            have e27 : c1 (27, np) = pay_r x n (c (0, 0) 0) := by
              rw [hfr (27, np) (by simp) (by simp) (by simp) (by simp)]
              show pay_c c np x n (c (0, 0) 0) (27, np) = _
              unfold pay_c
              rw [r_cf_ne (by simp), r_cf_self]
            refine ⟨?_, g1, c1, l1, hR, hLN, ⟨by rw [e27]; rfl, by rw [e27]; rfl, by rw [e27]; rfl⟩, fun j hj => by rw [h28 j, if_pos hj], ?_, fun t h1 h2 h3 h4 h5 h6 => ?_⟩
            · show some (vi (c1 (0, 0) 12 - 1)) = _
              rw [hfr (0, 0) (by simp) (by simp) (by simp) (by simp)]
              show some (vi (nI (np + 1) - 1)) = _
              rw [nI_pred]
            · rw [hfr (0, 0) (by simp) (by simp) (by simp) (by simp)]
              rfl
            · rw [hfr t h1 h2 h3 h6, r_cs, r_cf_ne h5]
              unfold pay_c
              rw [r_cf_ne h3, r_cf_ne h4]))
        · skip
          exact absurd (z_b1 (p := nl + 8 ≤ 4096) (by omega)) (by rw [c_3]; decide)
  · skip
    rw [if_neg hix] at hq; subst hq
    refine z_ifnullN h dX11_pay_5 41 (by decide) ?_
    refine z_iconst (v := -1) h dX11_pay_41 (by decide) ?_
    exact z_iret h dX11_pay_42 hr (z_f (fun q => hix q.1) ⟨rfl, rfl⟩)
set_option maxHeartbeats 4000000 in
set_option maxRecDepth 100000 in
theorem m_X11_again (G : z_G) {nb na np g : Nat} {w0 w : z_w} {c : r_c} {l : r_l} {r : r_r} (hX : XR nb na np g w0 c l r w) (nl nr : Nat) (m : Nat → Nat) (hcl : c (29, 0) 5 = nI nl) (hnl : nl ≤ 64 * 2 ^ g) (hnl8 : nl + 8 ≤ 4096) (hcr : c (21, 0) 4 = nI nr) (hnr : nr ≤ 100) (x : Int32) (bi co : Nat) (hpb : ix_ok x np → c (27, x.toNatClampNeg) 0 = nI bi ∧ bi < na ∧ c (27, x.toNatClampNeg) 1 = nI co) (hco : co < 2 ^ 22) (hm : ix_ok x np → ∀ h, h < 8 → m h < 2 ^ 31 ∧ s_cl c bi nr (c (27, x.toNatClampNeg) 2) h = nI (m h)) (d : Nat → Int32) (hd : d = fun h => s_sh co m h - c (28, x.toNatClampNeg) h) : z_M G yX11_again cX11_again 2 (some .int) 6 ((if nl + cn d 8 ≤ 64 * 2 ^ g then 0 else 4)) ((if nl + cn d 8 ≤ 64 * 2 ^ g then 0 else 8 * (64 * 2 ^ g))) [vr (0, 0), vi x] w (fun q w1 => if ix_ok x np then q = some (vi (nI (cn d 8))) ∧ ∃ g1 c1 l1, r_p dX (TX nb na np g1) w0 (c1) (l1) (r) w1 ∧ LN c g nl x.toNatClampNeg d (c (0, 0) 0) 8 c1 g1 ∧ (∀ j, c1 (28, x.toNatClampNeg) j = if j < 8 then s_sh co m j else c (28, x.toNatClampNeg) j) ∧ (∀ t, t ≠ (47, 0) → t ≠ (45, 0) → t ≠ (28, x.toNatClampNeg) → ¬ (29 ≤ t.1 ∧ t.1 ≤ 34) → c1 t = c t) else q = some (vi (-1)) ∧ w1 = w) := by
  refine z_met ym_X11_again (by decide) ⟨Nat.le_of_ble_eq_true rfl, Nat.le_of_ble_eq_true rfl⟩ (fun X hG hn hmc hms hin h hr => ?_)
  have he := hr.2.2.2.2.2.1
  obtain ⟨hR, hnb, hna, hnp, hg6, hc2, hc8, hc12, hr1, hr17, hr26⟩ := id hX
  refine z_less (kC' := 0 + (if nl + cn d 8 ≤ 64 * 2 ^ g then 0 else 4)) (kS' := 0 + (if nl + cn d 8 ≤ 64 * 2 ^ g then 0 else 8 * (64 * 2 ^ g))) (by omega) (by omega) ?_
  refine z_iload_n h dX11_again_0 rfl ?_
  refine z_iconst (v := 0) h dX11_again_1 (by decide) ?_
  refine z_aload_n h dX11_again_2 rfl ?_
  refine y_geti h dX11_again_3 hR flX11_285 (by first | assumption | exact Nat.le_of_ble_eq_true rfl) (by first | rfl | assumption | exact tx_2 (by first | assumption | omega) | exact tx_18 (by first | assumption | omega) | exact tx_19 (by first | assumption | omega) | exact tx_20 (by first | assumption | omega) | exact tx_27 (by first | assumption | omega) | exact tx_28 (by first | assumption | omega) | exact tx_30 (by first | assumption | omega) | exact tx_31 (by first | assumption | omega) | exact tx_32 (by first | assumption | omega) | exact tx_33 (by first | assumption | omega)) (by rfl) ?_
  refine z_iconst (v := 1) h dX11_again_6 (by decide) ?_
  refine z_isub h dX11_again_7 ?_
  refine z_callS h dX11_again_8 (fun _ _ q => z_okv_no he q) (fun _ _ _ t q => absurd q (he t)) (m_X11_within _ _ _ _ _) ym_X11_within mlX11_92 sm_X11_within rfl (by decide) (Nat.le_of_ble_eq_true rfl) ?_
  rintro q1 w1 ⟨rfl, hw1⟩
  have hw1 := hw1.symm; subst hw1
  refine z_if_eq h dX11_again_11 24 (by decide) (fun c_1 => ?_) (fun c_1 => ?_)
  · skip
    refine z_iconst (v := -1) h dX11_again_24 (by decide) ?_
    exact z_iret h dX11_again_25 hr (z_f (fun q => z_bf c_1 (by rw [hc12]; exact (ix_in (by omega)).mpr q)) ⟨rfl, rfl⟩)
  · skip
    have hix : ix_ok x np := (ix_in (by omega)).mp (by have := z_bt c_1; rw [hc12] at this; exact this)
    refine z_aload_n h dX11_again_14 rfl ?_
    refine y_getr h dX11_again_15 hR flX11_65 (by first | assumption | exact Nat.le_of_ble_eq_true rfl) (by first | rfl | assumption | exact tx_2 (by first | assumption | omega) | exact tx_18 (by first | assumption | omega) | exact tx_19 (by first | assumption | omega) | exact tx_20 (by first | assumption | omega) | exact tx_27 (by first | assumption | omega) | exact tx_28 (by first | assumption | omega) | exact tx_30 (by first | assumption | omega) | exact tx_31 (by first | assumption | omega) | exact tx_32 (by first | assumption | omega) | exact tx_33 (by first | assumption | omega)) (by rfl) ?_
    refine z_callV h dX11_again_18 (fun _ _ q => z_okv_no he q) (fun _ _ _ t q => absurd q (he t)) (m_X4_hasRoom _ hR nl hcl (by omega)) ym_X4_hasRoom mlX11_288 im_X4_hasRoom (ci := 4) rfl se_X4_hasRoom icX4 rfl (r_p.ob hR (by first | assumption | exact Nat.le_of_ble_eq_true rfl) (by first | rfl | assumption | exact tx_2 (by first | assumption | omega) | exact tx_18 (by first | assumption | omega) | exact tx_19 (by first | assumption | omega) | exact tx_20 (by first | assumption | omega) | exact tx_27 (by first | assumption | omega) | exact tx_28 (by first | assumption | omega) | exact tx_30 (by first | assumption | omega) | exact tx_31 (by first | assumption | omega) | exact tx_32 (by first | assumption | omega) | exact tx_33 (by first | assumption | omega))) rfl (by decide) (Nat.le_of_ble_eq_true rfl) ?_
    rintro q1 w1 ⟨rfl, hw1⟩
    have hw1 := hw1.symm; subst hw1
    refine z_if_ne h dX11_again_21 26 (by decide) (fun c_3 => ?_) (fun c_3 => ?_)
    · skip
      refine z_aload_n h dX11_again_26 rfl ?_
      refine z_iload_n h dX11_again_27 rfl ?_
      have hset := m_X11_settle (x_G X) hR hna hnp hg6 hc8 hr17 hr26 x.toNatClampNeg bi co nl nr m (ix_lt hix (by omega)) (hpb hix).1 (hpb hix).2.1 (hpb hix).2.2 hco hcl hnl hnl8 hcr hnr (hm hix)
      rw [← hd] at hset
      refine z_toe (y := nI x.toNatClampNeg) (ix_eq hix) ?_
      refine z_callV h dX11_again_28 (fun _ _ q => z_okv_no he q) (fun _ _ _ t q => absurd q (he t)) (hset) ym_X11_settle mlX11_292 im_X11_settle (ci := 11) rfl se_X11_settle icX11 rfl (r_p.ob hR (by first | assumption | exact Nat.le_of_ble_eq_true rfl) (by first | rfl | assumption | exact tx_2 (by first | assumption | omega) | exact tx_18 (by first | assumption | omega) | exact tx_19 (by first | assumption | omega) | exact tx_20 (by first | assumption | omega) | exact tx_27 (by first | assumption | omega) | exact tx_28 (by first | assumption | omega) | exact tx_30 (by first | assumption | omega) | exact tx_31 (by first | assumption | omega) | exact tx_32 (by first | assumption | omega) | exact tx_33 (by first | assumption | omega))) rfl (by decide) (Nat.le_of_ble_eq_true rfl) ?_
      rintro q1 w ⟨rfl, g1, c1, l1, hR, hLN, h28, hfr⟩
      exact z_iret h dX11_again_31 hr (z_t hix ⟨rfl, g1, c1, l1, hR, hLN, h28, hfr⟩)
    · skip
      exact absurd (z_b1 (p := nl + 8 ≤ 4096) (by omega)) (by rw [c_3]; decide)
