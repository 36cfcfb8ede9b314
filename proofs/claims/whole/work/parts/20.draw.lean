/-! the class: drawing a bar -/
theorem tx_na {nb na np g : Nat} {q : z_T} (h0 : q ≠ (18, na)) (h1 : q ≠ (19, na)) (h2 : q ≠ (20, na)) : TX nb (na + 1) np g q = TX nb na np g q := by
  obtain ⟨k, i⟩ := q
  by_cases e : k = 18 ∨ k = 19 ∨ k = 20
  · have hi : i ≠ na := fun z => by
      subst z
      rcases e with rfl | rfl | rfl
      · exact h0 rfl
      · exact h1 rfl
      · exact h2 rfl
    have hb : Nat.blt i (na + 1) = Nat.blt i na := by
      by_cases hl : i < na
      · rw [show Nat.blt i na = true from Nat.ble_eq_true_of_le hl, show Nat.blt i (na + 1) = true from Nat.ble_eq_true_of_le (show i + 1 ≤ na + 1 by omega)]
      · rw [blt_false (show na ≤ i by omega), blt_false (show na + 1 ≤ i by omega)]
    rcases e with rfl | rfl | rfl <;>
    · show (bif Nat.blt i (na + 1) then _ else _) = (bif Nat.blt i na then _ else _)
      rw [hb]
  · have b18 : Nat.beq k 18 = false := by rw [z_beq]; simp; omega
    have b19 : Nat.beq k 19 = false := by rw [z_beq]; simp; omega
    have b20 : Nat.beq k 20 = false := by rw [z_beq]; simp; omega
    unfold TX
    simp only [b18, b19, b20]
    rfl
theorem tx_18n {nb na np g i : Nat} (h : na ≤ i) : TX nb na np g (18, i) = none := by
  show (bif Nat.blt i na then _ else _) = _
  rw [blt_false h]; rfl
theorem tx_19n {nb na np g i : Nat} (h : na ≤ i) : TX nb na np g (19, i) = none := by
  show (bif Nat.blt i na then _ else _) = _
  rw [blt_false h]; rfl
theorem tx_20n {nb na np g i : Nat} (h : na ≤ i) : TX nb na np g (20, i) = none := by
  show (bif Nat.blt i na then _ else _) = _
  rw [blt_false h]; rfl
def bar_r (ds di : Int32) : Nat → Int32 := fun k => if k = 2 then ds else if k = 3 then di else 0
def bar_c (c : r_c) (na : Nat) (ds di : Int32) : r_c := r_cf (r_cf (r_cf c (18, na) (bar_r ds di)) (19, na) (fun _ => 0)) (20, na) (fun _ => 0)
theorem bar_new {nb na np g : Nat} {w0 w W : z_w} {c : r_c} {l : r_l} {r : r_r} (hR : r_p dX (TX nb na np g) w0 c l r w) (ds di : Int32)
    (a18 : W (18, na) = some (z_ob 0 [vr (19, na), vr (20, na), vi ds, vi di, vi 0, vi 0, vi 0])) (a19 : W (19, na) = some (z_ia 12 (fun _ => 0))) (a20 : W (20, na) = some (z_ia 8 (fun _ => 0)))
    (hf : z_fr [(18, na), (19, na), (20, na)] w W) : r_p dX (TX nb (na + 1) np g) w0 (bar_c c na ds di) l r W := by
  refine ⟨fun q hq => ?_, fun q hq => ?_⟩
  · by_cases e0 : q = (18, na)
    · subst e0
      rw [a18, tx_18 (by omega)]
      show _ = some (z_ob 0 (r_row (bar_c c na ds di (18, na)) 0 _))
      unfold bar_c
      rw [r_cf_ne (by simp), r_cf_ne (by simp), r_cf_self]
      rfl
    · by_cases e1 : q = (19, na)
      · subst e1
        rw [a19, tx_19 (by omega)]
        show _ = some (z_ia 12 (bar_c c na ds di (19, na)))
        unfold bar_c
        rw [r_cf_ne (by simp), r_cf_self]
      · by_cases e2 : q = (20, na)
        · subst e2
          rw [a20, tx_20 (by omega)]
          show _ = some (z_ia 8 (bar_c c na ds di (20, na)))
          unfold bar_c
          rw [r_cf_self]
        · rw [hf q (by simp [e0, e1, e2]), hR.1 q hq, tx_na e0 e1 e2]
          unfold bar_c
          rw [r_cf_ne e2, r_cf_ne e1, r_cf_ne e0]
  · have hne : ∀ k i, k < 100 → q ≠ (k, i) := fun k i hk e => hq (by rw [e]; exact hk)
    rw [hf q (by simp [hne 18 _ (by decide), hne 19 _ (by decide), hne 20 _ (by decide)]), hR.2 q hq]
theorem m_X3_sort (G : z_G) (w : z_w) (fs : List z_v) (x : Int32) (hw : w (13, 0) = some (z_ob 3 fs)) (hx : fs[10]? = some (vi x)) : z_M G yX3_sortOfBloom cX3_sortOfBloom 1 (some .int) 1 0 0 [vr (13, 0)] w (fun q w1 => q = some (vi (if x = 0 then 0 else if x ≤ 10 then 1 else 2)) ∧ w1 = w) := by
  refine z_met ym_X3_sortOfBloom (by decide) ⟨Nat.le_of_ble_eq_true rfl, Nat.le_of_ble_eq_true rfl⟩ (fun X hG hn hmc hms hin h hr => ?_)
  refine z_aload_n h dX3_sortOfBloom_0 rfl ?_
  refine z_get h dX3_sortOfBloom_1 flX3_84 hw hx ?_
  refine z_if_ne h dX3_sortOfBloom_4 9 (by decide) (fun c_1 => ?_) (fun c_1 => ?_)
  · refine z_aload_n h dX3_sortOfBloom_9 rfl ?_
    refine z_get h dX3_sortOfBloom_10 flX3_84 hw hx ?_
    refine z_bipush (v := 10) h dX3_sortOfBloom_13 (by decide) ?_
    refine z_icmp_gt h dX3_sortOfBloom_15 22 (by decide) (fun c_2 => ?_) (fun c_2 => ?_)
    · refine z_iconst (v := 2) h dX3_sortOfBloom_22 (by decide) ?_
      exact z_iret h dX3_sortOfBloom_23 hr (⟨z_e1 (by rw [if_neg c_1, if_neg (by simp only [z_lt, z_le] at *; omega)]), rfl⟩)
    · refine z_iconst (v := 1) h dX3_sortOfBloom_18 (by decide) ?_
      refine z_goto h dX3_sortOfBloom_19 23 (by decide) ?_
      exact z_iret h dX3_sortOfBloom_23 hr (⟨z_e1 (by rw [if_neg c_1, if_pos (by simp only [z_lt, z_le] at *; omega)]), rfl⟩)
  · refine z_iconst (v := 0) h dX3_sortOfBloom_7 (by decide) ?_
    exact z_iret h dX3_sortOfBloom_8 hr (⟨z_e1 (by rw [if_pos c_1]), rfl⟩)
set_option maxHeartbeats 4000000 in
set_option maxRecDepth 100000 in
theorem m_X0_init (G : z_G) {nb na np g : Nat} {w0 wb w : z_w} {c : r_c} {l : r_l} {r : r_r} (hR : r_p dX (TX nb na np g) w0 c l r wb) (hw : w (18, na) = some (z_ob 0 [vn, vn, vi 0, vi 0, vi 0, vi 0, vi 0])) (h19 : w (19, na) = none) (h20 : w (20, na) = none) (hfr : z_fr [(18, na), (19, na), (20, na)] wb w) (ds di : Int32) : z_M G yX0_init cX0_init 3 none 2 (2) (20) [vr (18, na), vi ds, vi di] w (fun q w1 => q = none ∧ r_p dX (TX nb (na + 1) np g) w0 (bar_c c na ds di) (l) (r) w1) := by
  refine z_met ym_X0_init (by decide) ⟨Nat.le_of_ble_eq_true rfl, Nat.le_of_ble_eq_true rfl⟩ (fun X hG hn hmc hms hin h hr => ?_)
  have he := hr.2.2.2.2.2.1
  refine z_less (kC' := 0 + 1 + 1) (kS' := 0 + 8 + 12) (by omega) (by omega) ?_
  refine z_aload_n h dX0_init_0 rfl ?_
  refine z_obj h dX0_init_1 mlX0_3 im_objectInit co_objectInit (Nat.le_of_ble_eq_true rfl) ?_
  refine z_aload_n h dX0_init_4 rfl ?_
  refine z_bipush (v := 12) h dX0_init_5 (by decide) ?_
  refine z_newarr h dX0_init_7 he 0 (.inl (fun _ => 0)) ⟨by decide, rfl, ac_int, fun _ _ _ => ⟨(_, .inl (fun _ => 0)), rfl, rfl⟩⟩ trivial rfl (by decide) (19, na) (by first | assumption | (repeat (first | assumption | refine z_skip rfl ?_))) ?_
  refine z_putF h dX0_init_9 he hin flX0_9 (by first | assumption | rfl | (repeat (first | exact z_set_self _ _ _ | assumption | refine z_skip rfl ?_))) (Nat.le_of_ble_eq_true rfl) (z_fit_r (Or.inr ⟨_, rfl⟩) _) ?_
  refine z_aload_n h dX0_init_12 rfl ?_
  refine z_bipush (v := 8) h dX0_init_13 (by decide) ?_
  refine z_newarr h dX0_init_15 he 0 (.inl (fun _ => 0)) ⟨by decide, rfl, ac_int, fun _ _ _ => ⟨(_, .inl (fun _ => 0)), rfl, rfl⟩⟩ trivial rfl (by decide) (20, na) (by first | assumption | (repeat (first | assumption | refine z_skip rfl ?_))) ?_
  refine z_putF h dX0_init_17 he hin flX0_15 (by first | assumption | rfl | (repeat (first | exact z_set_self _ _ _ | assumption | refine z_skip rfl ?_))) (Nat.le_of_ble_eq_true rfl) (z_fit_r (Or.inr ⟨_, rfl⟩) _) ?_
  refine z_aload_n h dX0_init_20 rfl ?_
  refine z_iload_n h dX0_init_21 rfl ?_
  refine z_putF h dX0_init_22 he hin flX0_18 (by first | assumption | rfl | (repeat (first | exact z_set_self _ _ _ | assumption | refine z_skip rfl ?_))) (Nat.le_of_ble_eq_true rfl) (z_fit_i _) ?_
  refine z_aload_n h dX0_init_25 rfl ?_
  refine z_iload_n h dX0_init_26 rfl ?_
  refine z_putF h dX0_init_27 he hin flX0_22 (by first | assumption | rfl | (repeat (first | exact z_set_self _ _ _ | assumption | refine z_skip rfl ?_))) (Nat.le_of_ble_eq_true rfl) (z_fit_i _) ?_
  exact z_vret h dX0_init_30 hr (⟨rfl, bar_new hR ds di (by repeat (first | exact z_set_self _ _ _ | refine z_skip rfl ?_)) (by repeat (first | exact z_set_self _ _ _ | refine z_skip rfl ?_)) (by repeat (first | exact z_set_self _ _ _ | refine z_skip rfl ?_)) ((((((hfr.set (by simp)).set (by simp)).set (by simp)).set (by simp)).set (by simp)).set (by simp))⟩)
set_option maxHeartbeats 4000000 in
set_option maxRecDepth 100000 in
theorem y_X0_setIron (G : z_G) {nb na np g : Nat} {w0 w : z_w} {c : r_c} {l : r_l} {r : r_r} (hR : r_p dX (TX nb na np g) w0 c l r w) (b : Nat) (hb : b < na) (x y : Int32) : z_M G yX0_setIron cX0_setIron 3 none 1 (0) (0) [vr (18, b), vi x, vi y] w (fun q w1 => q = none ∧ r_p dX (TX nb na np g) w0 (r_cs (r_cs c (18, b) 4 x) (18, b) 5 y) (l) (r) w1) := by
  refine z_met ym_X0_setIron (by decide) ⟨Nat.le_of_ble_eq_true rfl, Nat.le_of_ble_eq_true rfl⟩ (fun X hG hn hmc hms hin h hr => ?_)
  have he := hr.2.2.2.2.2.1
  refine z_aload_n h dX0_setIron_0 rfl ?_
  refine z_iload_n h dX0_setIron_1 rfl ?_
  refine y_put h dX0_setIron_2 he hR flX0_25 rfl (by first | assumption | exact Nat.le_of_ble_eq_true rfl) (by first | rfl | assumption | exact tx_2 (by first | assumption | omega) | exact tx_18 (by first | assumption | omega) | exact tx_19 (by first | assumption | omega) | exact tx_20 (by first | assumption | omega) | exact tx_27 (by first | assumption | omega) | exact tx_28 (by first | assumption | omega) | exact tx_30 (by first | assumption | omega) | exact tx_31 (by first | assumption | omega) | exact tx_32 (by first | assumption | omega) | exact tx_33 (by first | assumption | omega)) (by rfl) (fun w hR => ?_)
  refine z_aload_n h dX0_setIron_5 rfl ?_
  refine z_iload_n h dX0_setIron_6 rfl ?_
  refine y_put h dX0_setIron_7 he hR flX0_28 rfl (by first | assumption | exact Nat.le_of_ble_eq_true rfl) (by first | rfl | assumption | exact tx_2 (by first | assumption | omega) | exact tx_18 (by first | assumption | omega) | exact tx_19 (by first | assumption | omega) | exact tx_20 (by first | assumption | omega) | exact tx_27 (by first | assumption | omega) | exact tx_28 (by first | assumption | omega) | exact tx_30 (by first | assumption | omega) | exact tx_31 (by first | assumption | omega) | exact tx_32 (by first | assumption | omega) | exact tx_33 (by first | assumption | omega)) (by rfl) (fun w hR => ?_)
  exact z_vret h dX0_setIron_10 hr (⟨rfl, hR⟩)
set_option maxHeartbeats 4000000 in
set_option maxRecDepth 100000 in
theorem m_X11_draw (G : z_G) {nb na np g : Nat} {w0 w : z_w} {c : r_c} {l : r_l} {r : r_r} (hX : XR nb na np g w0 c l r w) (bu : Nat) (ch : Nat → Nat) (hbu : c (13, 0) 5 = nI bu) (hbu2 : bu < 2 ^ 22) (hch : ∀ i, i < 8 → ch i < 2 ^ 31 ∧ c (16, 0) i = nI (ch i)) : z_M G yX11_draw cX11_draw 2 (some .int) 4 (3) (27) [vr (0, 0)] w (fun q w1 => if na < 100 ∧ ¬ z_sum (c (15, 0)) 12 = 0 then q = some (vi (nI na)) ∧ ∃ c1 l1, r_p dX (TX nb (na + 1) np g) w0 (c1) (l1) (r_cf r (17, 0) (va_up (r (17, 0)) na (some (18, na)))) w1 ∧
  (c1 (18, na) 2 = (if c (13, 0) 10 = 0 then 0 else if c (13, 0) 10 ≤ 10 then 1 else 2) ∧ c1 (18, na) 3 = c (0, 0) 0 ∧ c1 (18, na) 4 = (n_iron (c (15, 0)) (fun j => c (2, j) 3) nb / 1000).toInt32 ∧ c1 (18, na) 5 = ((n_iron (c (15, 0)) (fun j => c (2, j) 4) nb + 1000 - 1) / 1000).toInt32 ∧ c1 (18, na) 6 = 0) ∧ (∀ k, k < 12 → c1 (19, na) k = c (15, 0) k) ∧ (∀ k, c1 (20, na) k = nI (ptt bu ch 8 k)) ∧
  c1 (0, 0) = upd (upd (c (0, 0)) 9 (c (0, 0) 9 + c (13, 0) 3)) 8 (nI (na + 1)) ∧ (c1 (14, 0) = fun _ => 0) ∧ (c1 (15, 0) = fun _ => 0) ∧ (c1 (16, 0) = fun _ => 0) ∧
  c1 (13, 0) = upd (upd (upd (upd (upd (upd (upd (upd (upd (c (13, 0)) 3 0) 4 0) 5 0) 6 0) 7 0) 8 0) 9 0) 10 0) 11 (-1) ∧
  (∀ t, t ≠ (45, 0) → t ≠ (18, na) → t ≠ (19, na) → t ≠ (20, na) → t ≠ (0, 0) → t ≠ (13, 0) → t ≠ (14, 0) → t ≠ (15, 0) → t ≠ (16, 0) → c1 t = c t)
 else q = some (vi (-1)) ∧ w1 = w) := by
  refine z_met ym_X11_draw (by decide) ⟨Nat.le_of_ble_eq_true rfl, Nat.le_of_ble_eq_true rfl⟩ (fun X hG hn hmc hms hin h hr => ?_)
  have he := hr.2.2.2.2.2.1
  obtain ⟨hR, hnb, hna, hnp, hg6, hc2, hc8, hc12, hr1, hr17, hr26⟩ := id hX
  refine z_less (kC' := 0 + 2 + 1) (kS' := 0 + 20 + 7) (by omega) (by omega) ?_
  refine z_aload_n h dX11_draw_0 rfl ?_
  refine y_geti h dX11_draw_1 hR flX11_223 (by first | assumption | exact Nat.le_of_ble_eq_true rfl) (by first | rfl | assumption | exact tx_2 (by first | assumption | omega) | exact tx_18 (by first | assumption | omega) | exact tx_19 (by first | assumption | omega) | exact tx_20 (by first | assumption | omega) | exact tx_27 (by first | assumption | omega) | exact tx_28 (by first | assumption | omega) | exact tx_30 (by first | assumption | omega) | exact tx_31 (by first | assumption | omega) | exact tx_32 (by first | assumption | omega) | exact tx_33 (by first | assumption | omega)) (by rfl) ?_
  rw [hc8]
  refine z_aload_n h dX11_draw_4 rfl ?_
  refine y_getr h dX11_draw_5 hR flX11_45 (by first | assumption | exact Nat.le_of_ble_eq_true rfl) (by first | rfl | assumption | exact tx_2 (by first | assumption | omega) | exact tx_18 (by first | assumption | omega) | exact tx_19 (by first | assumption | omega) | exact tx_20 (by first | assumption | omega) | exact tx_27 (by first | assumption | omega) | exact tx_28 (by first | assumption | omega) | exact tx_30 (by first | assumption | omega) | exact tx_31 (by first | assumption | omega) | exact tx_32 (by first | assumption | omega) | exact tx_33 (by first | assumption | omega)) (by rfl) ?_
  refine y_len h dX11_draw_8 hR (by first | assumption | exact Nat.le_of_ble_eq_true rfl) (by first | rfl | assumption | exact tx_2 (by first | assumption | omega) | exact tx_18 (by first | assumption | omega) | exact tx_19 (by first | assumption | omega) | exact tx_20 (by first | assumption | omega) | exact tx_27 (by first | assumption | omega) | exact tx_28 (by first | assumption | omega) | exact tx_30 (by first | assumption | omega) | exact tx_31 (by first | assumption | omega) | exact tx_32 (by first | assumption | omega) | exact tx_33 (by first | assumption | omega)) (by rfl) ?_
  refine z_icmp_ge h dX11_draw_9 25 (by decide) (fun c_1 => ?_) (fun c_1 => ?_)
  · skip
    have e1 : 100 ≤ na := (nI_leI (a := 100) (by omega) (by omega)).mp c_1
    refine z_iconst (v := -1) h dX11_draw_25 (by decide) ?_
    exact z_iret h dX11_draw_26 hr (z_f (fun q => by omega) ⟨rfl, rfl⟩)
  · skip
    have e1 : ¬ 100 ≤ na := fun q => c_1 ((nI_leI (a := 100) (by omega) (by omega)).mpr q)
    refine z_aload_n h dX11_draw_12 rfl ?_
    refine y_getr h dX11_draw_13 hR flX11_39 (by first | assumption | exact Nat.le_of_ble_eq_true rfl) (by first | rfl | assumption | exact tx_2 (by first | assumption | omega) | exact tx_18 (by first | assumption | omega) | exact tx_19 (by first | assumption | omega) | exact tx_20 (by first | assumption | omega) | exact tx_27 (by first | assumption | omega) | exact tx_28 (by first | assumption | omega) | exact tx_30 (by first | assumption | omega) | exact tx_31 (by first | assumption | omega) | exact tx_32 (by first | assumption | omega) | exact tx_33 (by first | assumption | omega)) (by rfl) ?_
    refine y_getr h dX11_draw_16 hR flX11_214 (by first | assumption | exact Nat.le_of_ble_eq_true rfl) (by first | rfl | assumption | exact tx_2 (by first | assumption | omega) | exact tx_18 (by first | assumption | omega) | exact tx_19 (by first | assumption | omega) | exact tx_20 (by first | assumption | omega) | exact tx_27 (by first | assumption | omega) | exact tx_28 (by first | assumption | omega) | exact tx_30 (by first | assumption | omega) | exact tx_31 (by first | assumption | omega) | exact tx_32 (by first | assumption | omega) | exact tx_33 (by first | assumption | omega)) (by rfl) ?_
    refine z_callS h dX11_draw_19 (fun _ _ q => z_okv_no he q) (fun _ _ _ t q => absurd q (he t)) (m_X11_sumOf _ _ (15, 0) 12 (c (15, 0)) (hR.ia (Nat.le_of_ble_eq_true rfl) rfl) (by decide)) ym_X11_sumOf mlX11_177 sm_X11_sumOf rfl (by decide) (Nat.le_of_ble_eq_true rfl) ?_
    rintro q1 w1 ⟨rfl, hw1⟩
    have hw1 := hw1.symm; subst hw1
    refine z_if_ne h dX11_draw_22 27 (by decide) (fun c_2 => ?_) (fun c_2 => ?_)
    · skip
      have hT13 := hR.ob (sp := [some (14, 0), some (15, 0), some (16, 0), none, none, none, none, none, none, none, none, none, none, none]) (t := (13, 0)) (Nat.le_of_ble_eq_true rfl) rfl
      have hT0 := hR.ob (ci := 11) (t := (0, 0)) (Nat.le_of_ble_eq_true rfl) rfl
      have f18 := hR.free (t := (18, na)) (Nat.le_of_ble_eq_true rfl) (tx_18n (Nat.le_refl _))
      have f19 := hR.free (t := (19, na)) (Nat.le_of_ble_eq_true rfl) (tx_19n (Nat.le_refl _))
      have f20 := hR.free (t := (20, na)) (Nat.le_of_ble_eq_true rfl) (tx_20n (Nat.le_refl _))
      refine z_new h dX11_draw_27 he nwX11_43 (18, na) f18 ?_
      refine z_dup_r h dX11_draw_30 ?_
      refine z_aload_n h dX11_draw_31 rfl ?_
      refine z_get h dX11_draw_32 flX11_39 (z_skip rfl hT0) rfl ?_
      refine z_callV h dX11_draw_35 (fun _ _ q => z_okv_no he q) (fun _ _ _ t q => absurd q (he t)) (m_X3_sort _ _ _ (c (13, 0) 10) (z_skip rfl hT13) rfl) ym_X3_sortOfBloom mlX11_226 im_X3_sortOfBloom (ci := 3) rfl se_X3_sortOfBloom icX3 rfl (z_skip rfl hT13) rfl (by decide) (Nat.le_of_ble_eq_true rfl) ?_
      rintro q1 w1 ⟨rfl, rfl⟩
      refine z_aload_n h dX11_draw_38 rfl ?_
      refine z_get h dX11_draw_39 flX11_110 (z_skip rfl hT0) rfl ?_
      refine z_callI h dX11_draw_42 (fun _ _ q => z_okv_no he q) (fun _ _ _ t q => absurd q (he t)) (m_X0_init _ hR (z_set_self _ _ _) (z_skip rfl f19) (z_skip rfl f20) (z_fr.rf.set (by simp)) _ _) ym_X0_init mlX11_229 im_X0_init rfl (z_some_of (z_set_self _ _ _)) rfl (by decide) (Nat.le_of_ble_eq_true rfl) ?_
      rintro q1 w ⟨rfl, hR⟩
      refine z_astore_n h dX11_draw_45 (by rw [hn]; decide) ?_
      refine z_aload_n h dX11_draw_46 rfl ?_
      refine z_aload_n h dX11_draw_47 rfl ?_
      refine z_iconst (v := 0) h dX11_draw_48 (by decide) ?_
      refine z_callV h dX11_draw_49 (fun _ _ q => z_okv_no he q) (fun _ _ _ t q => absurd q (he t)) (m_X11_iron0 _ hR hnb hc2 hr1) ym_X11_ironInBloom mlX11_232 im_X11_ironInBloom (ci := 11) rfl se_X11_ironInBloom icX11 rfl (r_p.ob hR (by first | assumption | exact Nat.le_of_ble_eq_true rfl) (by first | rfl | assumption | exact tx_2 (by first | assumption | omega) | exact tx_18 (by first | assumption | omega) | exact tx_19 (by first | assumption | omega) | exact tx_20 (by first | assumption | omega) | exact tx_27 (by first | assumption | omega) | exact tx_28 (by first | assumption | omega) | exact tx_30 (by first | assumption | omega) | exact tx_31 (by first | assumption | omega) | exact tx_32 (by first | assumption | omega) | exact tx_33 (by first | assumption | omega))) rfl (by decide) (Nat.le_of_ble_eq_true rfl) ?_
      rintro q1 w1 ⟨rfl, hw1⟩
      have hw1 := hw1.symm; subst hw1
      refine z_aload_n h dX11_draw_52 rfl ?_
      refine z_iconst (v := 1) h dX11_draw_53 (by decide) ?_
      refine z_callV h dX11_draw_54 (fun _ _ q => z_okv_no he q) (fun _ _ _ t q => absurd q (he t)) (m_X11_iron1 _ hR hnb hc2 hr1) ym_X11_ironInBloom mlX11_232 im_X11_ironInBloom (ci := 11) rfl se_X11_ironInBloom icX11 rfl (r_p.ob hR (by first | assumption | exact Nat.le_of_ble_eq_true rfl) (by first | rfl | assumption | exact tx_2 (by first | assumption | omega) | exact tx_18 (by first | assumption | omega) | exact tx_19 (by first | assumption | omega) | exact tx_20 (by first | assumption | omega) | exact tx_27 (by first | assumption | omega) | exact tx_28 (by first | assumption | omega) | exact tx_30 (by first | assumption | omega) | exact tx_31 (by first | assumption | omega) | exact tx_32 (by first | assumption | omega) | exact tx_33 (by first | assumption | omega))) rfl (by decide) (Nat.le_of_ble_eq_true rfl) ?_
      rintro q1 w1 ⟨rfl, hw1⟩
      have hw1 := hw1.symm; subst hw1
      refine z_callV h dX11_draw_57 (fun _ _ q => z_okv_no he q) (fun _ _ _ t q => absurd q (he t)) (y_X0_setIron _ hR na (by omega) _ _) ym_X0_setIron mlX11_236 im_X0_setIron (ci := 0) rfl se_X0_setIron icX0 rfl (r_p.ob hR (Nat.le_of_ble_eq_true rfl) (tx_18 (by omega))) rfl (by decide) (Nat.le_of_ble_eq_true rfl) ?_
      rintro q1 w ⟨rfl, hR⟩
      refine z_aload_n h dX11_draw_60 rfl ?_
      refine y_getr h dX11_draw_61 hR flX11_39 (by first | assumption | exact Nat.le_of_ble_eq_true rfl) (by first | rfl | assumption | exact tx_2 (by first | assumption | omega) | exact tx_18 (by first | assumption | omega) | exact tx_19 (by first | assumption | omega) | exact tx_20 (by first | assumption | omega) | exact tx_27 (by first | assumption | omega) | exact tx_28 (by first | assumption | omega) | exact tx_30 (by first | assumption | omega) | exact tx_31 (by first | assumption | omega) | exact tx_32 (by first | assumption | omega) | exact tx_33 (by first | assumption | omega)) (by rfl) ?_
      refine y_getr h dX11_draw_64 hR flX11_214 (by first | assumption | exact Nat.le_of_ble_eq_true rfl) (by first | rfl | assumption | exact tx_2 (by first | assumption | omega) | exact tx_18 (by first | assumption | omega) | exact tx_19 (by first | assumption | omega) | exact tx_20 (by first | assumption | omega) | exact tx_27 (by first | assumption | omega) | exact tx_28 (by first | assumption | omega) | exact tx_30 (by first | assumption | omega) | exact tx_31 (by first | assumption | omega) | exact tx_32 (by first | assumption | omega) | exact tx_33 (by first | assumption | omega)) (by rfl) ?_
      refine z_iconst (v := 0) h dX11_draw_67 (by decide) ?_
      refine z_aload_n h dX11_draw_68 rfl ?_
      refine y_getr h dX11_draw_69 hR flX11_239 (by first | assumption | exact Nat.le_of_ble_eq_true rfl) (tx_18 (by omega)) (by rfl) ?_
      refine z_iconst (v := 0) h dX11_draw_72 (by decide) ?_
      refine z_bipush (v := 12) h dX11_draw_73 (by decide) ?_
      refine y_copy (sp := 0) (dp := 0) (n := 12) (n0 := 12) (n1 := 12) h dX11_draw_75 hR mlX11_240 na_Acopy sm_Acopy ic_System ⟨Nat.le_of_ble_eq_true rfl, rfl⟩ ⟨Nat.le_of_ble_eq_true rfl, tx_19 (by omega)⟩ (by decide) (Nat.le_of_ble_eq_true rfl) (fun w hR => ?_)
      refine z_aload_n h dX11_draw_78 rfl ?_
      refine y_getr h dX11_draw_79 hR flX11_79 (by first | assumption | exact Nat.le_of_ble_eq_true rfl) (by first | rfl | assumption | exact tx_2 (by first | assumption | omega) | exact tx_18 (by first | assumption | omega) | exact tx_19 (by first | assumption | omega) | exact tx_20 (by first | assumption | omega) | exact tx_27 (by first | assumption | omega) | exact tx_28 (by first | assumption | omega) | exact tx_30 (by first | assumption | omega) | exact tx_31 (by first | assumption | omega) | exact tx_32 (by first | assumption | omega) | exact tx_33 (by first | assumption | omega)) (by rfl) ?_
      refine z_aload_n h dX11_draw_82 rfl ?_
      refine y_getr h dX11_draw_83 hR flX11_39 (by first | assumption | exact Nat.le_of_ble_eq_true rfl) (by first | rfl | assumption | exact tx_2 (by first | assumption | omega) | exact tx_18 (by first | assumption | omega) | exact tx_19 (by first | assumption | omega) | exact tx_20 (by first | assumption | omega) | exact tx_27 (by first | assumption | omega) | exact tx_28 (by first | assumption | omega) | exact tx_30 (by first | assumption | omega) | exact tx_31 (by first | assumption | omega) | exact tx_32 (by first | assumption | omega) | exact tx_33 (by first | assumption | omega)) (by rfl) ?_
      refine y_geti h dX11_draw_86 hR flX11_246 (by first | assumption | exact Nat.le_of_ble_eq_true rfl) (by first | rfl | assumption | exact tx_2 (by first | assumption | omega) | exact tx_18 (by first | assumption | omega) | exact tx_19 (by first | assumption | omega) | exact tx_20 (by first | assumption | omega) | exact tx_27 (by first | assumption | omega) | exact tx_28 (by first | assumption | omega) | exact tx_30 (by first | assumption | omega) | exact tx_31 (by first | assumption | omega) | exact tx_32 (by first | assumption | omega) | exact tx_33 (by first | assumption | omega)) (by rfl) ?_
      refine z_toe (y := nI bu) hbu ?_
      refine z_aload_n h dX11_draw_89 rfl ?_
      refine y_getr h dX11_draw_90 hR flX11_39 (by first | assumption | exact Nat.le_of_ble_eq_true rfl) (by first | rfl | assumption | exact tx_2 (by first | assumption | omega) | exact tx_18 (by first | assumption | omega) | exact tx_19 (by first | assumption | omega) | exact tx_20 (by first | assumption | omega) | exact tx_27 (by first | assumption | omega) | exact tx_28 (by first | assumption | omega) | exact tx_30 (by first | assumption | omega) | exact tx_31 (by first | assumption | omega) | exact tx_32 (by first | assumption | omega) | exact tx_33 (by first | assumption | omega)) (by rfl) ?_
      refine y_getr h dX11_draw_93 hR flX11_189 (by first | assumption | exact Nat.le_of_ble_eq_true rfl) (by first | rfl | assumption | exact tx_2 (by first | assumption | omega) | exact tx_18 (by first | assumption | omega) | exact tx_19 (by first | assumption | omega) | exact tx_20 (by first | assumption | omega) | exact tx_27 (by first | assumption | omega) | exact tx_28 (by first | assumption | omega) | exact tx_30 (by first | assumption | omega) | exact tx_31 (by first | assumption | omega) | exact tx_32 (by first | assumption | omega) | exact tx_33 (by first | assumption | omega)) (by rfl) ?_
      refine z_aload_n h dX11_draw_96 rfl ?_
      refine y_getr h dX11_draw_97 hR flX11_249 (by first | assumption | exact Nat.le_of_ble_eq_true rfl) (tx_18 (by omega)) (by rfl) ?_
      refine z_callV h dX11_draw_100 (fun _ _ q => z_okv_no he q) (fun _ _ _ t q => absurd q (he t)) (m_X6_carry _ hR (16, 0) (20, na) 8 bu ch (Nat.le_of_ble_eq_true rfl) rfl (Nat.le_of_ble_eq_true rfl) (tx_20 (by omega)) rfl rfl rfl (by omega) (by omega) hbu2 hch) ym_X6_carry mlX11_185 im_X6_carry (ci := 6) rfl se_X6_carry icX6 rfl (r_p.ob hR (by first | assumption | exact Nat.le_of_ble_eq_true rfl) (by first | rfl | assumption | exact tx_2 (by first | assumption | omega) | exact tx_18 (by first | assumption | omega) | exact tx_19 (by first | assumption | omega) | exact tx_20 (by first | assumption | omega) | exact tx_27 (by first | assumption | omega) | exact tx_28 (by first | assumption | omega) | exact tx_30 (by first | assumption | omega) | exact tx_31 (by first | assumption | omega) | exact tx_32 (by first | assumption | omega) | exact tx_33 (by first | assumption | omega))) rfl (by decide) (Nat.le_of_ble_eq_true rfl) ?_
      rintro q1 w ⟨rfl, sf, lf, hR⟩
      refine z_aload_n h dX11_draw_103 rfl ?_
      refine z_dup_r h dX11_draw_104 ?_
      refine y_geti h dX11_draw_105 hR flX11_250 (by first | assumption | exact Nat.le_of_ble_eq_true rfl) (by first | rfl | assumption | exact tx_2 (by first | assumption | omega) | exact tx_18 (by first | assumption | omega) | exact tx_19 (by first | assumption | omega) | exact tx_20 (by first | assumption | omega) | exact tx_27 (by first | assumption | omega) | exact tx_28 (by first | assumption | omega) | exact tx_30 (by first | assumption | omega) | exact tx_31 (by first | assumption | omega) | exact tx_32 (by first | assumption | omega) | exact tx_33 (by first | assumption | omega)) (by rfl) ?_
      refine z_aload_n h dX11_draw_108 rfl ?_
      refine y_getr h dX11_draw_109 hR flX11_39 (by first | assumption | exact Nat.le_of_ble_eq_true rfl) (by first | rfl | assumption | exact tx_2 (by first | assumption | omega) | exact tx_18 (by first | assumption | omega) | exact tx_19 (by first | assumption | omega) | exact tx_20 (by first | assumption | omega) | exact tx_27 (by first | assumption | omega) | exact tx_28 (by first | assumption | omega) | exact tx_30 (by first | assumption | omega) | exact tx_31 (by first | assumption | omega) | exact tx_32 (by first | assumption | omega) | exact tx_33 (by first | assumption | omega)) (by rfl) ?_
      refine y_geti h dX11_draw_112 hR flX11_192 (by first | assumption | exact Nat.le_of_ble_eq_true rfl) (by first | rfl | assumption | exact tx_2 (by first | assumption | omega) | exact tx_18 (by first | assumption | omega) | exact tx_19 (by first | assumption | omega) | exact tx_20 (by first | assumption | omega) | exact tx_27 (by first | assumption | omega) | exact tx_28 (by first | assumption | omega) | exact tx_30 (by first | assumption | omega) | exact tx_31 (by first | assumption | omega) | exact tx_32 (by first | assumption | omega) | exact tx_33 (by first | assumption | omega)) (by rfl) ?_
      refine z_iadd h dX11_draw_115 ?_
      refine y_put h dX11_draw_116 he hR flX11_250 rfl (by first | assumption | exact Nat.le_of_ble_eq_true rfl) (by first | rfl | assumption | exact tx_2 (by first | assumption | omega) | exact tx_18 (by first | assumption | omega) | exact tx_19 (by first | assumption | omega) | exact tx_20 (by first | assumption | omega) | exact tx_27 (by first | assumption | omega) | exact tx_28 (by first | assumption | omega) | exact tx_30 (by first | assumption | omega) | exact tx_31 (by first | assumption | omega) | exact tx_32 (by first | assumption | omega) | exact tx_33 (by first | assumption | omega)) (by rfl) (fun w hR => ?_)
      refine z_aload_n h dX11_draw_119 rfl ?_
      refine y_getr h dX11_draw_120 hR flX11_39 (by first | assumption | exact Nat.le_of_ble_eq_true rfl) (by first | rfl | assumption | exact tx_2 (by first | assumption | omega) | exact tx_18 (by first | assumption | omega) | exact tx_19 (by first | assumption | omega) | exact tx_20 (by first | assumption | omega) | exact tx_27 (by first | assumption | omega) | exact tx_28 (by first | assumption | omega) | exact tx_30 (by first | assumption | omega) | exact tx_31 (by first | assumption | omega) | exact tx_32 (by first | assumption | omega) | exact tx_33 (by first | assumption | omega)) (by rfl) ?_
      refine z_callV h dX11_draw_123 (fun _ _ q => z_okv_no he q) (fun _ _ _ t q => absurd q (he t)) (m_X3_empty _ hR) ym_X3_empty mlX11_253 im_X3_empty (ci := 3) rfl se_X3_empty icX3 rfl (r_p.ob hR (by first | assumption | exact Nat.le_of_ble_eq_true rfl) (by first | rfl | assumption | exact tx_2 (by first | assumption | omega) | exact tx_18 (by first | assumption | omega) | exact tx_19 (by first | assumption | omega) | exact tx_20 (by first | assumption | omega) | exact tx_27 (by first | assumption | omega) | exact tx_28 (by first | assumption | omega) | exact tx_30 (by first | assumption | omega) | exact tx_31 (by first | assumption | omega) | exact tx_32 (by first | assumption | omega) | exact tx_33 (by first | assumption | omega))) rfl (by decide) (Nat.le_of_ble_eq_true rfl) ?_
      rintro q1 w ⟨rfl, hR⟩
      refine z_aload_n h dX11_draw_126 rfl ?_
      refine y_getr h dX11_draw_127 hR flX11_45 (by first | assumption | exact Nat.le_of_ble_eq_true rfl) (by first | rfl | assumption | exact tx_2 (by first | assumption | omega) | exact tx_18 (by first | assumption | omega) | exact tx_19 (by first | assumption | omega) | exact tx_20 (by first | assumption | omega) | exact tx_27 (by first | assumption | omega) | exact tx_28 (by first | assumption | omega) | exact tx_30 (by first | assumption | omega) | exact tx_31 (by first | assumption | omega) | exact tx_32 (by first | assumption | omega) | exact tx_33 (by first | assumption | omega)) (by rfl) ?_
      refine z_aload_n h dX11_draw_130 rfl ?_
      refine y_geti h dX11_draw_131 hR flX11_223 (by first | assumption | exact Nat.le_of_ble_eq_true rfl) (by first | rfl | assumption | exact tx_2 (by first | assumption | omega) | exact tx_18 (by first | assumption | omega) | exact tx_19 (by first | assumption | omega) | exact tx_20 (by first | assumption | omega) | exact tx_27 (by first | assumption | omega) | exact tx_28 (by first | assumption | omega) | exact tx_30 (by first | assumption | omega) | exact tx_31 (by first | assumption | omega) | exact tx_32 (by first | assumption | omega) | exact tx_33 (by first | assumption | omega)) (by rfl) ?_
      refine z_aload_n h dX11_draw_134 rfl ?_
      refine y_aast h dX11_draw_135 hR (by first | assumption | exact Nat.le_of_ble_eq_true rfl) (by first | rfl | assumption | exact tx_2 (by first | assumption | omega) | exact tx_18 (by first | assumption | omega) | exact tx_19 (by first | assumption | omega) | exact tx_20 (by first | assumption | omega) | exact tx_27 (by first | assumption | omega) | exact tx_28 (by first | assumption | omega) | exact tx_30 (by first | assumption | omega) | exact tx_31 (by first | assumption | omega) | exact tx_32 (by first | assumption | omega) | exact tx_33 (by first | assumption | omega)) rfl rfl (z_ixe (show _ = nI na from hc8) (by omega) (by omega)) (by first | assumption | exact Nat.le_of_ble_eq_true rfl) (tx_18 (by omega)) (fun w hR => ?_)
      refine z_aload_n h dX11_draw_136 rfl ?_
      refine z_dup_r h dX11_draw_137 ?_
      refine y_geti h dX11_draw_138 hR flX11_223 (by first | assumption | exact Nat.le_of_ble_eq_true rfl) (by first | rfl | assumption | exact tx_2 (by first | assumption | omega) | exact tx_18 (by first | assumption | omega) | exact tx_19 (by first | assumption | omega) | exact tx_20 (by first | assumption | omega) | exact tx_27 (by first | assumption | omega) | exact tx_28 (by first | assumption | omega) | exact tx_30 (by first | assumption | omega) | exact tx_31 (by first | assumption | omega) | exact tx_32 (by first | assumption | omega) | exact tx_33 (by first | assumption | omega)) (by rfl) ?_
      refine z_dup_x1 h dX11_draw_141 ?_
      refine z_iconst (v := 1) h dX11_draw_142 (by decide) ?_
      refine z_iadd h dX11_draw_143 ?_
      refine z_toe (y := nI (na + 1)) (by show c (0, 0) 8 + 1 = _; rw [hc8]; exact z_up na) ?_
      refine y_put h dX11_draw_144 he hR flX11_223 rfl (by first | assumption | exact Nat.le_of_ble_eq_true rfl) (by first | rfl | assumption | exact tx_2 (by first | assumption | omega) | exact tx_18 (by first | assumption | omega) | exact tx_19 (by first | assumption | omega) | exact tx_20 (by first | assumption | omega) | exact tx_27 (by first | assumption | omega) | exact tx_28 (by first | assumption | omega) | exact tx_30 (by first | assumption | omega) | exact tx_31 (by first | assumption | omega) | exact tx_32 (by first | assumption | omega) | exact tx_33 (by first | assumption | omega)) (by rfl) (fun w hR => ?_)
      exact z_iret h dX11_draw_147 hr (z_t ⟨by omega, c_2⟩ ⟨by show some (vi (c (0, 0) 8)) = _; rw [hc8], _, _, hR, ⟨by
            simp only [r_cs, r_cf_ne (show ((18, na) : z_T) ≠ (0, 0) by simp), r_cf_ne (show ((18, na) : z_T) ≠ (13, 0) by simp), r_cf_ne (show ((18, na) : z_T) ≠ (14, 0) by simp), r_cf_ne (show ((18, na) : z_T) ≠ (15, 0) by simp), r_cf_ne (show ((18, na) : z_T) ≠ (16, 0) by simp), r_cf_ne (show ((18, na) : z_T) ≠ (20, na) by simp), r_cf_ne (show ((18, na) : z_T) ≠ (19, na) by simp), r_cf_ne (show ((18, na) : z_T) ≠ (45, 0) by simp), r_cf_self, bar_c]
            exact ⟨rfl, rfl, rfl, rfl, rfl⟩, fun k hk => by
            simp only [r_cs, r_cf_ne (show ((19, na) : z_T) ≠ (0, 0) by simp), r_cf_ne (show ((19, na) : z_T) ≠ (13, 0) by simp), r_cf_ne (show ((19, na) : z_T) ≠ (14, 0) by simp), r_cf_ne (show ((19, na) : z_T) ≠ (15, 0) by simp), r_cf_ne (show ((19, na) : z_T) ≠ (16, 0) by simp), r_cf_ne (show ((19, na) : z_T) ≠ (20, na) by simp), r_cf_ne (show ((19, na) : z_T) ≠ (18, na) by simp), r_cf_ne (show ((19, na) : z_T) ≠ (45, 0) by simp), r_cf_self, bar_c]
            show (if 0 ≤ k ∧ k < 0 + 12 then c (15, 0) (0 + (k - 0)) else _) = _
            rw [if_pos (by omega)]
            congr 1
            omega, fun k => by
            simp only [r_cs, r_cf_ne (show ((20, na) : z_T) ≠ (0, 0) by simp), r_cf_ne (show ((20, na) : z_T) ≠ (13, 0) by simp), r_cf_ne (show ((20, na) : z_T) ≠ (14, 0) by simp), r_cf_ne (show ((20, na) : z_T) ≠ (15, 0) by simp), r_cf_ne (show ((20, na) : z_T) ≠ (16, 0) by simp), r_cf_self]
            show bar_c c na _ _ (20, na) k + _ = _
            unfold bar_c
            rw [r_cf_self, Int32.zero_add], rfl, rfl, rfl, rfl, rfl, fun t h1 h2 h3 h4 h5 h6 h7 h8 h9 => by simp only [r_cs, bar_c, r_cf_ne h1, r_cf_ne h2, r_cf_ne h3, r_cf_ne h4, r_cf_ne h5, r_cf_ne h6, r_cf_ne h7, r_cf_ne h8, r_cf_ne h9]⟩⟩)
    · skip
      refine z_iconst (v := -1) h dX11_draw_25 (by decide) ?_
      exact z_iret h dX11_draw_26 hr (z_f (fun q => q.2 c_2) ⟨rfl, rfl⟩)
