/-! the class: learning rules, feed, fault, rules -/
def tp_om (m : Nat) : Nat := if m < 40 then m + 1 else m
def tp_oc (c : r_c) (m : Nat) (b : Int32) : r_c := if m < 40 then r_cs (r_cs (r_cs c (9, 0) m b) (11, 0) m 0) (8, 0) 4 (nI (m + 1)) else c
def tp_lw (c : r_c) (m : Nat) (a b : Int32) : r_c :=
  if m = 0 then c
  else if b = 61 ∨ b = 60 ∨ b = 62 then r_cs c (10, 0) (m - 1) b
  else if (48 ≤ b ∧ b ≤ 57) ∧ ¬ a = 0 then r_cs c (12, 0) (m - 1) (b - 48)
  else if 48 ≤ b ∧ b ≤ 57 then r_cs c (11, 0) (m - 1) (c (11, 0) (m - 1) * 10 + b - 48)
  else c
/-- one byte learnt: clauses, whether air is next, contents -/
def tp_l1 (s : Nat × Int32 × r_c) (b : Int32) : Nat × Int32 × r_c :=
  if b = 104 ∨ b = 109 ∨ b = 99 ∨ b = 111 then (tp_om s.1, 0, tp_oc s.2.2 s.1 b)
  else if b = 58 then (s.1, 1, s.2.2)
  else (s.1, s.2.1, tp_lw s.2.2 s.1 s.2.1 b)
def tp_ln (c : r_c) (f : Nat → Int32) : Nat → Nat × Int32 × r_c
  | 0 => (0, 0, r_cs c (8, 0) 4 0)
  | n + 1 => tp_l1 (tp_ln c f n) (f n)
theorem tp_om_le {m : Nat} (h : m ≤ 40) : tp_om m ≤ 40 := by unfold tp_om; split <;> omega
theorem tp_oc_ne {c : r_c} {m : Nat} {b : Int32} {t : z_T} (h8 : t ≠ (8, 0)) (h9 : t ≠ (9, 0)) (h11 : t ≠ (11, 0)) : tp_oc c m b t = c t := by
  unfold tp_oc; split
  · rw [r_cs, r_cf_ne h8, r_cs, r_cf_ne h11, r_cs, r_cf_ne h9]
  · rfl
theorem tp_oc_4 {c : r_c} {m : Nat} {b : Int32} (h : c (8, 0) 4 = nI m) : tp_oc c m b (8, 0) 4 = nI (tp_om m) := by
  unfold tp_oc tp_om; split
  · rw [r_cs, r_cf_self]; rfl
  · exact h
theorem tp_lw_ne {c : r_c} {m : Nat} {a b : Int32} {t : z_T} (h10 : t ≠ (10, 0)) (h11 : t ≠ (11, 0)) (h12 : t ≠ (12, 0)) : tp_lw c m a b t = c t := by
  unfold tp_lw
  split
  · rfl
  · split
    · rw [r_cs, r_cf_ne h10]
    · split
      · rw [r_cs, r_cf_ne h12]
      · split
        · rw [r_cs, r_cf_ne h11]
        · rfl
theorem tp_ws_app (f : Nat → Int32) (n : Nat) (p q : List Int32) : tp_ws f n (p ++ q) = tp_ws (tp_ws f n p) (n + p.length) q := by
  induction p generalizing f n with
  | nil => rfl
  | cons a p ih => rw [List.cons_append, tp_ws, tp_ws, ih, List.length_cons, show n + 1 + p.length = n + (p.length + 1) by omega]
set_option maxHeartbeats 4000000 in
set_option maxRecDepth 100000 in
theorem m_X2_open (G : z_G) {nb na np g : Nat} {w0 w : z_w} {c : r_c} {l : r_l} {r : r_r} (hR : r_p dX (TX nb na np g) w0 c l r w) (m : Nat) (hm : c (8, 0) 4 = nI m) (hm2 : m ≤ 40) (b : Int32) : z_M G yX2_open cX2_open 2 none 1 (0) (0) [vr (8, 0), vi b] w (fun q w1 => q = none ∧ r_p dX (TX nb na np g) w0 (tp_oc c m b) (l) (r) w1) := by
  refine z_met ym_X2_open (by decide) ⟨Nat.le_of_ble_eq_true rfl, Nat.le_of_ble_eq_true rfl⟩ (fun X hG hn hmc hms hin h hr => ?_)
  have he := hr.2.2.2.2.2.1
  refine z_aload_n h dX2_open_0 rfl ?_
  refine y_geti h dX2_open_1 hR flX2_24 (by first | assumption | exact Nat.le_of_ble_eq_true rfl) (by first | rfl | assumption | exact tx_2 (by first | assumption | omega) | exact tx_18 (by first | assumption | omega) | exact tx_19 (by first | assumption | omega) | exact tx_20 (by first | assumption | omega) | exact tx_27 (by first | assumption | omega) | exact tx_28 (by first | assumption | omega) | exact tx_30 (by first | assumption | omega) | exact tx_31 (by first | assumption | omega) | exact tx_32 (by first | assumption | omega) | exact tx_33 (by first | assumption | omega)) (by rfl) ?_
  rw [hm]
  refine z_aload_n h dX2_open_4 rfl ?_
  refine y_getr h dX2_open_5 hR flX2_9 (by first | assumption | exact Nat.le_of_ble_eq_true rfl) (by first | rfl | assumption | exact tx_2 (by first | assumption | omega) | exact tx_18 (by first | assumption | omega) | exact tx_19 (by first | assumption | omega) | exact tx_20 (by first | assumption | omega) | exact tx_27 (by first | assumption | omega) | exact tx_28 (by first | assumption | omega) | exact tx_30 (by first | assumption | omega) | exact tx_31 (by first | assumption | omega) | exact tx_32 (by first | assumption | omega) | exact tx_33 (by first | assumption | omega)) (by rfl) ?_
  refine y_len h dX2_open_8 hR (by first | assumption | exact Nat.le_of_ble_eq_true rfl) (by first | rfl | assumption | exact tx_2 (by first | assumption | omega) | exact tx_18 (by first | assumption | omega) | exact tx_19 (by first | assumption | omega) | exact tx_20 (by first | assumption | omega) | exact tx_27 (by first | assumption | omega) | exact tx_28 (by first | assumption | omega) | exact tx_30 (by first | assumption | omega) | exact tx_31 (by first | assumption | omega) | exact tx_32 (by first | assumption | omega) | exact tx_33 (by first | assumption | omega)) (by rfl) ?_
  refine z_icmp_ge h dX2_open_9 42 (by decide) (fun c_1 => ?_) (fun c_1 => ?_)
  · skip
    have e1 : 40 ≤ m := (nI_leI (a := 40) (by omega) (by omega)).mp c_1
    exact z_vret h dX2_open_42 hr (⟨rfl, by rw [tp_oc, if_neg (by omega)]; exact hR⟩)
  · skip
    have e1 : ¬ 40 ≤ m := fun q => c_1 ((nI_leI (a := 40) (by omega) (by omega)).mpr q)
    refine z_aload_n h dX2_open_12 rfl ?_
    refine y_getr h dX2_open_13 hR flX2_9 (by first | assumption | exact Nat.le_of_ble_eq_true rfl) (by first | rfl | assumption | exact tx_2 (by first | assumption | omega) | exact tx_18 (by first | assumption | omega) | exact tx_19 (by first | assumption | omega) | exact tx_20 (by first | assumption | omega) | exact tx_27 (by first | assumption | omega) | exact tx_28 (by first | assumption | omega) | exact tx_30 (by first | assumption | omega) | exact tx_31 (by first | assumption | omega) | exact tx_32 (by first | assumption | omega) | exact tx_33 (by first | assumption | omega)) (by rfl) ?_
    refine z_aload_n h dX2_open_16 rfl ?_
    refine y_geti h dX2_open_17 hR flX2_24 (by first | assumption | exact Nat.le_of_ble_eq_true rfl) (by first | rfl | assumption | exact tx_2 (by first | assumption | omega) | exact tx_18 (by first | assumption | omega) | exact tx_19 (by first | assumption | omega) | exact tx_20 (by first | assumption | omega) | exact tx_27 (by first | assumption | omega) | exact tx_28 (by first | assumption | omega) | exact tx_30 (by first | assumption | omega) | exact tx_31 (by first | assumption | omega) | exact tx_32 (by first | assumption | omega) | exact tx_33 (by first | assumption | omega)) (by rfl) ?_
    refine z_iload_n h dX2_open_20 rfl ?_
    refine y_iast h dX2_open_21 hR (by first | assumption | exact Nat.le_of_ble_eq_true rfl) (by first | rfl | assumption | exact tx_2 (by first | assumption | omega) | exact tx_18 (by first | assumption | omega) | exact tx_19 (by first | assumption | omega) | exact tx_20 (by first | assumption | omega) | exact tx_27 (by first | assumption | omega) | exact tx_28 (by first | assumption | omega) | exact tx_30 (by first | assumption | omega) | exact tx_31 (by first | assumption | omega) | exact tx_32 (by first | assumption | omega) | exact tx_33 (by first | assumption | omega)) (z_ixe (show _ = nI m from hm) (by omega) (by omega)) (fun w hR => ?_)
    refine z_aload_n h dX2_open_22 rfl ?_
    refine y_getr h dX2_open_23 hR flX2_18 (by first | assumption | exact Nat.le_of_ble_eq_true rfl) (by first | rfl | assumption | exact tx_2 (by first | assumption | omega) | exact tx_18 (by first | assumption | omega) | exact tx_19 (by first | assumption | omega) | exact tx_20 (by first | assumption | omega) | exact tx_27 (by first | assumption | omega) | exact tx_28 (by first | assumption | omega) | exact tx_30 (by first | assumption | omega) | exact tx_31 (by first | assumption | omega) | exact tx_32 (by first | assumption | omega) | exact tx_33 (by first | assumption | omega)) (by rfl) ?_
    refine z_aload_n h dX2_open_26 rfl ?_
    refine y_geti h dX2_open_27 hR flX2_24 (by first | assumption | exact Nat.le_of_ble_eq_true rfl) (by first | rfl | assumption | exact tx_2 (by first | assumption | omega) | exact tx_18 (by first | assumption | omega) | exact tx_19 (by first | assumption | omega) | exact tx_20 (by first | assumption | omega) | exact tx_27 (by first | assumption | omega) | exact tx_28 (by first | assumption | omega) | exact tx_30 (by first | assumption | omega) | exact tx_31 (by first | assumption | omega) | exact tx_32 (by first | assumption | omega) | exact tx_33 (by first | assumption | omega)) (by rfl) ?_
    refine z_iconst (v := 0) h dX2_open_30 (by decide) ?_
    refine y_iast h dX2_open_31 hR (by first | assumption | exact Nat.le_of_ble_eq_true rfl) (by first | rfl | assumption | exact tx_2 (by first | assumption | omega) | exact tx_18 (by first | assumption | omega) | exact tx_19 (by first | assumption | omega) | exact tx_20 (by first | assumption | omega) | exact tx_27 (by first | assumption | omega) | exact tx_28 (by first | assumption | omega) | exact tx_30 (by first | assumption | omega) | exact tx_31 (by first | assumption | omega) | exact tx_32 (by first | assumption | omega) | exact tx_33 (by first | assumption | omega)) (z_ixe (show _ = nI m from hm) (by omega) (by omega)) (fun w hR => ?_)
    refine z_aload_n h dX2_open_32 rfl ?_
    refine z_dup_r h dX2_open_33 ?_
    refine y_geti h dX2_open_34 hR flX2_24 (by first | assumption | exact Nat.le_of_ble_eq_true rfl) (by first | rfl | assumption | exact tx_2 (by first | assumption | omega) | exact tx_18 (by first | assumption | omega) | exact tx_19 (by first | assumption | omega) | exact tx_20 (by first | assumption | omega) | exact tx_27 (by first | assumption | omega) | exact tx_28 (by first | assumption | omega) | exact tx_30 (by first | assumption | omega) | exact tx_31 (by first | assumption | omega) | exact tx_32 (by first | assumption | omega) | exact tx_33 (by first | assumption | omega)) (by rfl) ?_
    refine z_iconst (v := 1) h dX2_open_37 (by decide) ?_
    refine z_iadd h dX2_open_38 ?_
    refine z_toe (y := nI (m + 1)) (by show c (8, 0) 4 + 1 = _; rw [hm]; exact z_up m) ?_
    refine y_put h dX2_open_39 he hR flX2_24 rfl (by first | assumption | exact Nat.le_of_ble_eq_true rfl) (by first | rfl | assumption | exact tx_2 (by first | assumption | omega) | exact tx_18 (by first | assumption | omega) | exact tx_19 (by first | assumption | omega) | exact tx_20 (by first | assumption | omega) | exact tx_27 (by first | assumption | omega) | exact tx_28 (by first | assumption | omega) | exact tx_30 (by first | assumption | omega) | exact tx_31 (by first | assumption | omega) | exact tx_32 (by first | assumption | omega) | exact tx_33 (by first | assumption | omega)) (by rfl) (fun w hR => ?_)
    exact z_vret h dX2_open_42 hr (⟨rfl, by rw [tp_oc, if_pos (by omega)]; exact hR⟩)
theorem nI_predm {m : Nat} (h : m ≠ 0) : nI m - 1 = nI (m - 1) := by
  rcases m with _ | m
  · exact absurd rfl h
  · rw [nI_pred]; rfl
set_option maxHeartbeats 4000000 in
set_option maxRecDepth 100000 in
theorem m_X2_learnWithin (G : z_G) {nb na np g : Nat} {w0 w : z_w} {c : r_c} {l : r_l} {r : r_r} (hR : r_p dX (TX nb na np g) w0 c l r w) (m : Nat) (hm2 : m ≤ 40) (b a : Int32) : z_M G yX2_learnWithin cX2_learnWithin 4 none 2 (0) (0) [vr (8, 0), vi (nI m - 1), vi b, vi a] w (fun q w1 => q = none ∧ r_p dX (TX nb na np g) w0 (tp_lw c m a b) (l) (r) w1) := by
  refine z_met ym_X2_learnWithin (by decide) ⟨Nat.le_of_ble_eq_true rfl, Nat.le_of_ble_eq_true rfl⟩ (fun X hG hn hmc hms hin h hr => ?_)
  have he := hr.2.2.2.2.2.1
  refine z_iload_n h dX2_learnWithin_0 rfl ?_
  refine z_if_lt h dX2_learnWithin_1 13 (by decide) (fun c_1 => ?_) (fun c_1 => ?_)
  · skip
    have e1 : m = 0 := by
      rcases m with _ | m
      · rfl
      · rw [nI_pred] at c_1; exact absurd c_1 (nI_pos (by omega))
    exact z_vret h dX2_learnWithin_13 hr (⟨rfl, by rw [tp_lw, if_pos e1]; exact hR⟩)
  · skip
    have e1 : m ≠ 0 := fun e => by subst e; exact c_1 (by decide)
    refine z_iload_n h dX2_learnWithin_4 rfl ?_
    refine z_aload_n h dX2_learnWithin_5 rfl ?_
    refine y_getr h dX2_learnWithin_6 hR flX2_9 (by first | assumption | exact Nat.le_of_ble_eq_true rfl) (by first | rfl | assumption | exact tx_2 (by first | assumption | omega) | exact tx_18 (by first | assumption | omega) | exact tx_19 (by first | assumption | omega) | exact tx_20 (by first | assumption | omega) | exact tx_27 (by first | assumption | omega) | exact tx_28 (by first | assumption | omega) | exact tx_30 (by first | assumption | omega) | exact tx_31 (by first | assumption | omega) | exact tx_32 (by first | assumption | omega) | exact tx_33 (by first | assumption | omega)) (by rfl) ?_
    refine y_len h dX2_learnWithin_9 hR (by first | assumption | exact Nat.le_of_ble_eq_true rfl) (by first | rfl | assumption | exact tx_2 (by first | assumption | omega) | exact tx_18 (by first | assumption | omega) | exact tx_19 (by first | assumption | omega) | exact tx_20 (by first | assumption | omega) | exact tx_27 (by first | assumption | omega) | exact tx_28 (by first | assumption | omega) | exact tx_30 (by first | assumption | omega) | exact tx_31 (by first | assumption | omega) | exact tx_32 (by first | assumption | omega) | exact tx_33 (by first | assumption | omega)) (by rfl) ?_
    rw [nI_predm e1]
    refine z_icmp_lt h dX2_learnWithin_10 14 (by decide) (fun c_2 => ?_) (fun c_2 => ?_)
    · skip
      refine z_iload_n h dX2_learnWithin_14 rfl ?_
      refine z_callS h dX2_learnWithin_15 (fun _ _ q => z_okv_no he q) (fun _ _ _ t q => absurd q (he t)) (m_X9_isSign _ _ b) ym_X9_isSign mlX2_49 sm_X9_isSign rfl (by decide) (Nat.le_of_ble_eq_true rfl) ?_
      rintro q1 w1 ⟨rfl, hw1⟩
      have hw1 := hw1.symm; subst hw1
      refine z_if_eq h dX2_learnWithin_18 31 (by decide) (fun c_3 => ?_) (fun c_3 => ?_)
      · skip
        refine z_iload_n h dX2_learnWithin_31 rfl ?_
        refine z_callS h dX2_learnWithin_32 (fun _ _ q => z_okv_no he q) (fun _ _ _ t q => absurd q (he t)) (m_X9_isDigit _ _ b) ym_X9_isDigit mlX2_52 sm_X9_isDigit rfl (by decide) (Nat.le_of_ble_eq_true rfl) ?_
        rintro q1 w1 ⟨rfl, hw1⟩
        have hw1 := hw1.symm; subst hw1
        refine z_if_eq h dX2_learnWithin_35 55 (by decide) (fun c_4 => ?_) (fun c_4 => ?_)
        · skip
          refine z_iload_n h dX2_learnWithin_55 rfl ?_
          refine z_callS h dX2_learnWithin_56 (fun _ _ q => z_okv_no he q) (fun _ _ _ t q => absurd q (he t)) (m_X9_isDigit _ _ b) ym_X9_isDigit mlX2_52 sm_X9_isDigit rfl (by decide) (Nat.le_of_ble_eq_true rfl) ?_
          rintro q1 w1 ⟨rfl, hw1⟩
          have hw1 := hw1.symm; subst hw1
          refine z_if_eq h dX2_learnWithin_59 82 (by decide) (fun c_6 => ?_) (fun c_6 => ?_)
          · skip
            exact z_vret h dX2_learnWithin_82 hr (⟨rfl, by rw [tp_lw, if_neg e1, if_neg (z_bf c_3), if_neg (fun q => z_bf c_6 q.1), if_neg (z_bf c_6)]; exact hR⟩)
          · skip
            refine z_aload_n h dX2_learnWithin_62 rfl ?_
            refine y_getr h dX2_learnWithin_63 hR flX2_18 (by first | assumption | exact Nat.le_of_ble_eq_true rfl) (by first | rfl | assumption | exact tx_2 (by first | assumption | omega) | exact tx_18 (by first | assumption | omega) | exact tx_19 (by first | assumption | omega) | exact tx_20 (by first | assumption | omega) | exact tx_27 (by first | assumption | omega) | exact tx_28 (by first | assumption | omega) | exact tx_30 (by first | assumption | omega) | exact tx_31 (by first | assumption | omega) | exact tx_32 (by first | assumption | omega) | exact tx_33 (by first | assumption | omega)) (by rfl) ?_
            refine z_iload_n h dX2_learnWithin_66 rfl ?_
            refine z_aload_n h dX2_learnWithin_67 rfl ?_
            refine y_getr h dX2_learnWithin_68 hR flX2_18 (by first | assumption | exact Nat.le_of_ble_eq_true rfl) (by first | rfl | assumption | exact tx_2 (by first | assumption | omega) | exact tx_18 (by first | assumption | omega) | exact tx_19 (by first | assumption | omega) | exact tx_20 (by first | assumption | omega) | exact tx_27 (by first | assumption | omega) | exact tx_28 (by first | assumption | omega) | exact tx_30 (by first | assumption | omega) | exact tx_31 (by first | assumption | omega) | exact tx_32 (by first | assumption | omega) | exact tx_33 (by first | assumption | omega)) (by rfl) ?_
            refine z_iload_n h dX2_learnWithin_71 rfl ?_
            refine y_iald h dX2_learnWithin_72 hR (by first | assumption | exact Nat.le_of_ble_eq_true rfl) (by first | rfl | assumption | exact tx_2 (by first | assumption | omega) | exact tx_18 (by first | assumption | omega) | exact tx_19 (by first | assumption | omega) | exact tx_20 (by first | assumption | omega) | exact tx_27 (by first | assumption | omega) | exact tx_28 (by first | assumption | omega) | exact tx_30 (by first | assumption | omega) | exact tx_31 (by first | assumption | omega) | exact tx_32 (by first | assumption | omega) | exact tx_33 (by first | assumption | omega)) (z_ixn (show m - 1 < 40 by omega) (by omega)) ?_
            refine z_bipush (v := 10) h dX2_learnWithin_73 (by decide) ?_
            refine z_imul h dX2_learnWithin_75 ?_
            refine z_iload_n h dX2_learnWithin_76 rfl ?_
            refine z_iadd h dX2_learnWithin_77 ?_
            refine z_bipush (v := 48) h dX2_learnWithin_78 (by decide) ?_
            refine z_isub h dX2_learnWithin_80 ?_
            refine y_iast h dX2_learnWithin_81 hR (by first | assumption | exact Nat.le_of_ble_eq_true rfl) (by first | rfl | assumption | exact tx_2 (by first | assumption | omega) | exact tx_18 (by first | assumption | omega) | exact tx_19 (by first | assumption | omega) | exact tx_20 (by first | assumption | omega) | exact tx_27 (by first | assumption | omega) | exact tx_28 (by first | assumption | omega) | exact tx_30 (by first | assumption | omega) | exact tx_31 (by first | assumption | omega) | exact tx_32 (by first | assumption | omega) | exact tx_33 (by first | assumption | omega)) (z_ixn (show m - 1 < 40 by omega) (by omega)) (fun w hR => ?_)
            exact z_vret h dX2_learnWithin_82 hr (⟨rfl, by rw [tp_lw, if_neg e1, if_neg (z_bf c_3), if_neg (fun q => z_bf c_4 q.1), if_pos (z_bt c_6)]; exact hR⟩)
        · skip
          refine z_iload_n h dX2_learnWithin_38 rfl ?_
          refine z_if_eq h dX2_learnWithin_39 55 (by decide) (fun c_5 => ?_) (fun c_5 => ?_)
          · skip
            refine z_iload_n h dX2_learnWithin_55 rfl ?_
            refine z_callS h dX2_learnWithin_56 (fun _ _ q => z_okv_no he q) (fun _ _ _ t q => absurd q (he t)) (m_X9_isDigit _ _ b) ym_X9_isDigit mlX2_52 sm_X9_isDigit rfl (by decide) (Nat.le_of_ble_eq_true rfl) ?_
            rintro q1 w1 ⟨rfl, hw1⟩
            have hw1 := hw1.symm; subst hw1
            refine z_if_eq h dX2_learnWithin_59 82 (by decide) (fun c_6 => ?_) (fun c_6 => ?_)
            · skip
              exact z_vret h dX2_learnWithin_82 hr (⟨rfl, by rw [tp_lw, if_neg e1, if_neg (z_bf c_3), if_neg (fun q => z_bf c_6 q.1), if_neg (z_bf c_6)]; exact hR⟩)
            · skip
              refine z_aload_n h dX2_learnWithin_62 rfl ?_
              refine y_getr h dX2_learnWithin_63 hR flX2_18 (by first | assumption | exact Nat.le_of_ble_eq_true rfl) (by first | rfl | assumption | exact tx_2 (by first | assumption | omega) | exact tx_18 (by first | assumption | omega) | exact tx_19 (by first | assumption | omega) | exact tx_20 (by first | assumption | omega) | exact tx_27 (by first | assumption | omega) | exact tx_28 (by first | assumption | omega) | exact tx_30 (by first | assumption | omega) | exact tx_31 (by first | assumption | omega) | exact tx_32 (by first | assumption | omega) | exact tx_33 (by first | assumption | omega)) (by rfl) ?_
              refine z_iload_n h dX2_learnWithin_66 rfl ?_
              refine z_aload_n h dX2_learnWithin_67 rfl ?_
              refine y_getr h dX2_learnWithin_68 hR flX2_18 (by first | assumption | exact Nat.le_of_ble_eq_true rfl) (by first | rfl | assumption | exact tx_2 (by first | assumption | omega) | exact tx_18 (by first | assumption | omega) | exact tx_19 (by first | assumption | omega) | exact tx_20 (by first | assumption | omega) | exact tx_27 (by first | assumption | omega) | exact tx_28 (by first | assumption | omega) | exact tx_30 (by first | assumption | omega) | exact tx_31 (by first | assumption | omega) | exact tx_32 (by first | assumption | omega) | exact tx_33 (by first | assumption | omega)) (by rfl) ?_
              refine z_iload_n h dX2_learnWithin_71 rfl ?_
              refine y_iald h dX2_learnWithin_72 hR (by first | assumption | exact Nat.le_of_ble_eq_true rfl) (by first | rfl | assumption | exact tx_2 (by first | assumption | omega) | exact tx_18 (by first | assumption | omega) | exact tx_19 (by first | assumption | omega) | exact tx_20 (by first | assumption | omega) | exact tx_27 (by first | assumption | omega) | exact tx_28 (by first | assumption | omega) | exact tx_30 (by first | assumption | omega) | exact tx_31 (by first | assumption | omega) | exact tx_32 (by first | assumption | omega) | exact tx_33 (by first | assumption | omega)) (z_ixn (show m - 1 < 40 by omega) (by omega)) ?_
              refine z_bipush (v := 10) h dX2_learnWithin_73 (by decide) ?_
              refine z_imul h dX2_learnWithin_75 ?_
              refine z_iload_n h dX2_learnWithin_76 rfl ?_
              refine z_iadd h dX2_learnWithin_77 ?_
              refine z_bipush (v := 48) h dX2_learnWithin_78 (by decide) ?_
              refine z_isub h dX2_learnWithin_80 ?_
              refine y_iast h dX2_learnWithin_81 hR (by first | assumption | exact Nat.le_of_ble_eq_true rfl) (by first | rfl | assumption | exact tx_2 (by first | assumption | omega) | exact tx_18 (by first | assumption | omega) | exact tx_19 (by first | assumption | omega) | exact tx_20 (by first | assumption | omega) | exact tx_27 (by first | assumption | omega) | exact tx_28 (by first | assumption | omega) | exact tx_30 (by first | assumption | omega) | exact tx_31 (by first | assumption | omega) | exact tx_32 (by first | assumption | omega) | exact tx_33 (by first | assumption | omega)) (z_ixn (show m - 1 < 40 by omega) (by omega)) (fun w hR => ?_)
              exact z_vret h dX2_learnWithin_82 hr (⟨rfl, by rw [tp_lw, if_neg e1, if_neg (z_bf c_3), if_neg (fun q => q.2 c_5), if_pos (z_bt c_6)]; exact hR⟩)
          · skip
            refine z_aload_n h dX2_learnWithin_42 rfl ?_
            refine y_getr h dX2_learnWithin_43 hR flX2_21 (by first | assumption | exact Nat.le_of_ble_eq_true rfl) (by first | rfl | assumption | exact tx_2 (by first | assumption | omega) | exact tx_18 (by first | assumption | omega) | exact tx_19 (by first | assumption | omega) | exact tx_20 (by first | assumption | omega) | exact tx_27 (by first | assumption | omega) | exact tx_28 (by first | assumption | omega) | exact tx_30 (by first | assumption | omega) | exact tx_31 (by first | assumption | omega) | exact tx_32 (by first | assumption | omega) | exact tx_33 (by first | assumption | omega)) (by rfl) ?_
            refine z_iload_n h dX2_learnWithin_46 rfl ?_
            refine z_iload_n h dX2_learnWithin_47 rfl ?_
            refine z_bipush (v := 48) h dX2_learnWithin_48 (by decide) ?_
            refine z_isub h dX2_learnWithin_50 ?_
            refine y_iast h dX2_learnWithin_51 hR (by first | assumption | exact Nat.le_of_ble_eq_true rfl) (by first | rfl | assumption | exact tx_2 (by first | assumption | omega) | exact tx_18 (by first | assumption | omega) | exact tx_19 (by first | assumption | omega) | exact tx_20 (by first | assumption | omega) | exact tx_27 (by first | assumption | omega) | exact tx_28 (by first | assumption | omega) | exact tx_30 (by first | assumption | omega) | exact tx_31 (by first | assumption | omega) | exact tx_32 (by first | assumption | omega) | exact tx_33 (by first | assumption | omega)) (z_ixn (show m - 1 < 40 by omega) (by omega)) (fun w hR => ?_)
            refine z_goto h dX2_learnWithin_52 82 (by decide) ?_
            exact z_vret h dX2_learnWithin_82 hr (⟨rfl, by rw [tp_lw, if_neg e1, if_neg (z_bf c_3), if_pos ⟨z_bt c_4, c_5⟩]; exact hR⟩)
      · skip
        refine z_aload_n h dX2_learnWithin_21 rfl ?_
        refine y_getr h dX2_learnWithin_22 hR flX2_15 (by first | assumption | exact Nat.le_of_ble_eq_true rfl) (by first | rfl | assumption | exact tx_2 (by first | assumption | omega) | exact tx_18 (by first | assumption | omega) | exact tx_19 (by first | assumption | omega) | exact tx_20 (by first | assumption | omega) | exact tx_27 (by first | assumption | omega) | exact tx_28 (by first | assumption | omega) | exact tx_30 (by first | assumption | omega) | exact tx_31 (by first | assumption | omega) | exact tx_32 (by first | assumption | omega) | exact tx_33 (by first | assumption | omega)) (by rfl) ?_
        refine z_iload_n h dX2_learnWithin_25 rfl ?_
        refine z_iload_n h dX2_learnWithin_26 rfl ?_
        refine y_iast h dX2_learnWithin_27 hR (by first | assumption | exact Nat.le_of_ble_eq_true rfl) (by first | rfl | assumption | exact tx_2 (by first | assumption | omega) | exact tx_18 (by first | assumption | omega) | exact tx_19 (by first | assumption | omega) | exact tx_20 (by first | assumption | omega) | exact tx_27 (by first | assumption | omega) | exact tx_28 (by first | assumption | omega) | exact tx_30 (by first | assumption | omega) | exact tx_31 (by first | assumption | omega) | exact tx_32 (by first | assumption | omega) | exact tx_33 (by first | assumption | omega)) (z_ixn (show m - 1 < 40 by omega) (by omega)) (fun w hR => ?_)
        refine z_goto h dX2_learnWithin_28 82 (by decide) ?_
        exact z_vret h dX2_learnWithin_82 hr (⟨rfl, by rw [tp_lw, if_neg e1, if_pos (z_bt c_3)]; exact hR⟩)
    · skip
      exact absurd (nI_lt (show m - 1 < 40 by omega) (by omega)) c_2
set_option maxHeartbeats 4000000 in
set_option maxRecDepth 100000 in
theorem m_X2_learn (G : z_G) {nb na np g : Nat} {w0 w : z_w} {c : r_c} {l : r_l} {r : r_r} (hR : r_p dX (TX nb na np g) w0 c l r w) (nt : Nat) (hct : c (6, 0) 1 = nI nt) (hlt : nt ≤ 200) : z_M G yX2_learn cX2_learn 5 none 3 (0) (0) [vr (8, 0), vr (6, 0)] w (fun q w1 => q = none ∧ r_p dX (TX nb na np g) w0 ((tp_ln c (c (7, 0)) nt).2.2) (l) (r) w1) := by
  refine z_met ym_X2_learn (by decide) ⟨Nat.le_of_ble_eq_true rfl, Nat.le_of_ble_eq_true rfl⟩ (fun X hG hn hmc hms hin h hr => ?_)
  have he := hr.2.2.2.2.2.1
  refine z_aload_n h dX2_learn_0 rfl ?_
  refine z_iconst (v := 0) h dX2_learn_1 (by decide) ?_
  refine y_put h dX2_learn_2 he hR flX2_24 rfl (by first | assumption | exact Nat.le_of_ble_eq_true rfl) (by first | rfl | assumption | exact tx_2 (by first | assumption | omega) | exact tx_18 (by first | assumption | omega) | exact tx_19 (by first | assumption | omega) | exact tx_20 (by first | assumption | omega) | exact tx_27 (by first | assumption | omega) | exact tx_28 (by first | assumption | omega) | exact tx_30 (by first | assumption | omega) | exact tx_31 (by first | assumption | omega) | exact tx_32 (by first | assumption | omega) | exact tx_33 (by first | assumption | omega)) (by rfl) (fun w hR => ?_)
  refine z_iconst (v := 0) h dX2_learn_5 (by decide) ?_
  refine z_istore_n h dX2_learn_6 (by rw [hn]; decide) ?_
  refine z_iconst (v := 0) h dX2_learn_7 (by decide) ?_
  refine z_istore_n h dX2_learn_8 (by rw [hn]; decide) ?_
  have loop_9 : ∀ (n_ : Nat) (i m : Nat) (a : Int32) (c1 : r_c) (w : z_w), tp_ln c (c (7, 0)) i = (m, a, c1) → c1 (6, 0) 1 = nI nt → c1 (7, 0) = (c (7, 0)) → c1 (8, 0) 4 = nI m → m ≤ 40 → r_p dX (TX nb na np g) w0 c1 l r w → i ≤ nt → nt + 1 ≤ i + n_ → z_V X 0 0 w 9 [(0, vr (8, 0)), (1, vr (6, 0)), (2, vi (a)), (3, vi (nI i))] [] := by
    intro n_
    induction n_ with
    | zero => intros; omega
    | succ n_ ih_9 =>
      intro i m a c1 w hs e6 e7 e8 hm hR hi hN
      refine z_iload_n h dX2_learn_9 rfl ?_
      refine z_aload_n h dX2_learn_10 rfl ?_
      refine y_geti h dX2_learn_11 hR flX2_28 (by first | assumption | exact Nat.le_of_ble_eq_true rfl) (by first | rfl | assumption | exact tx_2 (by first | assumption | omega) | exact tx_18 (by first | assumption | omega) | exact tx_19 (by first | assumption | omega) | exact tx_20 (by first | assumption | omega) | exact tx_27 (by first | assumption | omega) | exact tx_28 (by first | assumption | omega) | exact tx_30 (by first | assumption | omega) | exact tx_31 (by first | assumption | omega) | exact tx_32 (by first | assumption | omega) | exact tx_33 (by first | assumption | omega)) (by rfl) ?_
      rw [e6]
      refine z_icmp_ge h dX2_learn_14 74 (by decide) (fun c_1 => ?_) (fun c_1 => ?_)
      · skip
        have e1 : nt ≤ i := (nI_leI (by omega) (by omega)).mp c_1
        have e2 : i = nt := by omega
        subst e2
        exact z_vret h dX2_learn_74 hr (⟨rfl, by rw [hs]; exact hR⟩)
      · skip
        have e1 : ¬ nt ≤ i := fun q => c_1 ((nI_leI (by omega) (by omega)).mpr q)
        refine z_aload_n h dX2_learn_17 rfl ?_
        refine z_iload_n h dX2_learn_18 rfl ?_
        refine z_callV h dX2_learn_19 (fun _ _ q => z_okv_no he q) (fun _ _ _ t q => absurd q (he t)) (m_X9_byteAt _ hR (nI i)) ym_X9_byteAt mlX2_33 im_X9_byteAt (ci := 9) rfl se_X9_byteAt icX9 rfl (r_p.ob hR (by first | assumption | exact Nat.le_of_ble_eq_true rfl) (by first | rfl | assumption | exact tx_2 (by first | assumption | omega) | exact tx_18 (by first | assumption | omega) | exact tx_19 (by first | assumption | omega) | exact tx_20 (by first | assumption | omega) | exact tx_27 (by first | assumption | omega) | exact tx_28 (by first | assumption | omega) | exact tx_30 (by first | assumption | omega) | exact tx_31 (by first | assumption | omega) | exact tx_32 (by first | assumption | omega) | exact tx_33 (by first | assumption | omega))) rfl (by decide) (Nat.le_of_ble_eq_true rfl) ?_
        rintro q1 w1 ⟨rfl, hw1⟩
        have hw1 := hw1.symm; subst hw1
        refine z_toe (y := (c (7, 0)) i) (by rw [n_item (f := c1 (7, 0)) (ix_of (show i < 200 by omega) (by decide)) (Nat.le_refl _) (by decide), nI_clamp (by omega), e7]) ?_
        refine z_istore h dX2_learn_22 (by rw [hn]; decide) ?_
        refine z_iload h dX2_learn_24 rfl ?_
        refine z_callS h dX2_learn_26 (fun _ _ q => z_okv_no he q) (fun _ _ _ t q => absurd q (he t)) (m_X9_isLetter _ _ ((c (7, 0)) i)) ym_X9_isLetter mlX2_37 sm_X9_isLetter rfl (by decide) (Nat.le_of_ble_eq_true rfl) ?_
        rintro q1 w1 ⟨rfl, hw1⟩
        have hw1 := hw1.symm; subst hw1
        refine z_if_eq h dX2_learn_29 43 (by decide) (fun c_2 => ?_) (fun c_2 => ?_)
        · skip
          refine z_iload h dX2_learn_43 rfl ?_
          refine z_bipush (v := 58) h dX2_learn_45 (by decide) ?_
          refine z_icmp_ne h dX2_learn_47 55 (by decide) (fun c_3 => ?_) (fun c_3 => ?_)
          · skip
            refine z_aload_n h dX2_learn_55 rfl ?_
            refine z_aload_n h dX2_learn_56 rfl ?_
            refine y_geti h dX2_learn_57 hR flX2_24 (by first | assumption | exact Nat.le_of_ble_eq_true rfl) (by first | rfl | assumption | exact tx_2 (by first | assumption | omega) | exact tx_18 (by first | assumption | omega) | exact tx_19 (by first | assumption | omega) | exact tx_20 (by first | assumption | omega) | exact tx_27 (by first | assumption | omega) | exact tx_28 (by first | assumption | omega) | exact tx_30 (by first | assumption | omega) | exact tx_31 (by first | assumption | omega) | exact tx_32 (by first | assumption | omega) | exact tx_33 (by first | assumption | omega)) (by rfl) ?_
            refine z_iconst (v := 1) h dX2_learn_60 (by decide) ?_
            rw [e8]
            refine z_isub h dX2_learn_61 ?_
            refine z_iload h dX2_learn_62 rfl ?_
            refine z_iload_n h dX2_learn_64 rfl ?_
            refine z_callV h dX2_learn_65 (fun _ _ q => z_okv_no he q) (fun _ _ _ t q => absurd q (he t)) (m_X2_learnWithin _ hR m hm ((c (7, 0)) i) a) ym_X2_learnWithin mlX2_45 im_X2_learnWithin (ci := 2) rfl se_X2_learnWithin icX2 rfl (r_p.ob hR (by first | assumption | exact Nat.le_of_ble_eq_true rfl) (by first | rfl | assumption | exact tx_2 (by first | assumption | omega) | exact tx_18 (by first | assumption | omega) | exact tx_19 (by first | assumption | omega) | exact tx_20 (by first | assumption | omega) | exact tx_27 (by first | assumption | omega) | exact tx_28 (by first | assumption | omega) | exact tx_30 (by first | assumption | omega) | exact tx_31 (by first | assumption | omega) | exact tx_32 (by first | assumption | omega) | exact tx_33 (by first | assumption | omega))) rfl (by decide) (Nat.le_of_ble_eq_true rfl) ?_
            rintro q1 w ⟨rfl, hR⟩
            refine z_iinc (v := 1) h dX2_learn_68 rfl (by decide) (by rw [hn]; decide) ?_
            refine z_goto h dX2_learn_71 9 (by decide) ?_
            refine z_loc [(0, vr (8, 0)), (1, vr (6, 0)), (2, vi (a)), (3, vi (nI (i + 1)))] ⟨rfl, rfl, rfl, congrArg (fun z => some (vi z)) (z_up i), trivial⟩ ?_
            exact ih_9 (i + 1) _ _ _ w (by rw [tp_ln, hs, tp_l1, if_neg (z_bf c_2), if_neg c_3]) (by rw [tp_lw_ne (by simp) (by simp) (by simp)]; exact e6) (by rw [tp_lw_ne (by simp) (by simp) (by simp)]; exact e7) (by rw [tp_lw_ne (by simp) (by simp) (by simp)]; exact e8) hm hR (by omega) (by omega)
          · skip
            refine z_iconst (v := 1) h dX2_learn_50 (by decide) ?_
            refine z_istore_n h dX2_learn_51 (by rw [hn]; decide) ?_
            refine z_goto h dX2_learn_52 68 (by decide) ?_
            refine z_iinc (v := 1) h dX2_learn_68 rfl (by decide) (by rw [hn]; decide) ?_
            refine z_goto h dX2_learn_71 9 (by decide) ?_
            refine z_loc [(0, vr (8, 0)), (1, vr (6, 0)), (2, vi (1)), (3, vi (nI (i + 1)))] ⟨rfl, rfl, rfl, congrArg (fun z => some (vi z)) (z_up i), trivial⟩ ?_
            exact ih_9 (i + 1) _ _ _ w (by rw [tp_ln, hs, tp_l1, if_neg (z_bf c_2), if_pos c_3]) e6 e7 e8 hm hR (by omega) (by omega)
        · skip
          refine z_aload_n h dX2_learn_32 rfl ?_
          refine z_iload h dX2_learn_33 rfl ?_
          refine z_callV h dX2_learn_35 (fun _ _ q => z_okv_no he q) (fun _ _ _ t q => absurd q (he t)) (m_X2_open _ hR m e8 hm ((c (7, 0)) i)) ym_X2_open mlX2_41 im_X2_open (ci := 2) rfl se_X2_open icX2 rfl (r_p.ob hR (by first | assumption | exact Nat.le_of_ble_eq_true rfl) (by first | rfl | assumption | exact tx_2 (by first | assumption | omega) | exact tx_18 (by first | assumption | omega) | exact tx_19 (by first | assumption | omega) | exact tx_20 (by first | assumption | omega) | exact tx_27 (by first | assumption | omega) | exact tx_28 (by first | assumption | omega) | exact tx_30 (by first | assumption | omega) | exact tx_31 (by first | assumption | omega) | exact tx_32 (by first | assumption | omega) | exact tx_33 (by first | assumption | omega))) rfl (by decide) (Nat.le_of_ble_eq_true rfl) ?_
          rintro q1 w ⟨rfl, hR⟩
          refine z_iconst (v := 0) h dX2_learn_38 (by decide) ?_
          refine z_istore_n h dX2_learn_39 (by rw [hn]; decide) ?_
          refine z_goto h dX2_learn_40 68 (by decide) ?_
          refine z_iinc (v := 1) h dX2_learn_68 rfl (by decide) (by rw [hn]; decide) ?_
          refine z_goto h dX2_learn_71 9 (by decide) ?_
          refine z_loc [(0, vr (8, 0)), (1, vr (6, 0)), (2, vi (0)), (3, vi (nI (i + 1)))] ⟨rfl, rfl, rfl, congrArg (fun z => some (vi z)) (z_up i), trivial⟩ ?_
          exact ih_9 (i + 1) _ _ _ w (by rw [tp_ln, hs, tp_l1, if_pos (z_bt c_2)]) (by rw [tp_oc_ne (by simp) (by simp) (by simp)]; exact e6) (by rw [tp_oc_ne (by simp) (by simp) (by simp)]; exact e7) (tp_oc_4 e8) (tp_om_le hm) hR (by omega) (by omega)
  exact z_loc [(0, vr (8, 0)), (1, vr (6, 0)), (2, vi (0)), (3, vi (nI 0))] ⟨rfl, rfl, rfl, rfl, trivial⟩ (loop_9 (nt + 1) 0 0 0 _ w rfl (by rw [r_cs, r_cf_ne (by simp)]; exact hct) (by rw [r_cs, r_cf_ne (by simp)]) (by rw [r_cs, r_cf_self]; rfl) (by omega) hR (by omega) (by omega))
theorem tp_ln_in (c : r_c) (f : Nat → Int32) (n : Nat) {t : z_T} (h8 : t ≠ (8, 0)) (h9 : t ≠ (9, 0)) (h10 : t ≠ (10, 0)) (h11 : t ≠ (11, 0)) (h12 : t ≠ (12, 0)) : (tp_ln c f n).2.2 t = c t := by
  induction n with
  | zero => show r_cs c (8, 0) 4 0 t = _; rw [r_cs, r_cf_ne h8]
  | succ n ih =>
    rw [tp_ln, tp_l1]
    split
    · show tp_oc _ _ _ t = _; rw [tp_oc_ne h8 h9 h11, ih]
    · split
      · exact ih
      · show tp_lw _ _ _ _ t = _; rw [tp_lw_ne h10 h11 h12, ih]
set_option maxHeartbeats 4000000 in
set_option maxRecDepth 100000 in
theorem m_X11_fault (G : z_G) {nb na np g : Nat} {w0 w : z_w} {c : r_c} {l : r_l} {r : r_r} (hX : XR nb na np g w0 c l r w) (nt : Nat) (hct : c (6, 0) 1 = nI nt) (hlt : nt ≤ 200) : z_M G yX11_fault cX11_fault 1 (some .int) 5 (0) (0) [vr (0, 0)] w (fun q w1 => q = some (vi (tp_ff (c (7, 0)) nt)) ∧ w1 = w) := by
  refine z_met ym_X11_fault (by decide) ⟨Nat.le_of_ble_eq_true rfl, Nat.le_of_ble_eq_true rfl⟩ (fun X hG hn hmc hms hin h hr => ?_)
  have he := hr.2.2.2.2.2.1
  obtain ⟨hR, hnb, hna, hnp, hg6, hc2, hc8, hc12, hr1, hr17, hr26⟩ := id hX
  refine z_aload_n h dX11_fault_0 rfl ?_
  refine y_getr h dX11_fault_1 hR flX11_25 (by first | assumption | exact Nat.le_of_ble_eq_true rfl) (by first | rfl | assumption | exact tx_2 (by first | assumption | omega) | exact tx_18 (by first | assumption | omega) | exact tx_19 (by first | assumption | omega) | exact tx_20 (by first | assumption | omega) | exact tx_27 (by first | assumption | omega) | exact tx_28 (by first | assumption | omega) | exact tx_30 (by first | assumption | omega) | exact tx_31 (by first | assumption | omega) | exact tx_32 (by first | assumption | omega) | exact tx_33 (by first | assumption | omega)) (by rfl) ?_
  refine z_callV h dX11_fault_4 (fun _ _ q => z_okv_no he q) (fun _ _ _ t q => absurd q (he t)) (m_X9_firstFault _ hR nt hct hlt) ym_X9_firstFault mlX11_163 im_X9_firstFault (ci := 9) rfl se_X9_firstFault icX9 rfl (r_p.ob hR (by first | assumption | exact Nat.le_of_ble_eq_true rfl) (by first | rfl | assumption | exact tx_2 (by first | assumption | omega) | exact tx_18 (by first | assumption | omega) | exact tx_19 (by first | assumption | omega) | exact tx_20 (by first | assumption | omega) | exact tx_27 (by first | assumption | omega) | exact tx_28 (by first | assumption | omega) | exact tx_30 (by first | assumption | omega) | exact tx_31 (by first | assumption | omega) | exact tx_32 (by first | assumption | omega) | exact tx_33 (by first | assumption | omega))) rfl (by decide) (Nat.le_of_ble_eq_true rfl) ?_
  rintro q1 w1 ⟨rfl, hw1⟩
  have hw1 := hw1.symm; subst hw1
  exact z_iret h dX11_fault_7 hr (⟨rfl, rfl⟩)
set_option maxHeartbeats 4000000 in
set_option maxRecDepth 100000 in
theorem m_X11_rules (G : z_G) {nb na np g : Nat} {w0 w : z_w} {c : r_c} {l : r_l} {r : r_r} (hX : XR nb na np g w0 c l r w) (nt : Nat) (hct : c (6, 0) 1 = nI nt) (hlt : nt ≤ 200) : z_M G yX11_rules cX11_rules 1 (some .boolean) 5 (0) (0) [vr (0, 0)] w (fun q w1 => if tp_ff (c (7, 0)) nt = -1 then q = some (vi 1) ∧ r_p dX (TX nb na np g) w0 (r_cs (tp_ln c (c (7, 0)) nt).2.2 (6, 0) 1 0) (l) (r) w1 else q = some (vi 0) ∧ w1 = w) := by
  refine z_met ym_X11_rules (by decide) ⟨Nat.le_of_ble_eq_true rfl, Nat.le_of_ble_eq_true rfl⟩ (fun X hG hn hmc hms hin h hr => ?_)
  have he := hr.2.2.2.2.2.1
  obtain ⟨hR, hnb, hna, hnp, hg6, hc2, hc8, hc12, hr1, hr17, hr26⟩ := id hX
  refine z_aload_n h dX11_rules_0 rfl ?_
  refine y_getr h dX11_rules_1 hR flX11_25 (by first | assumption | exact Nat.le_of_ble_eq_true rfl) (by first | rfl | assumption | exact tx_2 (by first | assumption | omega) | exact tx_18 (by first | assumption | omega) | exact tx_19 (by first | assumption | omega) | exact tx_20 (by first | assumption | omega) | exact tx_27 (by first | assumption | omega) | exact tx_28 (by first | assumption | omega) | exact tx_30 (by first | assumption | omega) | exact tx_31 (by first | assumption | omega) | exact tx_32 (by first | assumption | omega) | exact tx_33 (by first | assumption | omega)) (by rfl) ?_
  refine z_callV h dX11_rules_4 (fun _ _ q => z_okv_no he q) (fun _ _ _ t q => absurd q (he t)) (m_X9_firstFault _ hR nt hct hlt) ym_X9_firstFault mlX11_163 im_X9_firstFault (ci := 9) rfl se_X9_firstFault icX9 rfl (r_p.ob hR (by first | assumption | exact Nat.le_of_ble_eq_true rfl) (by first | rfl | assumption | exact tx_2 (by first | assumption | omega) | exact tx_18 (by first | assumption | omega) | exact tx_19 (by first | assumption | omega) | exact tx_20 (by first | assumption | omega) | exact tx_27 (by first | assumption | omega) | exact tx_28 (by first | assumption | omega) | exact tx_30 (by first | assumption | omega) | exact tx_31 (by first | assumption | omega) | exact tx_32 (by first | assumption | omega) | exact tx_33 (by first | assumption | omega))) rfl (by decide) (Nat.le_of_ble_eq_true rfl) ?_
  rintro q1 w1 ⟨rfl, hw1⟩
  have hw1 := hw1.symm; subst hw1
  refine z_iconst (v := -1) h dX11_rules_7 (by decide) ?_
  refine z_icmp_eq h dX11_rules_8 13 (by decide) (fun c_1 => ?_) (fun c_1 => ?_)
  · skip
    refine z_aload_n h dX11_rules_13 rfl ?_
    refine y_getr h dX11_rules_14 hR flX11_32 (by first | assumption | exact Nat.le_of_ble_eq_true rfl) (by first | rfl | assumption | exact tx_2 (by first | assumption | omega) | exact tx_18 (by first | assumption | omega) | exact tx_19 (by first | assumption | omega) | exact tx_20 (by first | assumption | omega) | exact tx_27 (by first | assumption | omega) | exact tx_28 (by first | assumption | omega) | exact tx_30 (by first | assumption | omega) | exact tx_31 (by first | assumption | omega) | exact tx_32 (by first | assumption | omega) | exact tx_33 (by first | assumption | omega)) (by rfl) ?_
    refine z_aload_n h dX11_rules_17 rfl ?_
    refine y_getr h dX11_rules_18 hR flX11_25 (by first | assumption | exact Nat.le_of_ble_eq_true rfl) (by first | rfl | assumption | exact tx_2 (by first | assumption | omega) | exact tx_18 (by first | assumption | omega) | exact tx_19 (by first | assumption | omega) | exact tx_20 (by first | assumption | omega) | exact tx_27 (by first | assumption | omega) | exact tx_28 (by first | assumption | omega) | exact tx_30 (by first | assumption | omega) | exact tx_31 (by first | assumption | omega) | exact tx_32 (by first | assumption | omega) | exact tx_33 (by first | assumption | omega)) (by rfl) ?_
    refine z_callV h dX11_rules_21 (fun _ _ q => z_okv_no he q) (fun _ _ _ t q => absurd q (he t)) (m_X2_learn _ hR nt hct hlt) ym_X2_learn mlX11_167 im_X2_learn (ci := 2) rfl se_X2_learn icX2 rfl (r_p.ob hR (by first | assumption | exact Nat.le_of_ble_eq_true rfl) (by first | rfl | assumption | exact tx_2 (by first | assumption | omega) | exact tx_18 (by first | assumption | omega) | exact tx_19 (by first | assumption | omega) | exact tx_20 (by first | assumption | omega) | exact tx_27 (by first | assumption | omega) | exact tx_28 (by first | assumption | omega) | exact tx_30 (by first | assumption | omega) | exact tx_31 (by first | assumption | omega) | exact tx_32 (by first | assumption | omega) | exact tx_33 (by first | assumption | omega))) rfl (by decide) (Nat.le_of_ble_eq_true rfl) ?_
    rintro q1 w ⟨rfl, hR⟩
    refine z_aload_n h dX11_rules_24 rfl ?_
    refine y_getr h dX11_rules_25 hR flX11_25 (by first | assumption | exact Nat.le_of_ble_eq_true rfl) (by first | rfl | assumption | exact tx_2 (by first | assumption | omega) | exact tx_18 (by first | assumption | omega) | exact tx_19 (by first | assumption | omega) | exact tx_20 (by first | assumption | omega) | exact tx_27 (by first | assumption | omega) | exact tx_28 (by first | assumption | omega) | exact tx_30 (by first | assumption | omega) | exact tx_31 (by first | assumption | omega) | exact tx_32 (by first | assumption | omega) | exact tx_33 (by first | assumption | omega)) (by rfl) ?_
    refine z_iconst (v := 0) h dX11_rules_28 (by decide) ?_
    refine y_put h dX11_rules_29 he hR flX11_156 rfl (by first | assumption | exact Nat.le_of_ble_eq_true rfl) (by first | rfl | assumption | exact tx_2 (by first | assumption | omega) | exact tx_18 (by first | assumption | omega) | exact tx_19 (by first | assumption | omega) | exact tx_20 (by first | assumption | omega) | exact tx_27 (by first | assumption | omega) | exact tx_28 (by first | assumption | omega) | exact tx_30 (by first | assumption | omega) | exact tx_31 (by first | assumption | omega) | exact tx_32 (by first | assumption | omega) | exact tx_33 (by first | assumption | omega)) (by rfl) (fun w hR => ?_)
    refine z_iconst (v := 1) h dX11_rules_32 (by decide) ?_
    exact z_zret h dX11_rules_33 hr rfl (z_t c_1 ⟨rfl, hR⟩)
  · skip
    refine z_iconst (v := 0) h dX11_rules_11 (by decide) ?_
    exact z_zret h dX11_rules_12 hr rfl (z_f c_1 ⟨rfl, rfl⟩)
set_option maxHeartbeats 4000000 in
set_option maxRecDepth 100000 in
theorem m_X11_feed (G : z_G) {nb na np g : Nat} {w0 w : z_w} {c : r_c} {l : r_l} {r : r_r} (hX : XR nb na np g w0 c l r w) (nt : Nat) (hct : c (6, 0) 1 = nI nt) (hlt : nt ≤ 200) (a b e u v : Int32) : z_M G yX11_feed cX11_feed 7 (some .int) 2 (0) (0) [vr (0, 0), vi a, vi b, vi e, vi u, vi v] w (fun q w1 => if nt + (t_rs a 4 ++ t_rs b 4 ++ t_rs e 4 ++ t_rs u 4 ++ t_rs v 4).length ≤ 200 then q = some (vi (nI (nt + (t_rs a 4 ++ t_rs b 4 ++ t_rs e 4 ++ t_rs u 4 ++ t_rs v 4).length))) ∧ ∃ c1, c1 (6, 0) = upd (c (6, 0)) 1 (nI (nt + (t_rs a 4 ++ t_rs b 4 ++ t_rs e 4 ++ t_rs u 4 ++ t_rs v 4).length)) ∧ c1 (7, 0) = tp_ws (c (7, 0)) nt (t_rs a 4 ++ t_rs b 4 ++ t_rs e 4 ++ t_rs u 4 ++ t_rs v 4) ∧ (∀ t, t ≠ (6, 0) → t ≠ (7, 0) → c1 t = c t) ∧ r_p dX (TX nb na np g) w0 (c1) (l) (r) w1 else q = some (vi (-1)) ∧ w1 = w) := by
  refine z_met ym_X11_feed (by decide) ⟨Nat.le_of_ble_eq_true rfl, Nat.le_of_ble_eq_true rfl⟩ (fun X hG hn hmc hms hin h hr => ?_)
  have he := hr.2.2.2.2.2.1
  obtain ⟨hR, hnb, hna, hnp, hg6, hc2, hc8, hc12, hr1, hr17, hr26⟩ := id hX
  have hLL : (t_rs a 4 ++ t_rs b 4 ++ t_rs e 4 ++ t_rs u 4 ++ t_rs v 4).length = (t_rs a 4).length + (t_rs b 4).length + (t_rs e 4).length + (t_rs u 4).length + (t_rs v 4).length := by simp only [List.length_append]
  have hl_a := t_rs_len a 4
  have hl_b := t_rs_len b 4
  have hl_e := t_rs_len e 4
  have hl_u := t_rs_len u 4
  have hl_v := t_rs_len v 4
  refine z_iload_n h dX11_feed_0 rfl ?_
  refine z_callS h dX11_feed_1 (fun _ _ q => z_okv_no he q) (fun _ _ _ t q => absurd q (he t)) (m_X9_bytesIn _ _ a) ym_X9_bytesIn mlX11_152 sm_X9_bytesIn rfl (by decide) (Nat.le_of_ble_eq_true rfl) ?_
  rintro q1 w1 ⟨rfl, hw1⟩
  have hw1 := hw1.symm; subst hw1
  refine z_iload_n h dX11_feed_4 rfl ?_
  refine z_callS h dX11_feed_5 (fun _ _ q => z_okv_no he q) (fun _ _ _ t q => absurd q (he t)) (m_X9_bytesIn _ _ b) ym_X9_bytesIn mlX11_152 sm_X9_bytesIn rfl (by decide) (Nat.le_of_ble_eq_true rfl) ?_
  rintro q1 w1 ⟨rfl, hw1⟩
  have hw1 := hw1.symm; subst hw1
  refine z_iadd h dX11_feed_8 ?_
  refine z_iload_n h dX11_feed_9 rfl ?_
  refine z_callS h dX11_feed_10 (fun _ _ q => z_okv_no he q) (fun _ _ _ t q => absurd q (he t)) (m_X9_bytesIn _ _ e) ym_X9_bytesIn mlX11_152 sm_X9_bytesIn rfl (by decide) (Nat.le_of_ble_eq_true rfl) ?_
  rintro q1 w1 ⟨rfl, hw1⟩
  have hw1 := hw1.symm; subst hw1
  refine z_iadd h dX11_feed_13 ?_
  refine z_iload h dX11_feed_14 rfl ?_
  refine z_callS h dX11_feed_16 (fun _ _ q => z_okv_no he q) (fun _ _ _ t q => absurd q (he t)) (m_X9_bytesIn _ _ u) ym_X9_bytesIn mlX11_152 sm_X9_bytesIn rfl (by decide) (Nat.le_of_ble_eq_true rfl) ?_
  rintro q1 w1 ⟨rfl, hw1⟩
  have hw1 := hw1.symm; subst hw1
  refine z_iadd h dX11_feed_19 ?_
  refine z_iload h dX11_feed_20 rfl ?_
  refine z_callS h dX11_feed_22 (fun _ _ q => z_okv_no he q) (fun _ _ _ t q => absurd q (he t)) (m_X9_bytesIn _ _ v) ym_X9_bytesIn mlX11_152 sm_X9_bytesIn rfl (by decide) (Nat.le_of_ble_eq_true rfl) ?_
  rintro q1 w1 ⟨rfl, hw1⟩
  have hw1 := hw1.symm; subst hw1
  refine z_iadd h dX11_feed_25 ?_
  refine z_toe (y := nI ((t_rs a 4).length + (t_rs b 4).length + (t_rs e 4).length + (t_rs u 4).length + (t_rs v 4).length)) (by rw [nI_add, nI_add, nI_add, nI_add]) ?_
  refine z_istore h dX11_feed_26 (by rw [hn]; decide) ?_
  refine z_aload_n h dX11_feed_28 rfl ?_
  refine y_getr h dX11_feed_29 hR flX11_25 (by first | assumption | exact Nat.le_of_ble_eq_true rfl) (by first | rfl | assumption | exact tx_2 (by first | assumption | omega) | exact tx_18 (by first | assumption | omega) | exact tx_19 (by first | assumption | omega) | exact tx_20 (by first | assumption | omega) | exact tx_27 (by first | assumption | omega) | exact tx_28 (by first | assumption | omega) | exact tx_30 (by first | assumption | omega) | exact tx_31 (by first | assumption | omega) | exact tx_32 (by first | assumption | omega) | exact tx_33 (by first | assumption | omega)) (by rfl) ?_
  refine y_geti h dX11_feed_32 hR flX11_156 (by first | assumption | exact Nat.le_of_ble_eq_true rfl) (by first | rfl | assumption | exact tx_2 (by first | assumption | omega) | exact tx_18 (by first | assumption | omega) | exact tx_19 (by first | assumption | omega) | exact tx_20 (by first | assumption | omega) | exact tx_27 (by first | assumption | omega) | exact tx_28 (by first | assumption | omega) | exact tx_30 (by first | assumption | omega) | exact tx_31 (by first | assumption | omega) | exact tx_32 (by first | assumption | omega) | exact tx_33 (by first | assumption | omega)) (by rfl) ?_
  refine z_iload h dX11_feed_35 rfl ?_
  refine z_iadd h dX11_feed_37 ?_
  refine z_toe (y := nI (nt + ((t_rs a 4).length + (t_rs b 4).length + (t_rs e 4).length + (t_rs u 4).length + (t_rs v 4).length))) (by show c (6, 0) 1 + _ = _; rw [hct, nI_add]) ?_
  refine z_sipush (v := 200) h dX11_feed_38 (by decide) ?_
  refine z_icmp_le h dX11_feed_41 46 (by decide) (fun c_1 => ?_) (fun c_1 => ?_)
  · skip
    have e1 : nt + ((t_rs a 4).length + (t_rs b 4).length + (t_rs e 4).length + (t_rs u 4).length + (t_rs v 4).length) ≤ 200 := (nI_leI (b := 200) (by omega) (by omega)).mp c_1
    refine z_aload_n h dX11_feed_46 rfl ?_
    refine y_getr h dX11_feed_47 hR flX11_25 (by first | assumption | exact Nat.le_of_ble_eq_true rfl) (by first | rfl | assumption | exact tx_2 (by first | assumption | omega) | exact tx_18 (by first | assumption | omega) | exact tx_19 (by first | assumption | omega) | exact tx_20 (by first | assumption | omega) | exact tx_27 (by first | assumption | omega) | exact tx_28 (by first | assumption | omega) | exact tx_30 (by first | assumption | omega) | exact tx_31 (by first | assumption | omega) | exact tx_32 (by first | assumption | omega) | exact tx_33 (by first | assumption | omega)) (by rfl) ?_
    refine z_iload_n h dX11_feed_50 rfl ?_
    refine z_callV h dX11_feed_51 (fun _ _ q => z_okv_no he q) (fun _ _ _ t q => absurd q (he t)) (m_X9_append _ hR nt hct a (by omega)) ym_X9_append mlX11_159 im_X9_append (ci := 9) rfl se_X9_append icX9 rfl (r_p.ob hR (by first | assumption | exact Nat.le_of_ble_eq_true rfl) (by first | rfl | assumption | exact tx_2 (by first | assumption | omega) | exact tx_18 (by first | assumption | omega) | exact tx_19 (by first | assumption | omega) | exact tx_20 (by first | assumption | omega) | exact tx_27 (by first | assumption | omega) | exact tx_28 (by first | assumption | omega) | exact tx_30 (by first | assumption | omega) | exact tx_31 (by first | assumption | omega) | exact tx_32 (by first | assumption | omega) | exact tx_33 (by first | assumption | omega))) rfl (by decide) (Nat.le_of_ble_eq_true rfl) ?_
    rintro q1 w ⟨rfl, c1, h6_1, h7_1, ho_1, hR⟩
    have hc_1 : c1 (6, 0) 1 = nI (nt + (t_rs a 4).length) := by rw [h6_1]; simp [upd]
    refine z_aload_n h dX11_feed_54 rfl ?_
    refine y_getr h dX11_feed_55 hR flX11_25 (by first | assumption | exact Nat.le_of_ble_eq_true rfl) (by first | rfl | assumption | exact tx_2 (by first | assumption | omega) | exact tx_18 (by first | assumption | omega) | exact tx_19 (by first | assumption | omega) | exact tx_20 (by first | assumption | omega) | exact tx_27 (by first | assumption | omega) | exact tx_28 (by first | assumption | omega) | exact tx_30 (by first | assumption | omega) | exact tx_31 (by first | assumption | omega) | exact tx_32 (by first | assumption | omega) | exact tx_33 (by first | assumption | omega)) (by rfl) ?_
    refine z_iload_n h dX11_feed_58 rfl ?_
    refine z_callV h dX11_feed_59 (fun _ _ q => z_okv_no he q) (fun _ _ _ t q => absurd q (he t)) (m_X9_append _ hR (nt + (t_rs a 4).length) hc_1 b (by omega)) ym_X9_append mlX11_159 im_X9_append (ci := 9) rfl se_X9_append icX9 rfl (r_p.ob hR (by first | assumption | exact Nat.le_of_ble_eq_true rfl) (by first | rfl | assumption | exact tx_2 (by first | assumption | omega) | exact tx_18 (by first | assumption | omega) | exact tx_19 (by first | assumption | omega) | exact tx_20 (by first | assumption | omega) | exact tx_27 (by first | assumption | omega) | exact tx_28 (by first | assumption | omega) | exact tx_30 (by first | assumption | omega) | exact tx_31 (by first | assumption | omega) | exact tx_32 (by first | assumption | omega) | exact tx_33 (by first | assumption | omega))) rfl (by decide) (Nat.le_of_ble_eq_true rfl) ?_
    rintro q1 w ⟨rfl, c2, h6_2, h7_2, ho_2, hR⟩
    have hc_2 : c2 (6, 0) 1 = nI ((nt + (t_rs a 4).length) + (t_rs b 4).length) := by rw [h6_2]; simp [upd]
    refine z_aload_n h dX11_feed_62 rfl ?_
    refine y_getr h dX11_feed_63 hR flX11_25 (by first | assumption | exact Nat.le_of_ble_eq_true rfl) (by first | rfl | assumption | exact tx_2 (by first | assumption | omega) | exact tx_18 (by first | assumption | omega) | exact tx_19 (by first | assumption | omega) | exact tx_20 (by first | assumption | omega) | exact tx_27 (by first | assumption | omega) | exact tx_28 (by first | assumption | omega) | exact tx_30 (by first | assumption | omega) | exact tx_31 (by first | assumption | omega) | exact tx_32 (by first | assumption | omega) | exact tx_33 (by first | assumption | omega)) (by rfl) ?_
    refine z_iload_n h dX11_feed_66 rfl ?_
    refine z_callV h dX11_feed_67 (fun _ _ q => z_okv_no he q) (fun _ _ _ t q => absurd q (he t)) (m_X9_append _ hR ((nt + (t_rs a 4).length) + (t_rs b 4).length) hc_2 e (by omega)) ym_X9_append mlX11_159 im_X9_append (ci := 9) rfl se_X9_append icX9 rfl (r_p.ob hR (by first | assumption | exact Nat.le_of_ble_eq_true rfl) (by first | rfl | assumption | exact tx_2 (by first | assumption | omega) | exact tx_18 (by first | assumption | omega) | exact tx_19 (by first | assumption | omega) | exact tx_20 (by first | assumption | omega) | exact tx_27 (by first | assumption | omega) | exact tx_28 (by first | assumption | omega) | exact tx_30 (by first | assumption | omega) | exact tx_31 (by first | assumption | omega) | exact tx_32 (by first | assumption | omega) | exact tx_33 (by first | assumption | omega))) rfl (by decide) (Nat.le_of_ble_eq_true rfl) ?_
    rintro q1 w ⟨rfl, c3, h6_3, h7_3, ho_3, hR⟩
    have hc_3 : c3 (6, 0) 1 = nI (((nt + (t_rs a 4).length) + (t_rs b 4).length) + (t_rs e 4).length) := by rw [h6_3]; simp [upd]
    refine z_aload_n h dX11_feed_70 rfl ?_
    refine y_getr h dX11_feed_71 hR flX11_25 (by first | assumption | exact Nat.le_of_ble_eq_true rfl) (by first | rfl | assumption | exact tx_2 (by first | assumption | omega) | exact tx_18 (by first | assumption | omega) | exact tx_19 (by first | assumption | omega) | exact tx_20 (by first | assumption | omega) | exact tx_27 (by first | assumption | omega) | exact tx_28 (by first | assumption | omega) | exact tx_30 (by first | assumption | omega) | exact tx_31 (by first | assumption | omega) | exact tx_32 (by first | assumption | omega) | exact tx_33 (by first | assumption | omega)) (by rfl) ?_
    refine z_iload h dX11_feed_74 rfl ?_
    refine z_callV h dX11_feed_76 (fun _ _ q => z_okv_no he q) (fun _ _ _ t q => absurd q (he t)) (m_X9_append _ hR (((nt + (t_rs a 4).length) + (t_rs b 4).length) + (t_rs e 4).length) hc_3 u (by omega)) ym_X9_append mlX11_159 im_X9_append (ci := 9) rfl se_X9_append icX9 rfl (r_p.ob hR (by first | assumption | exact Nat.le_of_ble_eq_true rfl) (by first | rfl | assumption | exact tx_2 (by first | assumption | omega) | exact tx_18 (by first | assumption | omega) | exact tx_19 (by first | assumption | omega) | exact tx_20 (by first | assumption | omega) | exact tx_27 (by first | assumption | omega) | exact tx_28 (by first | assumption | omega) | exact tx_30 (by first | assumption | omega) | exact tx_31 (by first | assumption | omega) | exact tx_32 (by first | assumption | omega) | exact tx_33 (by first | assumption | omega))) rfl (by decide) (Nat.le_of_ble_eq_true rfl) ?_
    rintro q1 w ⟨rfl, c4, h6_4, h7_4, ho_4, hR⟩
    have hc_4 : c4 (6, 0) 1 = nI ((((nt + (t_rs a 4).length) + (t_rs b 4).length) + (t_rs e 4).length) + (t_rs u 4).length) := by rw [h6_4]; simp [upd]
    refine z_aload_n h dX11_feed_79 rfl ?_
    refine y_getr h dX11_feed_80 hR flX11_25 (by first | assumption | exact Nat.le_of_ble_eq_true rfl) (by first | rfl | assumption | exact tx_2 (by first | assumption | omega) | exact tx_18 (by first | assumption | omega) | exact tx_19 (by first | assumption | omega) | exact tx_20 (by first | assumption | omega) | exact tx_27 (by first | assumption | omega) | exact tx_28 (by first | assumption | omega) | exact tx_30 (by first | assumption | omega) | exact tx_31 (by first | assumption | omega) | exact tx_32 (by first | assumption | omega) | exact tx_33 (by first | assumption | omega)) (by rfl) ?_
    refine z_iload h dX11_feed_83 rfl ?_
    refine z_callV h dX11_feed_85 (fun _ _ q => z_okv_no he q) (fun _ _ _ t q => absurd q (he t)) (m_X9_append _ hR ((((nt + (t_rs a 4).length) + (t_rs b 4).length) + (t_rs e 4).length) + (t_rs u 4).length) hc_4 v (by omega)) ym_X9_append mlX11_159 im_X9_append (ci := 9) rfl se_X9_append icX9 rfl (r_p.ob hR (by first | assumption | exact Nat.le_of_ble_eq_true rfl) (by first | rfl | assumption | exact tx_2 (by first | assumption | omega) | exact tx_18 (by first | assumption | omega) | exact tx_19 (by first | assumption | omega) | exact tx_20 (by first | assumption | omega) | exact tx_27 (by first | assumption | omega) | exact tx_28 (by first | assumption | omega) | exact tx_30 (by first | assumption | omega) | exact tx_31 (by first | assumption | omega) | exact tx_32 (by first | assumption | omega) | exact tx_33 (by first | assumption | omega))) rfl (by decide) (Nat.le_of_ble_eq_true rfl) ?_
    rintro q1 w ⟨rfl, c5, h6_5, h7_5, ho_5, hR⟩
    have hc_5 : c5 (6, 0) 1 = nI (((((nt + (t_rs a 4).length) + (t_rs b 4).length) + (t_rs e 4).length) + (t_rs u 4).length) + (t_rs v 4).length) := by rw [h6_5]; simp [upd]
    refine z_aload_n h dX11_feed_88 rfl ?_
    refine y_getr h dX11_feed_89 hR flX11_25 (by first | assumption | exact Nat.le_of_ble_eq_true rfl) (by first | rfl | assumption | exact tx_2 (by first | assumption | omega) | exact tx_18 (by first | assumption | omega) | exact tx_19 (by first | assumption | omega) | exact tx_20 (by first | assumption | omega) | exact tx_27 (by first | assumption | omega) | exact tx_28 (by first | assumption | omega) | exact tx_30 (by first | assumption | omega) | exact tx_31 (by first | assumption | omega) | exact tx_32 (by first | assumption | omega) | exact tx_33 (by first | assumption | omega)) (by rfl) ?_
    refine y_geti h dX11_feed_92 hR flX11_156 (by first | assumption | exact Nat.le_of_ble_eq_true rfl) (by first | rfl | assumption | exact tx_2 (by first | assumption | omega) | exact tx_18 (by first | assumption | omega) | exact tx_19 (by first | assumption | omega) | exact tx_20 (by first | assumption | omega) | exact tx_27 (by first | assumption | omega) | exact tx_28 (by first | assumption | omega) | exact tx_30 (by first | assumption | omega) | exact tx_31 (by first | assumption | omega) | exact tx_32 (by first | assumption | omega) | exact tx_33 (by first | assumption | omega)) (by rfl) ?_
    exact z_iret h dX11_feed_95 hr (z_t (by rw [hLL]; exact e1) ⟨by
          show some (vi (c5 (6, 0) 1)) = _
          rw [hc_5, hLL]
          simp only [Nat.add_assoc], c5, by
          rw [h6_5, h6_4, h6_3, h6_2, h6_1, hLL]
          funext j
          simp only [upd, Nat.add_assoc]
          split <;> rfl, by
          rw [h7_5, h7_4, h7_3, h7_2, h7_1, tp_ws_app, tp_ws_app, tp_ws_app, tp_ws_app]
          simp only [List.length_append, Nat.add_assoc], fun t h6 h7 => by rw [ho_5 t h6 h7, ho_4 t h6 h7, ho_3 t h6 h7, ho_2 t h6 h7, ho_1 t h6 h7], hR⟩)
  · skip
    have e1 : ¬ nt + ((t_rs a 4).length + (t_rs b 4).length + (t_rs e 4).length + (t_rs u 4).length + (t_rs v 4).length) ≤ 200 := fun q => c_1 ((nI_leI (b := 200) (by omega) (by omega)).mpr q)
    refine z_iconst (v := -1) h dX11_feed_44 (by decide) ?_
    exact z_iret h dX11_feed_45 hr (z_f (by rw [hLL]; exact e1) ⟨rfl, rfl⟩)
