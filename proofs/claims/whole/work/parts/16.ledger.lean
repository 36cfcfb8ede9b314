/-! the class: rights, ledger -/
def i_f (bo ho pa fr : Nat → Int32) (b h y : Int32) : Nat → Int32 × Int32
  | 0 => (-1, 0)
  | n + 1 => if (bo n = b ∧ ho n = h) ∧ fr n ≤ y ∧ (i_f bo ho pa fr b h y n).1 ≤ fr n then (fr n, pa n) else i_f bo ho pa fr b h y n
set_option maxHeartbeats 4000000 in
set_option maxRecDepth 100000 in
theorem m_X8_tell (G : z_G) {nb na np g : Nat} {w0 w : z_w} {c : r_c} {l : r_l} {r : r_r} (hR : r_p dX (TX nb na np g) w0 c l r w) (nr : Nat) (hc : c (21, 0) 4 = nI nr) (hnr : nr ≤ 100) (bo ho pa fr : Int32) : z_M G yX8_tell cX8_tell 5 (some .boolean) 1 (0) (0) [vr (21, 0), vi bo, vi ho, vi pa, vi fr] w (fun q w1 => if nr < 100 then q = some (vi 1) ∧ r_p dX (TX nb na np g) w0 (r_cs (r_cs (r_cs (r_cs (r_cs c (22, 0) nr bo) (23, 0) nr ho) (24, 0) nr pa) (25, 0) nr fr) (21, 0) 4 (nI (nr + 1))) (l) (r) w1 else q = some (vi 0) ∧ w1 = w) := by
  refine z_met ym_X8_tell (by decide) ⟨Nat.le_of_ble_eq_true rfl, Nat.le_of_ble_eq_true rfl⟩ (fun X hG hn hmc hms hin h hr => ?_)
  have he := hr.2.2.2.2.2.1
  refine z_aload_n h dX8_tell_0 rfl ?_
  refine y_geti h dX8_tell_1 hR flX8_24 (by first | assumption | exact Nat.le_of_ble_eq_true rfl) (by first | rfl | assumption | exact tx_2 (by first | assumption | omega) | exact tx_18 (by first | assumption | omega) | exact tx_19 (by first | assumption | omega) | exact tx_20 (by first | assumption | omega) | exact tx_27 (by first | assumption | omega) | exact tx_28 (by first | assumption | omega) | exact tx_30 (by first | assumption | omega) | exact tx_31 (by first | assumption | omega) | exact tx_32 (by first | assumption | omega) | exact tx_33 (by first | assumption | omega)) (by rfl) ?_
  rw [hc]
  refine z_bipush (v := 100) h dX8_tell_4 (by decide) ?_
  refine z_icmp_lt h dX8_tell_6 11 (by decide) (fun c_1 => ?_) (fun c_1 => ?_)
  · skip
    have e1 : nr < 100 := (nI_ltI (b := 100) (by omega) (by omega)).mp c_1
    refine z_aload_n h dX8_tell_11 rfl ?_
    refine y_getr h dX8_tell_12 hR flX8_9 (by first | assumption | exact Nat.le_of_ble_eq_true rfl) (by first | rfl | assumption | exact tx_2 (by first | assumption | omega) | exact tx_18 (by first | assumption | omega) | exact tx_19 (by first | assumption | omega) | exact tx_20 (by first | assumption | omega) | exact tx_27 (by first | assumption | omega) | exact tx_28 (by first | assumption | omega) | exact tx_30 (by first | assumption | omega) | exact tx_31 (by first | assumption | omega) | exact tx_32 (by first | assumption | omega) | exact tx_33 (by first | assumption | omega)) (by rfl) ?_
    refine z_aload_n h dX8_tell_15 rfl ?_
    refine y_geti h dX8_tell_16 hR flX8_24 (by first | assumption | exact Nat.le_of_ble_eq_true rfl) (by first | rfl | assumption | exact tx_2 (by first | assumption | omega) | exact tx_18 (by first | assumption | omega) | exact tx_19 (by first | assumption | omega) | exact tx_20 (by first | assumption | omega) | exact tx_27 (by first | assumption | omega) | exact tx_28 (by first | assumption | omega) | exact tx_30 (by first | assumption | omega) | exact tx_31 (by first | assumption | omega) | exact tx_32 (by first | assumption | omega) | exact tx_33 (by first | assumption | omega)) (by rfl) ?_
    refine z_iload_n h dX8_tell_19 rfl ?_
    refine y_iast h dX8_tell_20 hR (by first | assumption | exact Nat.le_of_ble_eq_true rfl) (by first | rfl | assumption | exact tx_2 (by first | assumption | omega) | exact tx_18 (by first | assumption | omega) | exact tx_19 (by first | assumption | omega) | exact tx_20 (by first | assumption | omega) | exact tx_27 (by first | assumption | omega) | exact tx_28 (by first | assumption | omega) | exact tx_30 (by first | assumption | omega) | exact tx_31 (by first | assumption | omega) | exact tx_32 (by first | assumption | omega) | exact tx_33 (by first | assumption | omega)) (z_ixe (show _ = nI nr from hc) (by omega) (by omega)) (fun w hR => ?_)
    refine z_aload_n h dX8_tell_21 rfl ?_
    refine y_getr h dX8_tell_22 hR flX8_15 (by first | assumption | exact Nat.le_of_ble_eq_true rfl) (by first | rfl | assumption | exact tx_2 (by first | assumption | omega) | exact tx_18 (by first | assumption | omega) | exact tx_19 (by first | assumption | omega) | exact tx_20 (by first | assumption | omega) | exact tx_27 (by first | assumption | omega) | exact tx_28 (by first | assumption | omega) | exact tx_30 (by first | assumption | omega) | exact tx_31 (by first | assumption | omega) | exact tx_32 (by first | assumption | omega) | exact tx_33 (by first | assumption | omega)) (by rfl) ?_
    refine z_aload_n h dX8_tell_25 rfl ?_
    refine y_geti h dX8_tell_26 hR flX8_24 (by first | assumption | exact Nat.le_of_ble_eq_true rfl) (by first | rfl | assumption | exact tx_2 (by first | assumption | omega) | exact tx_18 (by first | assumption | omega) | exact tx_19 (by first | assumption | omega) | exact tx_20 (by first | assumption | omega) | exact tx_27 (by first | assumption | omega) | exact tx_28 (by first | assumption | omega) | exact tx_30 (by first | assumption | omega) | exact tx_31 (by first | assumption | omega) | exact tx_32 (by first | assumption | omega) | exact tx_33 (by first | assumption | omega)) (by rfl) ?_
    refine z_iload_n h dX8_tell_29 rfl ?_
    refine y_iast h dX8_tell_30 hR (by first | assumption | exact Nat.le_of_ble_eq_true rfl) (by first | rfl | assumption | exact tx_2 (by first | assumption | omega) | exact tx_18 (by first | assumption | omega) | exact tx_19 (by first | assumption | omega) | exact tx_20 (by first | assumption | omega) | exact tx_27 (by first | assumption | omega) | exact tx_28 (by first | assumption | omega) | exact tx_30 (by first | assumption | omega) | exact tx_31 (by first | assumption | omega) | exact tx_32 (by first | assumption | omega) | exact tx_33 (by first | assumption | omega)) (z_ixe (show _ = nI nr from hc) (by omega) (by omega)) (fun w hR => ?_)
    refine z_aload_n h dX8_tell_31 rfl ?_
    refine y_getr h dX8_tell_32 hR flX8_18 (by first | assumption | exact Nat.le_of_ble_eq_true rfl) (by first | rfl | assumption | exact tx_2 (by first | assumption | omega) | exact tx_18 (by first | assumption | omega) | exact tx_19 (by first | assumption | omega) | exact tx_20 (by first | assumption | omega) | exact tx_27 (by first | assumption | omega) | exact tx_28 (by first | assumption | omega) | exact tx_30 (by first | assumption | omega) | exact tx_31 (by first | assumption | omega) | exact tx_32 (by first | assumption | omega) | exact tx_33 (by first | assumption | omega)) (by rfl) ?_
    refine z_aload_n h dX8_tell_35 rfl ?_
    refine y_geti h dX8_tell_36 hR flX8_24 (by first | assumption | exact Nat.le_of_ble_eq_true rfl) (by first | rfl | assumption | exact tx_2 (by first | assumption | omega) | exact tx_18 (by first | assumption | omega) | exact tx_19 (by first | assumption | omega) | exact tx_20 (by first | assumption | omega) | exact tx_27 (by first | assumption | omega) | exact tx_28 (by first | assumption | omega) | exact tx_30 (by first | assumption | omega) | exact tx_31 (by first | assumption | omega) | exact tx_32 (by first | assumption | omega) | exact tx_33 (by first | assumption | omega)) (by rfl) ?_
    refine z_iload_n h dX8_tell_39 rfl ?_
    refine y_iast h dX8_tell_40 hR (by first | assumption | exact Nat.le_of_ble_eq_true rfl) (by first | rfl | assumption | exact tx_2 (by first | assumption | omega) | exact tx_18 (by first | assumption | omega) | exact tx_19 (by first | assumption | omega) | exact tx_20 (by first | assumption | omega) | exact tx_27 (by first | assumption | omega) | exact tx_28 (by first | assumption | omega) | exact tx_30 (by first | assumption | omega) | exact tx_31 (by first | assumption | omega) | exact tx_32 (by first | assumption | omega) | exact tx_33 (by first | assumption | omega)) (z_ixe (show _ = nI nr from hc) (by omega) (by omega)) (fun w hR => ?_)
    refine z_aload_n h dX8_tell_41 rfl ?_
    refine y_getr h dX8_tell_42 hR flX8_21 (by first | assumption | exact Nat.le_of_ble_eq_true rfl) (by first | rfl | assumption | exact tx_2 (by first | assumption | omega) | exact tx_18 (by first | assumption | omega) | exact tx_19 (by first | assumption | omega) | exact tx_20 (by first | assumption | omega) | exact tx_27 (by first | assumption | omega) | exact tx_28 (by first | assumption | omega) | exact tx_30 (by first | assumption | omega) | exact tx_31 (by first | assumption | omega) | exact tx_32 (by first | assumption | omega) | exact tx_33 (by first | assumption | omega)) (by rfl) ?_
    refine z_aload_n h dX8_tell_45 rfl ?_
    refine y_geti h dX8_tell_46 hR flX8_24 (by first | assumption | exact Nat.le_of_ble_eq_true rfl) (by first | rfl | assumption | exact tx_2 (by first | assumption | omega) | exact tx_18 (by first | assumption | omega) | exact tx_19 (by first | assumption | omega) | exact tx_20 (by first | assumption | omega) | exact tx_27 (by first | assumption | omega) | exact tx_28 (by first | assumption | omega) | exact tx_30 (by first | assumption | omega) | exact tx_31 (by first | assumption | omega) | exact tx_32 (by first | assumption | omega) | exact tx_33 (by first | assumption | omega)) (by rfl) ?_
    refine z_iload h dX8_tell_49 rfl ?_
    refine y_iast h dX8_tell_51 hR (by first | assumption | exact Nat.le_of_ble_eq_true rfl) (by first | rfl | assumption | exact tx_2 (by first | assumption | omega) | exact tx_18 (by first | assumption | omega) | exact tx_19 (by first | assumption | omega) | exact tx_20 (by first | assumption | omega) | exact tx_27 (by first | assumption | omega) | exact tx_28 (by first | assumption | omega) | exact tx_30 (by first | assumption | omega) | exact tx_31 (by first | assumption | omega) | exact tx_32 (by first | assumption | omega) | exact tx_33 (by first | assumption | omega)) (z_ixe (show _ = nI nr from hc) (by omega) (by omega)) (fun w hR => ?_)
    refine z_aload_n h dX8_tell_52 rfl ?_
    refine z_dup_r h dX8_tell_53 ?_
    refine y_geti h dX8_tell_54 hR flX8_24 (by first | assumption | exact Nat.le_of_ble_eq_true rfl) (by first | rfl | assumption | exact tx_2 (by first | assumption | omega) | exact tx_18 (by first | assumption | omega) | exact tx_19 (by first | assumption | omega) | exact tx_20 (by first | assumption | omega) | exact tx_27 (by first | assumption | omega) | exact tx_28 (by first | assumption | omega) | exact tx_30 (by first | assumption | omega) | exact tx_31 (by first | assumption | omega) | exact tx_32 (by first | assumption | omega) | exact tx_33 (by first | assumption | omega)) (by rfl) ?_
    refine z_iconst (v := 1) h dX8_tell_57 (by decide) ?_
    refine z_iadd h dX8_tell_58 ?_
    refine z_toe (y := nI (nr + 1)) (by show c (21, 0) 4 + 1 = _; rw [hc]; exact z_up nr) ?_
    refine y_put h dX8_tell_59 he hR flX8_24 rfl (by first | assumption | exact Nat.le_of_ble_eq_true rfl) (by first | rfl | assumption | exact tx_2 (by first | assumption | omega) | exact tx_18 (by first | assumption | omega) | exact tx_19 (by first | assumption | omega) | exact tx_20 (by first | assumption | omega) | exact tx_27 (by first | assumption | omega) | exact tx_28 (by first | assumption | omega) | exact tx_30 (by first | assumption | omega) | exact tx_31 (by first | assumption | omega) | exact tx_32 (by first | assumption | omega) | exact tx_33 (by first | assumption | omega)) (by rfl) (fun w hR => ?_)
    refine z_iconst (v := 1) h dX8_tell_62 (by decide) ?_
    exact z_zret h dX8_tell_63 hr rfl (z_t e1 ⟨rfl, hR⟩)
  · skip
    have e1 : ¬ nr < 100 := fun q => c_1 ((nI_ltI (b := 100) (by omega) (by omega)).mpr q)
    refine z_iconst (v := 0) h dX8_tell_9 (by decide) ?_
    exact z_zret h dX8_tell_10 hr rfl (z_f e1 ⟨rfl, rfl⟩)
set_option maxHeartbeats 4000000 in
set_option maxRecDepth 100000 in
theorem m_X8_inForce (G : z_G) {nb na np g : Nat} {w0 w : z_w} {c : r_c} {l : r_l} {r : r_r} (hR : r_p dX (TX nb na np g) w0 c l r w) (nr : Nat) (hc : c (21, 0) 4 = nI nr) (hnr : nr ≤ 100) (b ho y : Int32) : z_M G yX8_inForce cX8_inForce 8 (some .int) 1 (0) (0) [vr (21, 0), vi b, vi ho, vi y] w (fun q w1 => q = some (vi (i_f (c (22, 0)) (c (23, 0)) (c (24, 0)) (c (25, 0)) b ho y nr).2) ∧ w1 = w) := by
  refine z_met ym_X8_inForce (by decide) ⟨Nat.le_of_ble_eq_true rfl, Nat.le_of_ble_eq_true rfl⟩ (fun X hG hn hmc hms hin h hr => ?_)
  have he := hr.2.2.2.2.2.1
  refine z_iconst (v := -1) h dX8_inForce_0 (by decide) ?_
  refine z_istore h dX8_inForce_1 (by rw [hn]; decide) ?_
  refine z_iconst (v := 0) h dX8_inForce_3 (by decide) ?_
  refine z_istore h dX8_inForce_4 (by rw [hn]; decide) ?_
  refine z_iconst (v := 0) h dX8_inForce_6 (by decide) ?_
  refine z_istore h dX8_inForce_7 (by rw [hn]; decide) ?_
  have loop_9 : ∀ (n_ : Nat) (i : Nat), i ≤ nr → nr + 1 ≤ i + n_ → z_V X 0 0 w 9 [(0, vr (21, 0)), (1, vi b), (2, vi ho), (3, vi y), (4, vi (i_f (c (22, 0)) (c (23, 0)) (c (24, 0)) (c (25, 0)) b ho y i).1), (5, vi (i_f (c (22, 0)) (c (23, 0)) (c (24, 0)) (c (25, 0)) b ho y i).2), (6, vi (nI i))] [] := by
    intro n_
    induction n_ with
    | zero => intros; omega
    | succ n_ ih_9 =>
      intro i hi hN
      refine z_iload h dX8_inForce_9 rfl ?_
      refine z_aload_n h dX8_inForce_11 rfl ?_
      refine y_geti h dX8_inForce_12 hR flX8_24 (by first | assumption | exact Nat.le_of_ble_eq_true rfl) (by first | rfl | assumption | exact tx_2 (by first | assumption | omega) | exact tx_18 (by first | assumption | omega) | exact tx_19 (by first | assumption | omega) | exact tx_20 (by first | assumption | omega) | exact tx_27 (by first | assumption | omega) | exact tx_28 (by first | assumption | omega) | exact tx_30 (by first | assumption | omega) | exact tx_31 (by first | assumption | omega) | exact tx_32 (by first | assumption | omega) | exact tx_33 (by first | assumption | omega)) (by rfl) ?_
      rw [hc]
      refine z_icmp_ge h dX8_inForce_15 106 (by decide) (fun c_1 => ?_) (fun c_1 => ?_)
      · skip
        have e1 : nr ≤ i := (nI_leI (by omega) (by omega)).mp c_1
        have e2 : i = nr := by omega
        subst e2
        refine z_iload h dX8_inForce_106 rfl ?_
        exact z_iret h dX8_inForce_108 hr (⟨rfl, rfl⟩)
      · skip
        have e1 : ¬ nr ≤ i := fun q => c_1 ((nI_leI (by omega) (by omega)).mpr q)
        refine z_iload h dX8_inForce_18 rfl ?_
        refine z_bipush (v := 100) h dX8_inForce_20 (by decide) ?_
        refine z_icmp_ge h dX8_inForce_22 106 (by decide) (fun c_0 => ?_) (fun c_0 => ?_)
        · skip
          exact absurd ((nI_leI (a := 100) (by omega) (by omega)).mp c_0) (by omega)
        · skip
          refine z_aload_n h dX8_inForce_25 rfl ?_
          refine y_getr h dX8_inForce_26 hR flX8_9 (by first | assumption | exact Nat.le_of_ble_eq_true rfl) (by first | rfl | assumption | exact tx_2 (by first | assumption | omega) | exact tx_18 (by first | assumption | omega) | exact tx_19 (by first | assumption | omega) | exact tx_20 (by first | assumption | omega) | exact tx_27 (by first | assumption | omega) | exact tx_28 (by first | assumption | omega) | exact tx_30 (by first | assumption | omega) | exact tx_31 (by first | assumption | omega) | exact tx_32 (by first | assumption | omega) | exact tx_33 (by first | assumption | omega)) (by rfl) ?_
          refine z_iload h dX8_inForce_29 rfl ?_
          refine y_iald h dX8_inForce_31 hR (by first | assumption | exact Nat.le_of_ble_eq_true rfl) (by first | rfl | assumption | exact tx_2 (by first | assumption | omega) | exact tx_18 (by first | assumption | omega) | exact tx_19 (by first | assumption | omega) | exact tx_20 (by first | assumption | omega) | exact tx_27 (by first | assumption | omega) | exact tx_28 (by first | assumption | omega) | exact tx_30 (by first | assumption | omega) | exact tx_31 (by first | assumption | omega) | exact tx_32 (by first | assumption | omega) | exact tx_33 (by first | assumption | omega)) (by first | assumption | exact z_ixn (by omega) (by omega)) ?_
          refine z_iload_n h dX8_inForce_32 rfl ?_
          refine z_icmp_ne h dX8_inForce_33 51 (by decide) (fun c_2 => ?_) (fun c_2 => ?_)
          · skip
            refine z_iconst (v := 0) h dX8_inForce_51 (by decide) ?_
            refine z_istore h dX8_inForce_52 (by rw [hn]; decide) ?_
            refine z_iload h dX8_inForce_54 rfl ?_
            refine z_if_eq h dX8_inForce_56 100 (by decide) (fun c_4 => ?_) (fun c_4 => ?_)
            · skip
              refine z_iinc (v := 1) h dX8_inForce_100 rfl (by decide) (by rw [hn]; decide) ?_
              refine z_goto h dX8_inForce_103 9 (by decide) ?_
              have hst : i_f (c (22, 0)) (c (23, 0)) (c (24, 0)) (c (25, 0)) b ho y (i + 1) = i_f (c (22, 0)) (c (23, 0)) (c (24, 0)) (c (25, 0)) b ho y i := (if_neg (fun q => c_2 q.1.1))
              refine z_loc [(0, vr (21, 0)), (1, vi b), (2, vi ho), (3, vi y), (4, vi (i_f (c (22, 0)) (c (23, 0)) (c (24, 0)) (c (25, 0)) b ho y (i + 1)).1), (5, vi (i_f (c (22, 0)) (c (23, 0)) (c (24, 0)) (c (25, 0)) b ho y (i + 1)).2), (6, vi (nI (i + 1)))] ⟨rfl, rfl, rfl, rfl, by rw [hst]; rfl, by rw [hst]; rfl, congrArg (fun z => some (vi z)) (z_up i), trivial⟩ ?_
              exact ih_9 (i + 1) (by omega) (by omega)
            · skip
              exact absurd rfl c_4
          · skip
            refine z_aload_n h dX8_inForce_36 rfl ?_
            refine y_getr h dX8_inForce_37 hR flX8_15 (by first | assumption | exact Nat.le_of_ble_eq_true rfl) (by first | rfl | assumption | exact tx_2 (by first | assumption | omega) | exact tx_18 (by first | assumption | omega) | exact tx_19 (by first | assumption | omega) | exact tx_20 (by first | assumption | omega) | exact tx_27 (by first | assumption | omega) | exact tx_28 (by first | assumption | omega) | exact tx_30 (by first | assumption | omega) | exact tx_31 (by first | assumption | omega) | exact tx_32 (by first | assumption | omega) | exact tx_33 (by first | assumption | omega)) (by rfl) ?_
            refine z_iload h dX8_inForce_40 rfl ?_
            refine y_iald h dX8_inForce_42 hR (by first | assumption | exact Nat.le_of_ble_eq_true rfl) (by first | rfl | assumption | exact tx_2 (by first | assumption | omega) | exact tx_18 (by first | assumption | omega) | exact tx_19 (by first | assumption | omega) | exact tx_20 (by first | assumption | omega) | exact tx_27 (by first | assumption | omega) | exact tx_28 (by first | assumption | omega) | exact tx_30 (by first | assumption | omega) | exact tx_31 (by first | assumption | omega) | exact tx_32 (by first | assumption | omega) | exact tx_33 (by first | assumption | omega)) (by first | assumption | exact z_ixn (by omega) (by omega)) ?_
            refine z_iload_n h dX8_inForce_43 rfl ?_
            refine z_icmp_ne h dX8_inForce_44 51 (by decide) (fun c_3 => ?_) (fun c_3 => ?_)
            · skip
              refine z_iconst (v := 0) h dX8_inForce_51 (by decide) ?_
              refine z_istore h dX8_inForce_52 (by rw [hn]; decide) ?_
              refine z_iload h dX8_inForce_54 rfl ?_
              refine z_if_eq h dX8_inForce_56 100 (by decide) (fun c_4 => ?_) (fun c_4 => ?_)
              · skip
                refine z_iinc (v := 1) h dX8_inForce_100 rfl (by decide) (by rw [hn]; decide) ?_
                refine z_goto h dX8_inForce_103 9 (by decide) ?_
                have hst : i_f (c (22, 0)) (c (23, 0)) (c (24, 0)) (c (25, 0)) b ho y (i + 1) = i_f (c (22, 0)) (c (23, 0)) (c (24, 0)) (c (25, 0)) b ho y i := (if_neg (fun q => c_3 q.1.2))
                refine z_loc [(0, vr (21, 0)), (1, vi b), (2, vi ho), (3, vi y), (4, vi (i_f (c (22, 0)) (c (23, 0)) (c (24, 0)) (c (25, 0)) b ho y (i + 1)).1), (5, vi (i_f (c (22, 0)) (c (23, 0)) (c (24, 0)) (c (25, 0)) b ho y (i + 1)).2), (6, vi (nI (i + 1)))] ⟨rfl, rfl, rfl, rfl, by rw [hst]; rfl, by rw [hst]; rfl, congrArg (fun z => some (vi z)) (z_up i), trivial⟩ ?_
                exact ih_9 (i + 1) (by omega) (by omega)
              · skip
                exact absurd rfl c_4
            · skip
              refine z_iconst (v := 1) h dX8_inForce_47 (by decide) ?_
              refine z_goto h dX8_inForce_48 52 (by decide) ?_
              refine z_istore h dX8_inForce_52 (by rw [hn]; decide) ?_
              refine z_iload h dX8_inForce_54 rfl ?_
              refine z_if_eq h dX8_inForce_56 100 (by decide) (fun c_4 => ?_) (fun c_4 => ?_)
              · skip
                exact absurd c_4 (by decide)
              · skip
                refine z_aload_n h dX8_inForce_59 rfl ?_
                refine y_getr h dX8_inForce_60 hR flX8_21 (by first | assumption | exact Nat.le_of_ble_eq_true rfl) (by first | rfl | assumption | exact tx_2 (by first | assumption | omega) | exact tx_18 (by first | assumption | omega) | exact tx_19 (by first | assumption | omega) | exact tx_20 (by first | assumption | omega) | exact tx_27 (by first | assumption | omega) | exact tx_28 (by first | assumption | omega) | exact tx_30 (by first | assumption | omega) | exact tx_31 (by first | assumption | omega) | exact tx_32 (by first | assumption | omega) | exact tx_33 (by first | assumption | omega)) (by rfl) ?_
                refine z_iload h dX8_inForce_63 rfl ?_
                refine y_iald h dX8_inForce_65 hR (by first | assumption | exact Nat.le_of_ble_eq_true rfl) (by first | rfl | assumption | exact tx_2 (by first | assumption | omega) | exact tx_18 (by first | assumption | omega) | exact tx_19 (by first | assumption | omega) | exact tx_20 (by first | assumption | omega) | exact tx_27 (by first | assumption | omega) | exact tx_28 (by first | assumption | omega) | exact tx_30 (by first | assumption | omega) | exact tx_31 (by first | assumption | omega) | exact tx_32 (by first | assumption | omega) | exact tx_33 (by first | assumption | omega)) (by first | assumption | exact z_ixn (by omega) (by omega)) ?_
                refine z_iload_n h dX8_inForce_66 rfl ?_
                refine z_icmp_gt h dX8_inForce_67 100 (by decide) (fun c_5 => ?_) (fun c_5 => ?_)
                · skip
                  refine z_iinc (v := 1) h dX8_inForce_100 rfl (by decide) (by rw [hn]; decide) ?_
                  refine z_goto h dX8_inForce_103 9 (by decide) ?_
                  have hst : i_f (c (22, 0)) (c (23, 0)) (c (24, 0)) (c (25, 0)) b ho y (i + 1) = i_f (c (22, 0)) (c (23, 0)) (c (24, 0)) (c (25, 0)) b ho y i := (if_neg (fun q => by have q3 := q.2.1; clear q; simp only [z_lt, z_le, z_ie] at *; omega))
                  refine z_loc [(0, vr (21, 0)), (1, vi b), (2, vi ho), (3, vi y), (4, vi (i_f (c (22, 0)) (c (23, 0)) (c (24, 0)) (c (25, 0)) b ho y (i + 1)).1), (5, vi (i_f (c (22, 0)) (c (23, 0)) (c (24, 0)) (c (25, 0)) b ho y (i + 1)).2), (6, vi (nI (i + 1)))] ⟨rfl, rfl, rfl, rfl, by rw [hst]; rfl, by rw [hst]; rfl, congrArg (fun z => some (vi z)) (z_up i), trivial⟩ ?_
                  exact ih_9 (i + 1) (by omega) (by omega)
                · skip
                  refine z_aload_n h dX8_inForce_70 rfl ?_
                  refine y_getr h dX8_inForce_71 hR flX8_21 (by first | assumption | exact Nat.le_of_ble_eq_true rfl) (by first | rfl | assumption | exact tx_2 (by first | assumption | omega) | exact tx_18 (by first | assumption | omega) | exact tx_19 (by first | assumption | omega) | exact tx_20 (by first | assumption | omega) | exact tx_27 (by first | assumption | omega) | exact tx_28 (by first | assumption | omega) | exact tx_30 (by first | assumption | omega) | exact tx_31 (by first | assumption | omega) | exact tx_32 (by first | assumption | omega) | exact tx_33 (by first | assumption | omega)) (by rfl) ?_
                  refine z_iload h dX8_inForce_74 rfl ?_
                  refine y_iald h dX8_inForce_76 hR (by first | assumption | exact Nat.le_of_ble_eq_true rfl) (by first | rfl | assumption | exact tx_2 (by first | assumption | omega) | exact tx_18 (by first | assumption | omega) | exact tx_19 (by first | assumption | omega) | exact tx_20 (by first | assumption | omega) | exact tx_27 (by first | assumption | omega) | exact tx_28 (by first | assumption | omega) | exact tx_30 (by first | assumption | omega) | exact tx_31 (by first | assumption | omega) | exact tx_32 (by first | assumption | omega) | exact tx_33 (by first | assumption | omega)) (by first | assumption | exact z_ixn (by omega) (by omega)) ?_
                  refine z_iload h dX8_inForce_77 rfl ?_
                  refine z_icmp_lt h dX8_inForce_79 100 (by decide) (fun c_6 => ?_) (fun c_6 => ?_)
                  · skip
                    refine z_iinc (v := 1) h dX8_inForce_100 rfl (by decide) (by rw [hn]; decide) ?_
                    refine z_goto h dX8_inForce_103 9 (by decide) ?_
                    have hst : i_f (c (22, 0)) (c (23, 0)) (c (24, 0)) (c (25, 0)) b ho y (i + 1) = i_f (c (22, 0)) (c (23, 0)) (c (24, 0)) (c (25, 0)) b ho y i := (if_neg (fun q => by have q3 := q.2.2; clear q; simp only [z_lt, z_le, z_ie] at *; omega))
                    refine z_loc [(0, vr (21, 0)), (1, vi b), (2, vi ho), (3, vi y), (4, vi (i_f (c (22, 0)) (c (23, 0)) (c (24, 0)) (c (25, 0)) b ho y (i + 1)).1), (5, vi (i_f (c (22, 0)) (c (23, 0)) (c (24, 0)) (c (25, 0)) b ho y (i + 1)).2), (6, vi (nI (i + 1)))] ⟨rfl, rfl, rfl, rfl, by rw [hst]; rfl, by rw [hst]; rfl, congrArg (fun z => some (vi z)) (z_up i), trivial⟩ ?_
                    exact ih_9 (i + 1) (by omega) (by omega)
                  · skip
                    refine z_aload_n h dX8_inForce_82 rfl ?_
                    refine y_getr h dX8_inForce_83 hR flX8_21 (by first | assumption | exact Nat.le_of_ble_eq_true rfl) (by first | rfl | assumption | exact tx_2 (by first | assumption | omega) | exact tx_18 (by first | assumption | omega) | exact tx_19 (by first | assumption | omega) | exact tx_20 (by first | assumption | omega) | exact tx_27 (by first | assumption | omega) | exact tx_28 (by first | assumption | omega) | exact tx_30 (by first | assumption | omega) | exact tx_31 (by first | assumption | omega) | exact tx_32 (by first | assumption | omega) | exact tx_33 (by first | assumption | omega)) (by rfl) ?_
                    refine z_iload h dX8_inForce_86 rfl ?_
                    refine y_iald h dX8_inForce_88 hR (by first | assumption | exact Nat.le_of_ble_eq_true rfl) (by first | rfl | assumption | exact tx_2 (by first | assumption | omega) | exact tx_18 (by first | assumption | omega) | exact tx_19 (by first | assumption | omega) | exact tx_20 (by first | assumption | omega) | exact tx_27 (by first | assumption | omega) | exact tx_28 (by first | assumption | omega) | exact tx_30 (by first | assumption | omega) | exact tx_31 (by first | assumption | omega) | exact tx_32 (by first | assumption | omega) | exact tx_33 (by first | assumption | omega)) (by first | assumption | exact z_ixn (by omega) (by omega)) ?_
                    refine z_istore h dX8_inForce_89 (by rw [hn]; decide) ?_
                    refine z_aload_n h dX8_inForce_91 rfl ?_
                    refine y_getr h dX8_inForce_92 hR flX8_18 (by first | assumption | exact Nat.le_of_ble_eq_true rfl) (by first | rfl | assumption | exact tx_2 (by first | assumption | omega) | exact tx_18 (by first | assumption | omega) | exact tx_19 (by first | assumption | omega) | exact tx_20 (by first | assumption | omega) | exact tx_27 (by first | assumption | omega) | exact tx_28 (by first | assumption | omega) | exact tx_30 (by first | assumption | omega) | exact tx_31 (by first | assumption | omega) | exact tx_32 (by first | assumption | omega) | exact tx_33 (by first | assumption | omega)) (by rfl) ?_
                    refine z_iload h dX8_inForce_95 rfl ?_
                    refine y_iald h dX8_inForce_97 hR (by first | assumption | exact Nat.le_of_ble_eq_true rfl) (by first | rfl | assumption | exact tx_2 (by first | assumption | omega) | exact tx_18 (by first | assumption | omega) | exact tx_19 (by first | assumption | omega) | exact tx_20 (by first | assumption | omega) | exact tx_27 (by first | assumption | omega) | exact tx_28 (by first | assumption | omega) | exact tx_30 (by first | assumption | omega) | exact tx_31 (by first | assumption | omega) | exact tx_32 (by first | assumption | omega) | exact tx_33 (by first | assumption | omega)) (by first | assumption | exact z_ixn (by omega) (by omega)) ?_
                    refine z_istore h dX8_inForce_98 (by rw [hn]; decide) ?_
                    refine z_iinc (v := 1) h dX8_inForce_100 rfl (by decide) (by rw [hn]; decide) ?_
                    refine z_goto h dX8_inForce_103 9 (by decide) ?_
                    have hst : i_f (c (22, 0)) (c (23, 0)) (c (24, 0)) (c (25, 0)) b ho y (i + 1) = (c (25, 0) i, c (24, 0) i) := (if_pos ⟨⟨c_2, c_3⟩, by simp only [z_lt, z_le, z_ie] at *; omega, by simp only [z_lt, z_le, z_ie] at *; omega⟩)
                    refine z_loc [(0, vr (21, 0)), (1, vi b), (2, vi ho), (3, vi y), (4, vi (i_f (c (22, 0)) (c (23, 0)) (c (24, 0)) (c (25, 0)) b ho y (i + 1)).1), (5, vi (i_f (c (22, 0)) (c (23, 0)) (c (24, 0)) (c (25, 0)) b ho y (i + 1)).2), (6, vi (nI (i + 1)))] ⟨rfl, rfl, rfl, rfl, by rw [hst]; rfl, by rw [hst]; rfl, congrArg (fun z => some (vi z)) (z_up i), trivial⟩ ?_
                    exact ih_9 (i + 1) (by omega) (by omega)
  exact z_loc [(0, vr (21, 0)), (1, vi b), (2, vi ho), (3, vi y), (4, vi (-1)), (5, vi 0), (6, vi 0)] ⟨rfl, rfl, rfl, rfl, rfl, rfl, rfl, trivial⟩ (loop_9 (nr + 1) 0 (by omega) (by omega))
set_option maxHeartbeats 4000000 in
set_option maxRecDepth 100000 in
theorem m_X8_claimOf (G : z_G) {nb na np g : Nat} {w0 w : z_w} {c : r_c} {l : r_l} {r : r_r} (hR : r_p dX (TX nb na np g) w0 c l r w) (nr : Nat) (hc : c (21, 0) 4 = nI nr) (hnr : nr ≤ 100) (b : Nat) (hb : b < na) (ho y : Int32) : z_M G yX8_claimOf cX8_claimOf 6 (some .int) 2 (0) (0) [vr (21, 0), vi ho, vr (18, b), vi y] w (fun q w1 => q = some (vi (z_sum (fun k => c (19, b) k * (i_f (c (22, 0)) (c (23, 0)) (c (24, 0)) (c (25, 0)) (nI k) ho y nr).2) 12)) ∧ w1 = w) := by
  refine z_met ym_X8_claimOf (by decide) ⟨Nat.le_of_ble_eq_true rfl, Nat.le_of_ble_eq_true rfl⟩ (fun X hG hn hmc hms hin h hr => ?_)
  have he := hr.2.2.2.2.2.1
  refine z_iconst (v := 0) h dX8_claimOf_0 (by decide) ?_
  refine z_istore h dX8_claimOf_1 (by rw [hn]; decide) ?_
  refine z_iconst (v := 0) h dX8_claimOf_3 (by decide) ?_
  refine z_istore h dX8_claimOf_4 (by rw [hn]; decide) ?_
  have loop_6 : ∀ (n_ : Nat) (i : Nat), i ≤ 12 → 12 + 1 ≤ i + n_ → z_V X 0 0 w 6 [(0, vr (21, 0)), (1, vi ho), (2, vr (18, b)), (3, vi y), (4, vi (z_sum (fun k => c (19, b) k * (i_f (c (22, 0)) (c (23, 0)) (c (24, 0)) (c (25, 0)) (nI k) ho y nr).2) i)), (5, vi (nI i))] [] := by
    intro n_
    induction n_ with
    | zero => intros; omega
    | succ n_ ih_6 =>
      intro i hi hN
      refine z_iload h dX8_claimOf_6 rfl ?_
      refine z_bipush (v := 12) h dX8_claimOf_8 (by decide) ?_
      refine z_icmp_ge h dX8_claimOf_10 50 (by decide) (fun c_1 => ?_) (fun c_1 => ?_)
      · skip
        have e1 : 12 ≤ i := (nI_leI (a := 12) (by omega) (by omega)).mp c_1
        have e2 : i = 12 := by omega
        subst e2
        refine z_iload h dX8_claimOf_50 rfl ?_
        exact z_iret h dX8_claimOf_52 hr (⟨rfl, rfl⟩)
      · skip
        have e1 : ¬ 12 ≤ i := fun q => c_1 ((nI_leI (a := 12) (by omega) (by omega)).mpr q)
        refine z_aload_n h dX8_claimOf_13 rfl ?_
        refine y_getr h dX8_claimOf_14 hR flX8_28 (by first | assumption | exact Nat.le_of_ble_eq_true rfl) (by first | rfl | assumption | exact tx_2 (by first | assumption | omega) | exact tx_18 (by first | assumption | omega) | exact tx_19 (by first | assumption | omega) | exact tx_20 (by first | assumption | omega) | exact tx_27 (by first | assumption | omega) | exact tx_28 (by first | assumption | omega) | exact tx_30 (by first | assumption | omega) | exact tx_31 (by first | assumption | omega) | exact tx_32 (by first | assumption | omega) | exact tx_33 (by first | assumption | omega)) (by rfl) ?_
        refine z_iload h dX8_claimOf_17 rfl ?_
        refine y_iald h dX8_claimOf_19 hR (by first | assumption | exact Nat.le_of_ble_eq_true rfl) (by first | rfl | assumption | exact tx_2 (by first | assumption | omega) | exact tx_18 (by first | assumption | omega) | exact tx_19 (by first | assumption | omega) | exact tx_20 (by first | assumption | omega) | exact tx_27 (by first | assumption | omega) | exact tx_28 (by first | assumption | omega) | exact tx_30 (by first | assumption | omega) | exact tx_31 (by first | assumption | omega) | exact tx_32 (by first | assumption | omega) | exact tx_33 (by first | assumption | omega)) (by first | assumption | exact z_ixn (by omega) (by omega)) ?_
        refine z_if_eq h dX8_claimOf_20 44 (by decide) (fun c_2 => ?_) (fun c_2 => ?_)
        · skip
          refine z_iinc (v := 1) h dX8_claimOf_44 rfl (by decide) (by rw [hn]; decide) ?_
          refine z_goto h dX8_claimOf_47 6 (by decide) ?_
          refine z_loc [(0, vr (21, 0)), (1, vi ho), (2, vr (18, b)), (3, vi y), (4, vi (z_sum (fun k => c (19, b) k * (i_f (c (22, 0)) (c (23, 0)) (c (24, 0)) (c (25, 0)) (nI k) ho y nr).2) (i + 1))), (5, vi (nI (i + 1)))] ⟨rfl, rfl, rfl, rfl, by show some (vi (z_sum (fun k => c (19, b) k * (i_f (c (22, 0)) (c (23, 0)) (c (24, 0)) (c (25, 0)) (nI k) ho y nr).2) i)) = some (vi (z_sum (fun k => c (19, b) k * (i_f (c (22, 0)) (c (23, 0)) (c (24, 0)) (c (25, 0)) (nI k) ho y nr).2) i + c (19, b) i * _)); rw [c_2, Int32.zero_mul, Int32.add_zero], congrArg (fun z => some (vi z)) (z_up i), trivial⟩ ?_
          exact ih_6 (i + 1) (by omega) (by omega)
        · skip
          refine z_iload h dX8_claimOf_23 rfl ?_
          refine z_aload_n h dX8_claimOf_25 rfl ?_
          refine y_getr h dX8_claimOf_26 hR flX8_28 (by first | assumption | exact Nat.le_of_ble_eq_true rfl) (by first | rfl | assumption | exact tx_2 (by first | assumption | omega) | exact tx_18 (by first | assumption | omega) | exact tx_19 (by first | assumption | omega) | exact tx_20 (by first | assumption | omega) | exact tx_27 (by first | assumption | omega) | exact tx_28 (by first | assumption | omega) | exact tx_30 (by first | assumption | omega) | exact tx_31 (by first | assumption | omega) | exact tx_32 (by first | assumption | omega) | exact tx_33 (by first | assumption | omega)) (by rfl) ?_
          refine z_iload h dX8_claimOf_29 rfl ?_
          refine y_iald h dX8_claimOf_31 hR (by first | assumption | exact Nat.le_of_ble_eq_true rfl) (by first | rfl | assumption | exact tx_2 (by first | assumption | omega) | exact tx_18 (by first | assumption | omega) | exact tx_19 (by first | assumption | omega) | exact tx_20 (by first | assumption | omega) | exact tx_27 (by first | assumption | omega) | exact tx_28 (by first | assumption | omega) | exact tx_30 (by first | assumption | omega) | exact tx_31 (by first | assumption | omega) | exact tx_32 (by first | assumption | omega) | exact tx_33 (by first | assumption | omega)) (by first | assumption | exact z_ixn (by omega) (by omega)) ?_
          refine z_aload_n h dX8_claimOf_32 rfl ?_
          refine z_iload h dX8_claimOf_33 rfl ?_
          refine z_iload_n h dX8_claimOf_35 rfl ?_
          refine z_iload_n h dX8_claimOf_36 rfl ?_
          refine z_callV h dX8_claimOf_37 (fun _ _ q => z_okv_no he q) (fun _ _ _ t q => absurd q (he t)) (m_X8_inForce _ hR nr hc hnr (nI i) ho y) ym_X8_inForce mlX8_33 im_X8_inForce (ci := 8) rfl se_X8_inForce icX8 rfl (r_p.ob hR (by first | assumption | exact Nat.le_of_ble_eq_true rfl) (by first | rfl | assumption | exact tx_2 (by first | assumption | omega) | exact tx_18 (by first | assumption | omega) | exact tx_19 (by first | assumption | omega) | exact tx_20 (by first | assumption | omega) | exact tx_27 (by first | assumption | omega) | exact tx_28 (by first | assumption | omega) | exact tx_30 (by first | assumption | omega) | exact tx_31 (by first | assumption | omega) | exact tx_32 (by first | assumption | omega) | exact tx_33 (by first | assumption | omega))) rfl (by decide) (Nat.le_of_ble_eq_true rfl) ?_
          rintro q1 w1 ⟨rfl, rfl⟩
          refine z_imul h dX8_claimOf_40 ?_
          refine z_iadd h dX8_claimOf_41 ?_
          refine z_istore h dX8_claimOf_42 (by rw [hn]; decide) ?_
          refine z_iinc (v := 1) h dX8_claimOf_44 rfl (by decide) (by rw [hn]; decide) ?_
          refine z_goto h dX8_claimOf_47 6 (by decide) ?_
          refine z_loc [(0, vr (21, 0)), (1, vi ho), (2, vr (18, b)), (3, vi y), (4, vi (z_sum (fun k => c (19, b) k * (i_f (c (22, 0)) (c (23, 0)) (c (24, 0)) (c (25, 0)) (nI k) ho y nr).2) (i + 1))), (5, vi (nI (i + 1)))] ⟨rfl, rfl, rfl, rfl, rfl, congrArg (fun z => some (vi z)) (z_up i), trivial⟩ ?_
          exact ih_6 (i + 1) (by omega) (by omega)
  exact z_loc [(0, vr (21, 0)), (1, vi ho), (2, vr (18, b)), (3, vi y), (4, vi (z_sum (fun k => c (19, b) k * (i_f (c (22, 0)) (c (23, 0)) (c (24, 0)) (c (25, 0)) (nI k) ho y nr).2) 0)), (5, vi (nI 0))] ⟨rfl, rfl, rfl, rfl, rfl, rfl, trivial⟩ (loop_6 (12 + 1) 0 (by omega) (by omega))
set_option maxHeartbeats 4000000 in
set_option maxRecDepth 100000 in
theorem m_X4_hasRoom (G : z_G) {nb na np g : Nat} {w0 w : z_w} {c : r_c} {l : r_l} {r : r_r} (hR : r_p dX (TX nb na np g) w0 c l r w) (nl : Nat) (hc : c (29, 0) 5 = nI nl) (hnl : nl ≤ 4096) : z_M G yX4_hasRoom cX4_hasRoom 1 (some .boolean) 1 (0) (0) [vr (29, 0)] w (fun q w1 => q = some (vi (z_b (nl + 8 ≤ 4096))) ∧ w1 = w) := by
  refine z_met ym_X4_hasRoom (by decide) ⟨Nat.le_of_ble_eq_true rfl, Nat.le_of_ble_eq_true rfl⟩ (fun X hG hn hmc hms hin h hr => ?_)
  have he := hr.2.2.2.2.2.1
  refine z_aload_n h dX4_hasRoom_0 rfl ?_
  refine y_geti h dX4_hasRoom_1 hR flX4_27 (by first | assumption | exact Nat.le_of_ble_eq_true rfl) (by first | rfl | assumption | exact tx_2 (by first | assumption | omega) | exact tx_18 (by first | assumption | omega) | exact tx_19 (by first | assumption | omega) | exact tx_20 (by first | assumption | omega) | exact tx_27 (by first | assumption | omega) | exact tx_28 (by first | assumption | omega) | exact tx_30 (by first | assumption | omega) | exact tx_31 (by first | assumption | omega) | exact tx_32 (by first | assumption | omega) | exact tx_33 (by first | assumption | omega)) (by rfl) ?_
  refine z_bipush (v := 8) h dX4_hasRoom_4 (by decide) ?_
  refine z_iadd h dX4_hasRoom_6 ?_
  rw [hc, show (8 : Int32) = nI 8 from rfl, nI_add]
  refine z_sipush (v := 4096) h dX4_hasRoom_7 (by decide) ?_
  refine z_icmp_gt h dX4_hasRoom_10 17 (by decide) (fun c_1 => ?_) (fun c_1 => ?_)
  · skip
    refine z_iconst (v := 0) h dX4_hasRoom_17 (by decide) ?_
    exact z_zret h dX4_hasRoom_18 hr rfl (⟨z_ret0 (by have := mt (nI_leI (a := nl + 8) (b := 4096) (by omega) (by omega)).mpr (Int32.not_le.mpr c_1); omega), rfl⟩)
  · skip
    refine z_iconst (v := 1) h dX4_hasRoom_13 (by decide) ?_
    refine z_goto h dX4_hasRoom_14 18 (by decide) ?_
    exact z_zret h dX4_hasRoom_18 hr rfl (⟨z_ret1 ((nI_leI (a := nl + 8) (b := 4096) (by omega) (by omega)).mp (Int32.not_lt.mp c_1)), rfl⟩)
set_option maxHeartbeats 4000000 in
set_option maxRecDepth 100000 in
theorem m_J7_copyOf_59c91 (G : z_G) (w : z_w) (t u : z_T) (n m : Nat) (f : Nat → Int32) (hw : w t = some (z_ia n f)) (hu : w u = none) (hnm : n < m) (hm : m < 60000000) : z_M G yJ7_copyOf_59c91 cJ7_copyOf_59c91 3 (some (.array .int)) 2 (1) (m) [vr t, vi (nI m)] w (fun q w1 => q = some (vr u) ∧ w1 = z_set w u (z_ia m (fun k => if k < n then f k else 0))) := by
  refine z_met ym_J7_copyOf_59c91 (by decide) ⟨Nat.le_of_ble_eq_true rfl, Nat.le_of_ble_eq_true rfl⟩ (fun X hG hn hmc hms hin h hr => ?_)
  have he := hr.2.2.2.2.2.1
  have htu : t ≠ u := fun e => by rw [e, hu] at hw; cases hw
  refine z_less (kC' := 0 + 1) (kS' := 0 + m) (by omega) (by omega) ?_
  refine z_iload_n h dJ7_copyOf_59c91_0 rfl ?_
  refine z_aload_n h dJ7_copyOf_59c91_1 rfl ?_
  refine z_alen h dJ7_copyOf_59c91_2 (by first | assumption | rfl | (repeat (first | exact z_set_self _ _ _ | assumption | refine z_skip rfl ?_))) (by decide) ?_
  refine z_icmp_ne h dJ7_copyOf_59c91_3 14 (by decide) (fun c_1 => ?_) (fun c_1 => ?_)
  · skip
    refine z_iload_n h dJ7_copyOf_59c91_14 rfl ?_
    refine z_newarr h dJ7_copyOf_59c91_15 he 0 (.inl (fun _ => 0)) ⟨by decide, rfl, ac_int, fun _ _ _ => ⟨(_, .inl (fun _ => 0)), rfl, rfl⟩⟩ trivial rfl hm u hu ?_
    refine z_astore_n h dJ7_copyOf_59c91_17 (by rw [hn]; decide) ?_
    refine z_aload_n h dJ7_copyOf_59c91_18 rfl ?_
    refine z_iconst (v := 0) h dJ7_copyOf_59c91_19 (by decide) ?_
    refine z_aload_n h dJ7_copyOf_59c91_20 rfl ?_
    refine z_iconst (v := 0) h dJ7_copyOf_59c91_21 (by decide) ?_
    refine z_aload_n h dJ7_copyOf_59c91_22 rfl ?_
    refine z_alen h dJ7_copyOf_59c91_23 (by rw [z_set_ne htu]; exact hw) (by decide) ?_
    refine z_iload_n h dJ7_copyOf_59c91_24 rfl ?_
    refine z_min h dJ7_copyOf_59c91_25 mlJ7_304 sm_Mmin ic_Math co_Mmin (Nat.le_of_ble_eq_true rfl) ?_
    refine z_toe (y := nI n) (by show (if nI m < nI n then nI m else nI n) = nI n; exact if_neg (fun q => by have := (nI_ltI (by omega) (by omega)).mp q; omega)) ?_
    refine z_copy (sp := 0) (dp := 0) h dJ7_copyOf_59c91_28 mlJ7_150 na_Acopy sm_Acopy ic_System (by rw [z_set_ne htu]; exact hw) (z_set_self _ _ _) (by omega) (Nat.le_of_ble_eq_true rfl) ?_
    refine z_aload_n h dJ7_copyOf_59c91_31 rfl ?_
    exact z_aret h dJ7_copyOf_59c91_32 hr (Or.inr ⟨_, rfl⟩) (⟨rfl, by rw [z_set_set]; congr 1; refine congrArg (fun f => z_ia m f) ?_; funext k; simp [va_cpy]⟩)
  · skip
    exact absurd ((nI_eq (by omega) (by omega)).mp c_1) (by omega)
theorem tx_g {nb na np g : Nat} {q : z_T} (h0 : q ≠ (29, 0)) (h1 : q ≠ (30, g + 1)) (h2 : q ≠ (31, g + 1)) (h3 : q ≠ (32, g + 1)) (h4 : q ≠ (33, g + 1)) : TX nb na np (g + 1) q = TX nb na np g q := by
  obtain ⟨k, i⟩ := q
  by_cases e : k = 29
  · subst e
    have hi : i ≠ 0 := fun z => h0 (by rw [z])
    have hb : Nat.beq i 0 = false := by rw [z_beq]; simpa using hi
    show (bif Nat.beq i 0 then _ else _) = (bif Nat.beq i 0 then _ else _)
    rw [hb]; rfl
  · by_cases e2 : 30 ≤ k ∧ k ≤ 33
    · have hi : i ≠ g + 1 := fun z => by
        subst z
        rcases (show k = 30 ∨ k = 31 ∨ k = 32 ∨ k = 33 by omega) with rfl | rfl | rfl | rfl
        · exact h1 rfl
        · exact h2 rfl
        · exact h3 rfl
        · exact h4 rfl
      have hb : Nat.ble i (g + 1) = Nat.ble i g := by
        by_cases hl : i ≤ g
        · rw [Nat.ble_eq_true_of_le hl, Nat.ble_eq_true_of_le (show i ≤ g + 1 by omega)]
        · rw [ble_false (show g < i by omega), ble_false (show g + 1 < i by omega)]
      rcases (show k = 30 ∨ k = 31 ∨ k = 32 ∨ k = 33 by omega) with rfl | rfl | rfl | rfl <;>
      · show (bif Nat.ble i (g + 1) then _ else _) = (bif Nat.ble i g then _ else _)
        rw [hb]
    · have b29 : Nat.beq k 29 = false := by rw [z_beq]; simpa using e
      have b30 : (Nat.ble 30 k && Nat.ble k 33) = false := by
        by_cases hk : 30 ≤ k
        · rw [ble_false (show 33 < k by omega)]; simp
        · rw [ble_false (show k < 30 by omega)]; rfl
      unfold TX
      simp only [b29, b30]
      rfl
def lg_e (n : Nat) (f : Nat → Int32) : Nat → Int32 := fun k => if k < n then f k else 0
def lg_c (c : r_c) (g : Nat) : r_c := r_cf (r_cf (r_cf (r_cf c (30, g + 1) (lg_e (64 * 2 ^ g) (c (30, g)))) (31, g + 1) (lg_e (64 * 2 ^ g) (c (31, g)))) (32, g + 1) (lg_e (64 * 2 ^ g) (c (32, g)))) (33, g + 1) (lg_e (64 * 2 ^ g) (c (33, g)))
theorem lg_new {nb na np g : Nat} {w0 w W : z_w} {c : r_c} {l : r_l} {r : r_r} (hR : r_p dX (TX nb na np g) w0 c l r w) (n : Nat) (hn : n = 64 * 2 ^ (g + 1))
    (a29 : W (29, 0) = some (z_ob 4 [vr (30, g + 1), vr (31, g + 1), vr (32, g + 1), vr (33, g + 1), vr (34, 0), vi (c (29, 0) 5)])) (a30 : W (30, g + 1) = some (z_ia n (lg_e (64 * 2 ^ g) (c (30, g))))) (a31 : W (31, g + 1) = some (z_ia n (lg_e (64 * 2 ^ g) (c (31, g))))) (a32 : W (32, g + 1) = some (z_ia n (lg_e (64 * 2 ^ g) (c (32, g))))) (a33 : W (33, g + 1) = some (z_ia n (lg_e (64 * 2 ^ g) (c (33, g)))))
    (hf : z_fr [(29, 0), (30, g + 1), (31, g + 1), (32, g + 1), (33, g + 1)] w W) : r_p dX (TX nb na np (g + 1)) w0 (lg_c c g) l r W := by
  subst hn
  refine ⟨fun q hq => ?_, fun q hq => ?_⟩
  · by_cases e0 : q = (29, 0)
    · subst e0; rw [a29]; rfl
    · by_cases e1 : q = (30, g + 1)
      · subst e1; rw [a30, tx_30 (Nat.le_refl _)]
        show some (z_ia _ _) = some (z_ia _ (lg_c c g (30, g + 1)))
        unfold lg_c
        rw [r_cf_ne (by simp), r_cf_ne (by simp), r_cf_ne (by simp), r_cf_self]
      · by_cases e2 : q = (31, g + 1)
        · subst e2; rw [a31, tx_31 (Nat.le_refl _)]
          show some (z_ia _ _) = some (z_ia _ (lg_c c g (31, g + 1)))
          unfold lg_c
          rw [r_cf_ne (by simp), r_cf_ne (by simp), r_cf_self]
        · by_cases e3 : q = (32, g + 1)
          · subst e3; rw [a32, tx_32 (Nat.le_refl _)]
            show some (z_ia _ _) = some (z_ia _ (lg_c c g (32, g + 1)))
            unfold lg_c
            rw [r_cf_ne (by simp), r_cf_self]
          · by_cases e4 : q = (33, g + 1)
            · subst e4; rw [a33, tx_33 (Nat.le_refl _)]
              show some (z_ia _ _) = some (z_ia _ (lg_c c g (33, g + 1)))
              unfold lg_c
              rw [r_cf_self]
            · rw [hf q (by simp [e0, e1, e2, e3, e4]), hR.1 q hq, tx_g e0 e1 e2 e3 e4]
              unfold lg_c
              rw [r_cf_ne e4, r_cf_ne e3, r_cf_ne e2, r_cf_ne e1]
  · have hne : ∀ k i, k < 100 → q ≠ (k, i) := fun k i hk e => hq (by rw [e]; exact hk)
    rw [hf q (by simp [hne 29 0 (by decide), hne 30 _ (by decide), hne 31 _ (by decide), hne 32 _ (by decide), hne 33 _ (by decide)]), hR.2 q hq]
theorem tx_free {nb na np g k : Nat} (hk : 30 ≤ k ∧ k ≤ 33) : TX nb na np g (k, g + 1) = none := by
  rcases (show k = 30 ∨ k = 31 ∨ k = 32 ∨ k = 33 by omega) with rfl | rfl | rfl | rfl <;>
  · show (bif Nat.ble (g + 1) g then _ else _) = _
    rw [ble_false (by omega)]
    rfl
set_option maxHeartbeats 4000000 in
set_option maxRecDepth 100000 in
theorem m_X4_grow (G : z_G) {nb na np g : Nat} {w0 w : z_w} {c : r_c} {l : r_l} {r : r_r} (hR : r_p dX (TX nb na np g) w0 c l r w) (hg : g < 6) : z_M G yX4_grow cX4_grow 2 none 3 (4) (8 * (64 * 2 ^ g)) [vr (29, 0)] w (fun q w1 => q = none ∧ r_p dX (TX nb na np (g + 1)) w0 (lg_c c g) (l) (r) w1) := by
  refine z_met ym_X4_grow (by decide) ⟨Nat.le_of_ble_eq_true rfl, Nat.le_of_ble_eq_true rfl⟩ (fun X hG hn hmc hms hin h hr => ?_)
  have he := hr.2.2.2.2.2.1
  have hN : 64 * 2 ^ g ≤ 2048 := by
    have h5 : 2 ^ g ≤ 2 ^ 5 := Nat.pow_le_pow_right (by omega) (by omega)
    omega
  have hN1 : 0 < 2 ^ g := Nat.pow_pos (by omega)
  have w29 : w (29, 0) = some (z_ob 4 [vr (30, g), vr (31, g), vr (32, g), vr (33, g), vr (34, 0), vi (c (29, 0) 5)]) := hR.ob (sp := [some (30, g), some (31, g), some (32, g), some (33, g), some (34, 0), none]) (Nat.le_of_ble_eq_true rfl) rfl
  have w30 : w (30, g) = some (z_ia (64 * 2 ^ g) (c (30, g))) := hR.ia (Nat.le_of_ble_eq_true rfl) (tx_30 (Nat.le_refl g))
  have w31 : w (31, g) = some (z_ia (64 * 2 ^ g) (c (31, g))) := hR.ia (Nat.le_of_ble_eq_true rfl) (tx_31 (Nat.le_refl g))
  have w32 : w (32, g) = some (z_ia (64 * 2 ^ g) (c (32, g))) := hR.ia (Nat.le_of_ble_eq_true rfl) (tx_32 (Nat.le_refl g))
  have w33 : w (33, g) = some (z_ia (64 * 2 ^ g) (c (33, g))) := hR.ia (Nat.le_of_ble_eq_true rfl) (tx_33 (Nat.le_refl g))
  have f30 : w (30, g + 1) = none := hR.free (Nat.le_of_ble_eq_true rfl) (tx_free (by omega))
  have f31 : w (31, g + 1) = none := hR.free (Nat.le_of_ble_eq_true rfl) (tx_free (by omega))
  have f32 : w (32, g + 1) = none := hR.free (Nat.le_of_ble_eq_true rfl) (tx_free (by omega))
  have f33 : w (33, g + 1) = none := hR.free (Nat.le_of_ble_eq_true rfl) (tx_free (by omega))
  refine z_less (kC' := 0 + 1 + 1 + 1 + 1) (kS' := 0 + 2 * (64 * 2 ^ g) + 2 * (64 * 2 ^ g) + 2 * (64 * 2 ^ g) + 2 * (64 * 2 ^ g)) (by omega) (by omega) ?_
  refine z_sipush (v := 4096) h dX4_grow_0 (by decide) ?_
  refine z_iconst (v := 2) h dX4_grow_3 (by decide) ?_
  refine z_aload_n h dX4_grow_4 rfl ?_
  refine z_get h dX4_grow_5 flX4_9 (by first | assumption | rfl | (repeat (first | exact z_set_self _ _ _ | assumption | refine z_skip rfl ?_))) rfl ?_
  refine z_alen h dX4_grow_8 (by first | assumption | rfl | (repeat (first | exact z_set_self _ _ _ | assumption | refine z_skip rfl ?_))) (by decide) ?_
  refine z_toe (x := nI (64 * 2 ^ g)) (y := nI (64 * 2 ^ g)) rfl ?_
  refine z_imul h dX4_grow_9 ?_
  refine z_min h dX4_grow_10 mlX4_34 sm_Mmin ic_Math co_Mmin (Nat.le_of_ble_eq_true rfl) ?_
  refine z_toe (y := nI (2 * (64 * 2 ^ g))) (by rw [show (2 : Int32) = nI 2 from rfl, show (4096 : Int32) = nI 4096 from rfl, pk_mul]; by_cases hz : 2 * (64 * 2 ^ g) < 4096; exact if_pos ((nI_ltI (by omega) (by omega)).mpr hz); rw [if_neg (fun q => hz ((nI_ltI (by omega) (by omega)).mp q)), show 4096 = 2 * (64 * 2 ^ g) by omega]) ?_
  refine z_istore_n h dX4_grow_13 (by rw [hn]; decide) ?_
  refine z_iload_n h dX4_grow_14 rfl ?_
  refine z_aload_n h dX4_grow_15 rfl ?_
  refine z_get h dX4_grow_16 flX4_9 (by first | assumption | rfl | (repeat (first | exact z_set_self _ _ _ | assumption | refine z_skip rfl ?_))) rfl ?_
  refine z_alen h dX4_grow_19 (by first | assumption | rfl | (repeat (first | exact z_set_self _ _ _ | assumption | refine z_skip rfl ?_))) (by decide) ?_
  refine z_icmp_le h dX4_grow_20 71 (by decide) (fun c_1 => ?_) (fun c_1 => ?_)
  · skip
    exact absurd ((nI_leI (by omega) (by omega)).mp c_1) (by omega)
  · skip
    refine z_aload_n h dX4_grow_23 rfl ?_
    refine z_aload_n h dX4_grow_24 rfl ?_
    refine z_get h dX4_grow_25 flX4_9 (by first | assumption | rfl | (repeat (first | exact z_set_self _ _ _ | assumption | refine z_skip rfl ?_))) rfl ?_
    refine z_iload_n h dX4_grow_28 rfl ?_
    refine z_callS h dX4_grow_29 (fun _ _ q => z_okv_no he q) (fun _ _ _ t q => absurd q (he t)) (m_J7_copyOf_59c91 _ _ (30, g) (30, g + 1) (64 * 2 ^ g) (2 * (64 * 2 ^ g)) (c (30, g)) (by repeat (first | assumption | refine z_skip rfl ?_)) (by repeat (first | assumption | refine z_skip rfl ?_)) (by omega) (by omega)) ym_J7_copyOf_59c91 mlX4_40 sm_J7_copyOf_59c91 rfl (by decide) (Nat.le_of_ble_eq_true rfl) ?_
    rintro q1 w1 ⟨rfl, rfl⟩
    refine z_put h dX4_grow_32 he flX4_9 (by first | assumption | rfl | (repeat (first | exact z_set_self _ _ _ | assumption | refine z_skip rfl ?_))) (Nat.le_of_ble_eq_true rfl) (z_fit_r (Or.inr ⟨_, rfl⟩) _) ?_
    refine z_aload_n h dX4_grow_35 rfl ?_
    refine z_aload_n h dX4_grow_36 rfl ?_
    refine z_get h dX4_grow_37 flX4_15 (by first | assumption | rfl | (repeat (first | exact z_set_self _ _ _ | assumption | refine z_skip rfl ?_))) rfl ?_
    refine z_iload_n h dX4_grow_40 rfl ?_
    refine z_callS h dX4_grow_41 (fun _ _ q => z_okv_no he q) (fun _ _ _ t q => absurd q (he t)) (m_J7_copyOf_59c91 _ _ (31, g) (31, g + 1) (64 * 2 ^ g) (2 * (64 * 2 ^ g)) (c (31, g)) (by repeat (first | assumption | refine z_skip rfl ?_)) (by repeat (first | assumption | refine z_skip rfl ?_)) (by omega) (by omega)) ym_J7_copyOf_59c91 mlX4_40 sm_J7_copyOf_59c91 rfl (by decide) (Nat.le_of_ble_eq_true rfl) ?_
    rintro q1 w1 ⟨rfl, rfl⟩
    refine z_put h dX4_grow_44 he flX4_15 (by first | assumption | rfl | (repeat (first | exact z_set_self _ _ _ | assumption | refine z_skip rfl ?_))) (Nat.le_of_ble_eq_true rfl) (z_fit_r (Or.inr ⟨_, rfl⟩) _) ?_
    refine z_aload_n h dX4_grow_47 rfl ?_
    refine z_aload_n h dX4_grow_48 rfl ?_
    refine z_get h dX4_grow_49 flX4_18 (by first | assumption | rfl | (repeat (first | exact z_set_self _ _ _ | assumption | refine z_skip rfl ?_))) rfl ?_
    refine z_iload_n h dX4_grow_52 rfl ?_
    refine z_callS h dX4_grow_53 (fun _ _ q => z_okv_no he q) (fun _ _ _ t q => absurd q (he t)) (m_J7_copyOf_59c91 _ _ (32, g) (32, g + 1) (64 * 2 ^ g) (2 * (64 * 2 ^ g)) (c (32, g)) (by repeat (first | assumption | refine z_skip rfl ?_)) (by repeat (first | assumption | refine z_skip rfl ?_)) (by omega) (by omega)) ym_J7_copyOf_59c91 mlX4_40 sm_J7_copyOf_59c91 rfl (by decide) (Nat.le_of_ble_eq_true rfl) ?_
    rintro q1 w1 ⟨rfl, rfl⟩
    refine z_put h dX4_grow_56 he flX4_18 (by first | assumption | rfl | (repeat (first | exact z_set_self _ _ _ | assumption | refine z_skip rfl ?_))) (Nat.le_of_ble_eq_true rfl) (z_fit_r (Or.inr ⟨_, rfl⟩) _) ?_
    refine z_aload_n h dX4_grow_59 rfl ?_
    refine z_aload_n h dX4_grow_60 rfl ?_
    refine z_get h dX4_grow_61 flX4_21 (by first | assumption | rfl | (repeat (first | exact z_set_self _ _ _ | assumption | refine z_skip rfl ?_))) rfl ?_
    refine z_iload_n h dX4_grow_64 rfl ?_
    refine z_callS h dX4_grow_65 (fun _ _ q => z_okv_no he q) (fun _ _ _ t q => absurd q (he t)) (m_J7_copyOf_59c91 _ _ (33, g) (33, g + 1) (64 * 2 ^ g) (2 * (64 * 2 ^ g)) (c (33, g)) (by repeat (first | assumption | refine z_skip rfl ?_)) (by repeat (first | assumption | refine z_skip rfl ?_)) (by omega) (by omega)) ym_J7_copyOf_59c91 mlX4_40 sm_J7_copyOf_59c91 rfl (by decide) (Nat.le_of_ble_eq_true rfl) ?_
    rintro q1 w1 ⟨rfl, rfl⟩
    refine z_put h dX4_grow_68 he flX4_21 (by first | assumption | rfl | (repeat (first | exact z_set_self _ _ _ | assumption | refine z_skip rfl ?_))) (Nat.le_of_ble_eq_true rfl) (z_fit_r (Or.inr ⟨_, rfl⟩) _) ?_
    exact z_vret h dX4_grow_71 hr (⟨rfl, lg_new hR (2 * (64 * 2 ^ g)) (by rw [Nat.pow_succ]; omega) (z_set_self _ _ _) (by repeat (first | exact z_set_self _ _ _ | refine z_skip rfl ?_)) (by repeat (first | exact z_set_self _ _ _ | refine z_skip rfl ?_)) (by repeat (first | exact z_set_self _ _ _ | refine z_skip rfl ?_)) (by repeat (first | exact z_set_self _ _ _ | refine z_skip rfl ?_)) ((((((((z_fr.rf.set (by simp)).set (by simp)).set (by simp)).set (by simp)).set (by simp)).set (by simp)).set (by simp)).set (by simp))⟩)
/-- a line more: from c (nl lines, generation g) to c1 (generation g1) -/
def LG (c : r_c) (g nl h : Nat) (y p a : Int32) (c1 : r_c) (g1 : Nat) : Prop :=
  g1 = (if nl < 64 * 2 ^ g then g else g + 1) ∧ (∀ k, k < nl → c1 (30, g1) k = c (30, g) k ∧ c1 (31, g1) k = c (31, g) k ∧ c1 (32, g1) k = c (32, g) k ∧ c1 (33, g1) k = c (33, g) k) ∧
  c1 (30, g1) nl = y ∧ c1 (31, g1) nl = p ∧ c1 (32, g1) nl = nI h ∧ c1 (33, g1) nl = a ∧ c1 (34, 0) = upd (c (34, 0)) h (c (34, 0) h + a) ∧ c1 (29, 0) 5 = nI (nl + 1) ∧ ∀ t, ¬ (29 ≤ t.1 ∧ t.1 ≤ 34) → c1 t = c t
theorem lg_pow {g nl : Nat} (h : ¬ nl < 64 * 2 ^ g) (h2 : nl < 4096) : g < 6 := by
  rcases Nat.lt_or_ge g 6 with q | q
  · exact q
  · have h5 : 2 ^ 6 ≤ 2 ^ g := Nat.pow_le_pow_right (by omega) q
    omega
set_option maxHeartbeats 4000000 in
set_option maxRecDepth 100000 in
theorem m_X4_write (G : z_G) {nb na np g : Nat} {w0 w : z_w} {c : r_c} {l : r_l} {r : r_r} (hR : r_p dX (TX nb na np g) w0 c l r w) (nl h_ : Nat) (hc : c (29, 0) 5 = nI nl) (hnl : nl ≤ 64 * 2 ^ g) (hnl4 : nl < 4096) (hg6 : g ≤ 6) (hh : h_ < 8) (y p a : Int32) : z_M G yX4_write cX4_write 5 none 4 (if nl < 64 * 2 ^ g then 0 else 4) (if nl < 64 * 2 ^ g then 0 else 8 * (64 * 2 ^ g)) [vr (29, 0), vi y, vi p, vi (nI h_), vi a] w (fun q w1 => q = none ∧ ∃ g1 c1, r_p dX (TX nb na np g1) w0 (c1) (l) (r) w1 ∧ LG c g nl h_ y p a c1 g1) := by
  refine z_met ym_X4_write (by decide) ⟨Nat.le_of_ble_eq_true rfl, Nat.le_of_ble_eq_true rfl⟩ (fun X hG hn hmc hms hin h hr => ?_)
  have he := hr.2.2.2.2.2.1
  have hgb : 2 ^ g ≤ 2 ^ 6 := Nat.pow_le_pow_right (by omega) hg6
  have hgp : 0 < 2 ^ g := Nat.pow_pos (by omega)
  have join_16 : ∀ (g1 : Nat) (w1 : z_w) (c1 : r_c), r_p dX (TX nb na np g1) w0 (c1) (l) (r) w1 → c1 (29, 0) 5 = nI nl → nl < 64 * 2 ^ g1 → g1 = (if nl < 64 * 2 ^ g then g else g + 1) → (∀ k, k < nl → c1 (30, g1) k = c (30, g) k ∧ c1 (31, g1) k = c (31, g) k ∧ c1 (32, g1) k = c (32, g) k ∧ c1 (33, g1) k = c (33, g) k) → (∀ t, ¬ (30 ≤ t.1 ∧ t.1 ≤ 33) → c1 t = c t) → z_V X 0 0 w1 16 [(0, vr (29, 0)), (1, vi y), (2, vi p), (3, vi (nI h_)), (4, vi a)] [] := by
    intro g w c1 hR j5 hcap hg1 hkeep hfrm
    have hN1 : 0 < 2 ^ g := Nat.pow_pos (by omega)
    have hgq : g ≤ 6 := by
      rw [hg1]
      split
      · exact hg6
      · rename_i q
        have := lg_pow q hnl4
        omega
    have hgb1 : 2 ^ g ≤ 2 ^ 6 := Nat.pow_le_pow_right (by omega) hgq
    refine z_aload_n h dX4_write_16 rfl ?_
    refine y_geti h dX4_write_17 hR flX4_27 (by first | assumption | exact Nat.le_of_ble_eq_true rfl) (by first | rfl | assumption | exact tx_2 (by first | assumption | omega) | exact tx_18 (by first | assumption | omega) | exact tx_19 (by first | assumption | omega) | exact tx_20 (by first | assumption | omega) | exact tx_27 (by first | assumption | omega) | exact tx_28 (by first | assumption | omega) | exact tx_30 (by first | assumption | omega) | exact tx_31 (by first | assumption | omega) | exact tx_32 (by first | assumption | omega) | exact tx_33 (by first | assumption | omega)) (by rfl) ?_
    rw [j5]
    refine z_aload_n h dX4_write_20 rfl ?_
    refine y_getr h dX4_write_21 hR flX4_9 (by first | assumption | exact Nat.le_of_ble_eq_true rfl) (by first | rfl | assumption | exact tx_2 (by first | assumption | omega) | exact tx_18 (by first | assumption | omega) | exact tx_19 (by first | assumption | omega) | exact tx_20 (by first | assumption | omega) | exact tx_27 (by first | assumption | omega) | exact tx_28 (by first | assumption | omega) | exact tx_30 (by first | assumption | omega) | exact tx_31 (by first | assumption | omega) | exact tx_32 (by first | assumption | omega) | exact tx_33 (by first | assumption | omega)) (by rfl) ?_
    refine y_len h dX4_write_24 hR (by first | assumption | exact Nat.le_of_ble_eq_true rfl) (by first | rfl | assumption | exact tx_2 (by first | assumption | omega) | exact tx_18 (by first | assumption | omega) | exact tx_19 (by first | assumption | omega) | exact tx_20 (by first | assumption | omega) | exact tx_27 (by first | assumption | omega) | exact tx_28 (by first | assumption | omega) | exact tx_30 (by first | assumption | omega) | exact tx_31 (by first | assumption | omega) | exact tx_32 (by first | assumption | omega) | exact tx_33 (by first | assumption | omega)) (by rfl) ?_
    refine z_icmp_ge h dX4_write_25 41 (by decide) (fun c_2 => ?_) (fun c_2 => ?_)
    · skip
      exact absurd ((nI_leI (by omega) (by omega)).mp c_2) (by omega)
    · skip
      refine z_iload_n h dX4_write_28 rfl ?_
      refine z_if_lt h dX4_write_29 41 (by decide) (fun c_3 => ?_) (fun c_3 => ?_)
      · skip
        exact absurd c_3 (nI_pos (by omega))
      · skip
        refine z_iload_n h dX4_write_32 rfl ?_
        refine z_aload_n h dX4_write_33 rfl ?_
        refine y_getr h dX4_write_34 hR flX4_24 (by first | assumption | exact Nat.le_of_ble_eq_true rfl) (by first | rfl | assumption | exact tx_2 (by first | assumption | omega) | exact tx_18 (by first | assumption | omega) | exact tx_19 (by first | assumption | omega) | exact tx_20 (by first | assumption | omega) | exact tx_27 (by first | assumption | omega) | exact tx_28 (by first | assumption | omega) | exact tx_30 (by first | assumption | omega) | exact tx_31 (by first | assumption | omega) | exact tx_32 (by first | assumption | omega) | exact tx_33 (by first | assumption | omega)) (by rfl) ?_
        refine y_len h dX4_write_37 hR (by first | assumption | exact Nat.le_of_ble_eq_true rfl) (by first | rfl | assumption | exact tx_2 (by first | assumption | omega) | exact tx_18 (by first | assumption | omega) | exact tx_19 (by first | assumption | omega) | exact tx_20 (by first | assumption | omega) | exact tx_27 (by first | assumption | omega) | exact tx_28 (by first | assumption | omega) | exact tx_30 (by first | assumption | omega) | exact tx_31 (by first | assumption | omega) | exact tx_32 (by first | assumption | omega) | exact tx_33 (by first | assumption | omega)) (by rfl) ?_
        refine z_icmp_lt h dX4_write_38 42 (by decide) (fun c_4 => ?_) (fun c_4 => ?_)
        · skip
          refine z_aload_n h dX4_write_42 rfl ?_
          refine y_getr h dX4_write_43 hR flX4_9 (by first | assumption | exact Nat.le_of_ble_eq_true rfl) (by first | rfl | assumption | exact tx_2 (by first | assumption | omega) | exact tx_18 (by first | assumption | omega) | exact tx_19 (by first | assumption | omega) | exact tx_20 (by first | assumption | omega) | exact tx_27 (by first | assumption | omega) | exact tx_28 (by first | assumption | omega) | exact tx_30 (by first | assumption | omega) | exact tx_31 (by first | assumption | omega) | exact tx_32 (by first | assumption | omega) | exact tx_33 (by first | assumption | omega)) (by rfl) ?_
          refine z_aload_n h dX4_write_46 rfl ?_
          refine y_geti h dX4_write_47 hR flX4_27 (by first | assumption | exact Nat.le_of_ble_eq_true rfl) (by first | rfl | assumption | exact tx_2 (by first | assumption | omega) | exact tx_18 (by first | assumption | omega) | exact tx_19 (by first | assumption | omega) | exact tx_20 (by first | assumption | omega) | exact tx_27 (by first | assumption | omega) | exact tx_28 (by first | assumption | omega) | exact tx_30 (by first | assumption | omega) | exact tx_31 (by first | assumption | omega) | exact tx_32 (by first | assumption | omega) | exact tx_33 (by first | assumption | omega)) (by rfl) ?_
          refine z_iload_n h dX4_write_50 rfl ?_
          refine y_iast h dX4_write_51 hR (by first | assumption | exact Nat.le_of_ble_eq_true rfl) (by first | rfl | assumption | exact tx_2 (by first | assumption | omega) | exact tx_18 (by first | assumption | omega) | exact tx_19 (by first | assumption | omega) | exact tx_20 (by first | assumption | omega) | exact tx_27 (by first | assumption | omega) | exact tx_28 (by first | assumption | omega) | exact tx_30 (by first | assumption | omega) | exact tx_31 (by first | assumption | omega) | exact tx_32 (by first | assumption | omega) | exact tx_33 (by first | assumption | omega)) (z_ixe (show _ = nI nl from j5) (by omega) (by have := hcap; omega)) (fun w hR => ?_)
          refine z_aload_n h dX4_write_52 rfl ?_
          refine y_getr h dX4_write_53 hR flX4_15 (by first | assumption | exact Nat.le_of_ble_eq_true rfl) (by first | rfl | assumption | exact tx_2 (by first | assumption | omega) | exact tx_18 (by first | assumption | omega) | exact tx_19 (by first | assumption | omega) | exact tx_20 (by first | assumption | omega) | exact tx_27 (by first | assumption | omega) | exact tx_28 (by first | assumption | omega) | exact tx_30 (by first | assumption | omega) | exact tx_31 (by first | assumption | omega) | exact tx_32 (by first | assumption | omega) | exact tx_33 (by first | assumption | omega)) (by rfl) ?_
          refine z_aload_n h dX4_write_56 rfl ?_
          refine y_geti h dX4_write_57 hR flX4_27 (by first | assumption | exact Nat.le_of_ble_eq_true rfl) (by first | rfl | assumption | exact tx_2 (by first | assumption | omega) | exact tx_18 (by first | assumption | omega) | exact tx_19 (by first | assumption | omega) | exact tx_20 (by first | assumption | omega) | exact tx_27 (by first | assumption | omega) | exact tx_28 (by first | assumption | omega) | exact tx_30 (by first | assumption | omega) | exact tx_31 (by first | assumption | omega) | exact tx_32 (by first | assumption | omega) | exact tx_33 (by first | assumption | omega)) (by rfl) ?_
          refine z_iload_n h dX4_write_60 rfl ?_
          refine y_iast h dX4_write_61 hR (by first | assumption | exact Nat.le_of_ble_eq_true rfl) (by first | rfl | assumption | exact tx_2 (by first | assumption | omega) | exact tx_18 (by first | assumption | omega) | exact tx_19 (by first | assumption | omega) | exact tx_20 (by first | assumption | omega) | exact tx_27 (by first | assumption | omega) | exact tx_28 (by first | assumption | omega) | exact tx_30 (by first | assumption | omega) | exact tx_31 (by first | assumption | omega) | exact tx_32 (by first | assumption | omega) | exact tx_33 (by first | assumption | omega)) (z_ixe (show _ = nI nl from j5) (by omega) (by have := hcap; omega)) (fun w hR => ?_)
          refine z_aload_n h dX4_write_62 rfl ?_
          refine y_getr h dX4_write_63 hR flX4_18 (by first | assumption | exact Nat.le_of_ble_eq_true rfl) (by first | rfl | assumption | exact tx_2 (by first | assumption | omega) | exact tx_18 (by first | assumption | omega) | exact tx_19 (by first | assumption | omega) | exact tx_20 (by first | assumption | omega) | exact tx_27 (by first | assumption | omega) | exact tx_28 (by first | assumption | omega) | exact tx_30 (by first | assumption | omega) | exact tx_31 (by first | assumption | omega) | exact tx_32 (by first | assumption | omega) | exact tx_33 (by first | assumption | omega)) (by rfl) ?_
          refine z_aload_n h dX4_write_66 rfl ?_
          refine y_geti h dX4_write_67 hR flX4_27 (by first | assumption | exact Nat.le_of_ble_eq_true rfl) (by first | rfl | assumption | exact tx_2 (by first | assumption | omega) | exact tx_18 (by first | assumption | omega) | exact tx_19 (by first | assumption | omega) | exact tx_20 (by first | assumption | omega) | exact tx_27 (by first | assumption | omega) | exact tx_28 (by first | assumption | omega) | exact tx_30 (by first | assumption | omega) | exact tx_31 (by first | assumption | omega) | exact tx_32 (by first | assumption | omega) | exact tx_33 (by first | assumption | omega)) (by rfl) ?_
          refine z_iload_n h dX4_write_70 rfl ?_
          refine y_iast h dX4_write_71 hR (by first | assumption | exact Nat.le_of_ble_eq_true rfl) (by first | rfl | assumption | exact tx_2 (by first | assumption | omega) | exact tx_18 (by first | assumption | omega) | exact tx_19 (by first | assumption | omega) | exact tx_20 (by first | assumption | omega) | exact tx_27 (by first | assumption | omega) | exact tx_28 (by first | assumption | omega) | exact tx_30 (by first | assumption | omega) | exact tx_31 (by first | assumption | omega) | exact tx_32 (by first | assumption | omega) | exact tx_33 (by first | assumption | omega)) (z_ixe (show _ = nI nl from j5) (by omega) (by have := hcap; omega)) (fun w hR => ?_)
          refine z_aload_n h dX4_write_72 rfl ?_
          refine y_getr h dX4_write_73 hR flX4_21 (by first | assumption | exact Nat.le_of_ble_eq_true rfl) (by first | rfl | assumption | exact tx_2 (by first | assumption | omega) | exact tx_18 (by first | assumption | omega) | exact tx_19 (by first | assumption | omega) | exact tx_20 (by first | assumption | omega) | exact tx_27 (by first | assumption | omega) | exact tx_28 (by first | assumption | omega) | exact tx_30 (by first | assumption | omega) | exact tx_31 (by first | assumption | omega) | exact tx_32 (by first | assumption | omega) | exact tx_33 (by first | assumption | omega)) (by rfl) ?_
          refine z_aload_n h dX4_write_76 rfl ?_
          refine y_geti h dX4_write_77 hR flX4_27 (by first | assumption | exact Nat.le_of_ble_eq_true rfl) (by first | rfl | assumption | exact tx_2 (by first | assumption | omega) | exact tx_18 (by first | assumption | omega) | exact tx_19 (by first | assumption | omega) | exact tx_20 (by first | assumption | omega) | exact tx_27 (by first | assumption | omega) | exact tx_28 (by first | assumption | omega) | exact tx_30 (by first | assumption | omega) | exact tx_31 (by first | assumption | omega) | exact tx_32 (by first | assumption | omega) | exact tx_33 (by first | assumption | omega)) (by rfl) ?_
          refine z_iload h dX4_write_80 rfl ?_
          refine y_iast h dX4_write_82 hR (by first | assumption | exact Nat.le_of_ble_eq_true rfl) (by first | rfl | assumption | exact tx_2 (by first | assumption | omega) | exact tx_18 (by first | assumption | omega) | exact tx_19 (by first | assumption | omega) | exact tx_20 (by first | assumption | omega) | exact tx_27 (by first | assumption | omega) | exact tx_28 (by first | assumption | omega) | exact tx_30 (by first | assumption | omega) | exact tx_31 (by first | assumption | omega) | exact tx_32 (by first | assumption | omega) | exact tx_33 (by first | assumption | omega)) (z_ixe (show _ = nI nl from j5) (by omega) (by have := hcap; omega)) (fun w hR => ?_)
          refine z_aload_n h dX4_write_83 rfl ?_
          refine y_getr h dX4_write_84 hR flX4_24 (by first | assumption | exact Nat.le_of_ble_eq_true rfl) (by first | rfl | assumption | exact tx_2 (by first | assumption | omega) | exact tx_18 (by first | assumption | omega) | exact tx_19 (by first | assumption | omega) | exact tx_20 (by first | assumption | omega) | exact tx_27 (by first | assumption | omega) | exact tx_28 (by first | assumption | omega) | exact tx_30 (by first | assumption | omega) | exact tx_31 (by first | assumption | omega) | exact tx_32 (by first | assumption | omega) | exact tx_33 (by first | assumption | omega)) (by rfl) ?_
          refine z_iload_n h dX4_write_87 rfl ?_
          refine z_dup2_ir h dX4_write_88 ?_
          refine y_iald h dX4_write_89 hR (by first | assumption | exact Nat.le_of_ble_eq_true rfl) (by first | rfl | assumption | exact tx_2 (by first | assumption | omega) | exact tx_18 (by first | assumption | omega) | exact tx_19 (by first | assumption | omega) | exact tx_20 (by first | assumption | omega) | exact tx_27 (by first | assumption | omega) | exact tx_28 (by first | assumption | omega) | exact tx_30 (by first | assumption | omega) | exact tx_31 (by first | assumption | omega) | exact tx_32 (by first | assumption | omega) | exact tx_33 (by first | assumption | omega)) (z_ixn hh (by omega)) ?_
          refine z_iload h dX4_write_90 rfl ?_
          refine z_iadd h dX4_write_92 ?_
          refine y_iast h dX4_write_93 hR (by first | assumption | exact Nat.le_of_ble_eq_true rfl) (by first | rfl | assumption | exact tx_2 (by first | assumption | omega) | exact tx_18 (by first | assumption | omega) | exact tx_19 (by first | assumption | omega) | exact tx_20 (by first | assumption | omega) | exact tx_27 (by first | assumption | omega) | exact tx_28 (by first | assumption | omega) | exact tx_30 (by first | assumption | omega) | exact tx_31 (by first | assumption | omega) | exact tx_32 (by first | assumption | omega) | exact tx_33 (by first | assumption | omega)) (z_ixn hh (by omega)) (fun w hR => ?_)
          refine z_aload_n h dX4_write_94 rfl ?_
          refine z_dup_r h dX4_write_95 ?_
          refine y_geti h dX4_write_96 hR flX4_27 (by first | assumption | exact Nat.le_of_ble_eq_true rfl) (by first | rfl | assumption | exact tx_2 (by first | assumption | omega) | exact tx_18 (by first | assumption | omega) | exact tx_19 (by first | assumption | omega) | exact tx_20 (by first | assumption | omega) | exact tx_27 (by first | assumption | omega) | exact tx_28 (by first | assumption | omega) | exact tx_30 (by first | assumption | omega) | exact tx_31 (by first | assumption | omega) | exact tx_32 (by first | assumption | omega) | exact tx_33 (by first | assumption | omega)) (by rfl) ?_
          refine z_iconst (v := 1) h dX4_write_99 (by decide) ?_
          refine z_iadd h dX4_write_100 ?_
          refine z_toe (y := nI (nl + 1)) (by show c1 (29, 0) 5 + 1 = _; rw [j5]; exact z_up nl) ?_
          refine y_put h dX4_write_101 he hR flX4_27 rfl (by first | assumption | exact Nat.le_of_ble_eq_true rfl) (by first | rfl | assumption | exact tx_2 (by first | assumption | omega) | exact tx_18 (by first | assumption | omega) | exact tx_19 (by first | assumption | omega) | exact tx_20 (by first | assumption | omega) | exact tx_27 (by first | assumption | omega) | exact tx_28 (by first | assumption | omega) | exact tx_30 (by first | assumption | omega) | exact tx_31 (by first | assumption | omega) | exact tx_32 (by first | assumption | omega) | exact tx_33 (by first | assumption | omega)) (by rfl) (fun w hR => ?_)
          exact z_vret h dX4_write_104 hr (⟨rfl, g, _, hR, by
        have hne : ∀ k, k < nl → k ≠ nl := fun k h => by omega
        have a30 : ∀ i, (30, i) ≠ ((29, 0) : z_T) := fun i e => by cases e
        refine ⟨hg1, fun k hk => ?_, ?_, ?_, ?_, ?_, ?_, rfl, fun t ht => ?_⟩
        · obtain ⟨b1, b2, b3, b4⟩ := hkeep k hk
          simp only [r_cs]
          refine ⟨?_, ?_, ?_, ?_⟩
          · rw [r_cf_ne (by simp), r_cf_ne (by simp), r_cf_ne (by simp), r_cf_ne (by simp), r_cf_ne (by simp), r_cf_self, pk_un (hne k hk)]; exact b1
          · rw [r_cf_ne (by simp), r_cf_ne (by simp), r_cf_ne (by simp), r_cf_ne (by simp), r_cf_self, pk_un (hne k hk)]; exact b2
          · rw [r_cf_ne (by simp), r_cf_ne (by simp), r_cf_ne (by simp), r_cf_self, pk_un (hne k hk)]; exact b3
          · rw [r_cf_ne (by simp), r_cf_ne (by simp), r_cf_self, pk_un (hne k hk)]; exact b4
        · simp only [r_cs]; rw [r_cf_ne (by simp), r_cf_ne (by simp), r_cf_ne (by simp), r_cf_ne (by simp), r_cf_ne (by simp), r_cf_self, pk_us]
        · simp only [r_cs]; rw [r_cf_ne (by simp), r_cf_ne (by simp), r_cf_ne (by simp), r_cf_ne (by simp), r_cf_self, pk_us]
        · simp only [r_cs]; rw [r_cf_ne (by simp), r_cf_ne (by simp), r_cf_ne (by simp), r_cf_self, pk_us]
        · simp only [r_cs]; rw [r_cf_ne (by simp), r_cf_ne (by simp), r_cf_self, pk_us]
        · show upd (c1 (34, 0)) h_ (c1 (34, 0) h_ + a) = _
          rw [hfrm (34, 0) (by simp)]
        · have hn : ∀ k i, 29 ≤ k → k ≤ 34 → t ≠ (k, i) := fun k i h1 h2 e => ht (by rw [e]; exact ⟨h1, h2⟩)
          simp only [r_cs]
          rw [r_cf_ne (hn 29 _ (by omega) (by omega)), r_cf_ne (hn 34 _ (by omega) (by omega)), r_cf_ne (hn 33 _ (by omega) (by omega)), r_cf_ne (hn 32 _ (by omega) (by omega)), r_cf_ne (hn 31 _ (by omega) (by omega)), r_cf_ne (hn 30 _ (by omega) (by omega))]
          exact hfrm t (fun q => ht (by omega))⟩)
        · skip
          exact absurd (nI_lt hh (by omega)) c_4
  refine z_aload_n h dX4_write_0 rfl ?_
  refine y_geti h dX4_write_1 hR flX4_27 (by first | assumption | exact Nat.le_of_ble_eq_true rfl) (by first | rfl | assumption | exact tx_2 (by first | assumption | omega) | exact tx_18 (by first | assumption | omega) | exact tx_19 (by first | assumption | omega) | exact tx_20 (by first | assumption | omega) | exact tx_27 (by first | assumption | omega) | exact tx_28 (by first | assumption | omega) | exact tx_30 (by first | assumption | omega) | exact tx_31 (by first | assumption | omega) | exact tx_32 (by first | assumption | omega) | exact tx_33 (by first | assumption | omega)) (by rfl) ?_
  rw [hc]
  refine z_aload_n h dX4_write_4 rfl ?_
  refine y_getr h dX4_write_5 hR flX4_9 (by first | assumption | exact Nat.le_of_ble_eq_true rfl) (by first | rfl | assumption | exact tx_2 (by first | assumption | omega) | exact tx_18 (by first | assumption | omega) | exact tx_19 (by first | assumption | omega) | exact tx_20 (by first | assumption | omega) | exact tx_27 (by first | assumption | omega) | exact tx_28 (by first | assumption | omega) | exact tx_30 (by first | assumption | omega) | exact tx_31 (by first | assumption | omega) | exact tx_32 (by first | assumption | omega) | exact tx_33 (by first | assumption | omega)) (by rfl) ?_
  refine y_len h dX4_write_8 hR (by first | assumption | exact Nat.le_of_ble_eq_true rfl) (by first | rfl | assumption | exact tx_2 (by first | assumption | omega) | exact tx_18 (by first | assumption | omega) | exact tx_19 (by first | assumption | omega) | exact tx_20 (by first | assumption | omega) | exact tx_27 (by first | assumption | omega) | exact tx_28 (by first | assumption | omega) | exact tx_30 (by first | assumption | omega) | exact tx_31 (by first | assumption | omega) | exact tx_32 (by first | assumption | omega) | exact tx_33 (by first | assumption | omega)) (by rfl) ?_
  refine z_icmp_lt h dX4_write_9 16 (by decide) (fun c_1 => ?_) (fun c_1 => ?_)
  · skip
    have e1 : nl < 64 * 2 ^ g := (nI_ltI (by omega) (by omega)).mp c_1
    refine z_less (Nat.zero_le _) (Nat.zero_le _) ?_
    refine z_loc [(0, vr (29, 0)), (1, vi y), (2, vi p), (3, vi (nI h_)), (4, vi a)] ⟨rfl, rfl, rfl, rfl, rfl, trivial⟩ ?_
    exact join_16 g _ _ hR hc e1 (if_pos e1).symm (fun k _ => ⟨rfl, rfl, rfl, rfl⟩) (fun _ _ => rfl)
  · skip
    have e1 : ¬ nl < 64 * 2 ^ g := fun q => c_1 ((nI_ltI (by omega) (by omega)).mpr q)
    rw [if_neg e1, if_neg e1]
    refine z_less (kC' := 0 + 4) (kS' := 0 + 8 * (64 * 2 ^ g)) (by omega) (by omega) ?_
    refine z_aload_n h dX4_write_12 rfl ?_
    refine z_callV h dX4_write_13 (fun _ _ q => z_okv_no he q) (fun _ _ _ t q => absurd q (he t)) (m_X4_grow _ hR (lg_pow e1 hnl4)) ym_X4_grow mlX4_31 im_X4_grow (ci := 4) rfl se_X4_grow icX4 rfl (r_p.ob hR (by first | assumption | exact Nat.le_of_ble_eq_true rfl) (by first | rfl | assumption | exact tx_2 (by first | assumption | omega) | exact tx_18 (by first | assumption | omega) | exact tx_19 (by first | assumption | omega) | exact tx_20 (by first | assumption | omega) | exact tx_27 (by first | assumption | omega) | exact tx_28 (by first | assumption | omega) | exact tx_30 (by first | assumption | omega) | exact tx_31 (by first | assumption | omega) | exact tx_32 (by first | assumption | omega) | exact tx_33 (by first | assumption | omega))) rfl (by decide) (Nat.le_of_ble_eq_true rfl) ?_
    rintro q1 w ⟨rfl, hR⟩
    refine z_loc [(0, vr (29, 0)), (1, vi y), (2, vi p), (3, vi (nI h_)), (4, vi a)] ⟨rfl, rfl, rfl, rfl, rfl, trivial⟩ ?_
    refine join_16 (g + 1) _ _ hR (by show lg_c c g (29, 0) 5 = _; unfold lg_c; rw [r_cf_ne (by simp), r_cf_ne (by simp), r_cf_ne (by simp), r_cf_ne (by simp)]; exact hc) (by rw [Nat.pow_succ]; omega) (if_neg e1).symm (fun k hk => ?_) (fun t ht => ?_)
    · unfold lg_c
      refine ⟨?_, ?_, ?_, ?_⟩
      · rw [r_cf_ne (by simp), r_cf_ne (by simp), r_cf_ne (by simp), r_cf_self]; exact if_pos (by omega)
      · rw [r_cf_ne (by simp), r_cf_ne (by simp), r_cf_self]; exact if_pos (by omega)
      · rw [r_cf_ne (by simp), r_cf_self]; exact if_pos (by omega)
      · rw [r_cf_self]; exact if_pos (by omega)
    · unfold lg_c
      have hne : ∀ k, 30 ≤ k → k ≤ 33 → t ≠ (k, g + 1) := fun k h1 h2 e => ht (by rw [e]; exact ⟨h1, h2⟩)
      rw [r_cf_ne (hne 33 (by omega) (by omega)), r_cf_ne (hne 32 (by omega) (by omega)), r_cf_ne (hne 31 (by omega) (by omega)), r_cf_ne (hne 30 (by omega) (by omega))]
