/-! the class: founder, hearth, rights, ledger: small methods -/
def n_rd (le s m co o : Int32) : Int32 := if le = 99 then co else if le = 104 then s else if le = 109 then m else o
def n_hd (sg v n : Int32) : Bool := if sg = 60 then decide (v < n) else if sg = 61 then decide (v = n) else decide (n < v)
def n_air (le si nu ai : Nat → Int32) (s m co o a : Int32) : Nat → Nat → Int32
  | 0, _ => a
  | f + 1, i => if n_hd (si i) (n_rd (le i) s m co o) (nu i) = true then ai i else n_air le si nu ai s m co o a f (i + 1)
theorem upd_same {f : Nat → Int32} {k : Nat} : upd f k (f k) = f := by
  funext j
  by_cases e : j = k
  · subst e; rw [pk_us]
  · rw [pk_un e]
set_option maxHeartbeats 4000000 in
set_option maxRecDepth 100000 in
theorem m_X2_reading (G : z_G) {nb na np g : Nat} {w0 w : z_w} {c : r_c} {l : r_l} {r : r_r} (hR : r_p dX (TX nb na np g) w0 c l r w) (x : Int32) : z_M G yX2_reading cX2_reading 2 (some .int) 1 (0) (0) [vi x, vr (13, 0)] w (fun q w1 => q = some (vi (n_rd x (c (13, 0) 8) (c (13, 0) 7) (c (13, 0) 4) (c (13, 0) 3))) ∧ w1 = w) := by
  refine z_met ym_X2_reading (by decide) ⟨Nat.le_of_ble_eq_true rfl, Nat.le_of_ble_eq_true rfl⟩ (fun X hG hn hmc hms hin h hr => ?_)
  have he := hr.2.2.2.2.2.1
  refine z_iload_n h dX2_reading_0 rfl ?_
  by_cases s_1_0 : x = 99
  · skip
    refine z_lookup h dX2_reading_1 46 (by decide) (off := 45) (by rw [s_1_0]; rfl) (by decide) ?_
    refine z_aload_n h dX2_reading_46 rfl ?_
    refine y_geti h dX2_reading_47 hR flX2_74 (by first | assumption | exact Nat.le_of_ble_eq_true rfl) (by first | rfl | assumption | exact tx_2 (by first | assumption | omega) | exact tx_18 (by first | assumption | omega) | exact tx_19 (by first | assumption | omega) | exact tx_20 (by first | assumption | omega) | exact tx_27 (by first | assumption | omega) | exact tx_28 (by first | assumption | omega) | exact tx_30 (by first | assumption | omega) | exact tx_31 (by first | assumption | omega) | exact tx_32 (by first | assumption | omega) | exact tx_33 (by first | assumption | omega)) (by rfl) ?_
    exact z_iret h dX2_reading_50 hr (⟨z_e1 (if_pos s_1_0).symm, rfl⟩)
  by_cases s_1_1 : x = 104
  · skip
    refine z_lookup h dX2_reading_1 36 (by decide) (off := 35) (by rw [s_1_1]; rfl) (by decide) ?_
    refine z_aload_n h dX2_reading_36 rfl ?_
    refine y_geti h dX2_reading_37 hR flX2_68 (by first | assumption | exact Nat.le_of_ble_eq_true rfl) (by first | rfl | assumption | exact tx_2 (by first | assumption | omega) | exact tx_18 (by first | assumption | omega) | exact tx_19 (by first | assumption | omega) | exact tx_20 (by first | assumption | omega) | exact tx_27 (by first | assumption | omega) | exact tx_28 (by first | assumption | omega) | exact tx_30 (by first | assumption | omega) | exact tx_31 (by first | assumption | omega) | exact tx_32 (by first | assumption | omega) | exact tx_33 (by first | assumption | omega)) (by rfl) ?_
    exact z_iret h dX2_reading_40 hr (⟨z_e1 (by unfold n_rd; rw [if_neg s_1_0, if_pos s_1_1]), rfl⟩)
  by_cases s_1_2 : x = 109
  · skip
    refine z_lookup h dX2_reading_1 41 (by decide) (off := 40) (by rw [s_1_2]; rfl) (by decide) ?_
    refine z_aload_n h dX2_reading_41 rfl ?_
    refine y_geti h dX2_reading_42 hR flX2_71 (by first | assumption | exact Nat.le_of_ble_eq_true rfl) (by first | rfl | assumption | exact tx_2 (by first | assumption | omega) | exact tx_18 (by first | assumption | omega) | exact tx_19 (by first | assumption | omega) | exact tx_20 (by first | assumption | omega) | exact tx_27 (by first | assumption | omega) | exact tx_28 (by first | assumption | omega) | exact tx_30 (by first | assumption | omega) | exact tx_31 (by first | assumption | omega) | exact tx_32 (by first | assumption | omega) | exact tx_33 (by first | assumption | omega)) (by rfl) ?_
    exact z_iret h dX2_reading_45 hr (⟨z_e1 (by unfold n_rd; rw [if_neg s_1_0, if_neg s_1_1, if_pos s_1_2]), rfl⟩)
  refine z_lookup h dX2_reading_1 51 (by decide) (off := 50) (by rw [lv_osw s_1_0 (by decide), lv_osw s_1_1 (by decide), lv_osw s_1_2 (by decide)]; rfl) (by decide) ?_
  refine z_aload_n h dX2_reading_51 rfl ?_
  refine y_geti h dX2_reading_52 hR flX2_77 (by first | assumption | exact Nat.le_of_ble_eq_true rfl) (by first | rfl | assumption | exact tx_2 (by first | assumption | omega) | exact tx_18 (by first | assumption | omega) | exact tx_19 (by first | assumption | omega) | exact tx_20 (by first | assumption | omega) | exact tx_27 (by first | assumption | omega) | exact tx_28 (by first | assumption | omega) | exact tx_30 (by first | assumption | omega) | exact tx_31 (by first | assumption | omega) | exact tx_32 (by first | assumption | omega) | exact tx_33 (by first | assumption | omega)) (by rfl) ?_
  exact z_iret h dX2_reading_55 hr (⟨z_e1 (by unfold n_rd; rw [if_neg s_1_0, if_neg s_1_1, if_neg s_1_2]), rfl⟩)
set_option maxHeartbeats 4000000 in
set_option maxRecDepth 100000 in
theorem m_X2_holds (G : z_G) (w : z_w) (sg v n : Int32) : z_M G yX2_holds cX2_holds 3 (some .boolean) 1 (0) (0) [vi sg, vi v, vi n] w (fun q w1 => q = some (vi (z_b (n_hd sg v n = true))) ∧ w1 = w) := by
  refine z_met ym_X2_holds (by decide) ⟨Nat.le_of_ble_eq_true rfl, Nat.le_of_ble_eq_true rfl⟩ (fun X hG hn hmc hms hin h hr => ?_)
  have he := hr.2.2.2.2.2.1
  refine z_iload_n h dX2_holds_0 rfl ?_
  by_cases s_1_0 : sg = 60
  · skip
    refine z_lookup h dX2_holds_1 39 (by decide) (off := 38) (by rw [s_1_0]; rfl) (by decide) ?_
    refine z_iload_n h dX2_holds_39 rfl ?_
    refine z_iload_n h dX2_holds_40 rfl ?_
    refine z_icmp_ge h dX2_holds_41 48 (by decide) (fun c_2 => ?_) (fun c_2 => ?_)
    · skip
      refine z_iconst (v := 0) h dX2_holds_48 (by decide) ?_
      exact z_zret h dX2_holds_49 hr rfl (⟨z_ret0 (by unfold n_hd; rw [if_pos s_1_0]; simp only [decide_eq_true_iff]; simp only [z_lt, z_le, z_ie] at *; omega), rfl⟩)
    · skip
      refine z_iconst (v := 1) h dX2_holds_44 (by decide) ?_
      refine z_goto h dX2_holds_45 49 (by decide) ?_
      exact z_zret h dX2_holds_49 hr rfl (⟨z_ret1 (by unfold n_hd; rw [if_pos s_1_0]; simp only [decide_eq_true_iff]; simp only [z_lt, z_le, z_ie] at *; omega), rfl⟩)
  by_cases s_1_1 : sg = 61
  · skip
    refine z_lookup h dX2_holds_1 28 (by decide) (off := 27) (by rw [s_1_1]; rfl) (by decide) ?_
    refine z_iload_n h dX2_holds_28 rfl ?_
    refine z_iload_n h dX2_holds_29 rfl ?_
    refine z_icmp_ne h dX2_holds_30 37 (by decide) (fun c_3 => ?_) (fun c_3 => ?_)
    · skip
      refine z_iconst (v := 0) h dX2_holds_37 (by decide) ?_
      exact z_zret h dX2_holds_38 hr rfl (⟨z_ret0 (by unfold n_hd; rw [if_neg s_1_0, if_pos s_1_1]; simp only [decide_eq_true_iff]; simp only [z_lt, z_le, z_ie] at *; omega), rfl⟩)
    · skip
      refine z_iconst (v := 1) h dX2_holds_33 (by decide) ?_
      refine z_goto h dX2_holds_34 38 (by decide) ?_
      exact z_zret h dX2_holds_38 hr rfl (⟨z_ret1 (by unfold n_hd; rw [if_neg s_1_0, if_pos s_1_1]; simp only [decide_eq_true_iff]; simp only [z_lt, z_le, z_ie] at *; omega), rfl⟩)
  refine z_lookup h dX2_holds_1 50 (by decide) (off := 49) (by rw [lv_osw s_1_0 (by decide), lv_osw s_1_1 (by decide)]; rfl) (by decide) ?_
  refine z_iload_n h dX2_holds_50 rfl ?_
  refine z_iload_n h dX2_holds_51 rfl ?_
  refine z_icmp_le h dX2_holds_52 59 (by decide) (fun c_4 => ?_) (fun c_4 => ?_)
  · skip
    refine z_iconst (v := 0) h dX2_holds_59 (by decide) ?_
    exact z_zret h dX2_holds_60 hr rfl (⟨z_ret0 (by unfold n_hd; rw [if_neg s_1_0, if_neg s_1_1]; simp only [decide_eq_true_iff]; simp only [z_lt, z_le, z_ie] at *; omega), rfl⟩)
  · skip
    refine z_iconst (v := 1) h dX2_holds_55 (by decide) ?_
    refine z_goto h dX2_holds_56 60 (by decide) ?_
    exact z_zret h dX2_holds_60 hr rfl (⟨z_ret1 (by unfold n_hd; rw [if_neg s_1_0, if_neg s_1_1]; simp only [decide_eq_true_iff]; simp only [z_lt, z_le, z_ie] at *; omega), rfl⟩)
set_option maxHeartbeats 4000000 in
set_option maxRecDepth 100000 in
theorem m_X2_airFor (G : z_G) {nb na np g : Nat} {w0 w : z_w} {c : r_c} {l : r_l} {r : r_r} (hR : r_p dX (TX nb na np g) w0 c l r w) (nc : Nat) (hc : c (8, 0) 4 = nI nc) (h40 : nc ≤ 40) : z_M G yX2_airFor cX2_airFor 3 (some .int) 2 (0) (0) [vr (8, 0), vr (13, 0)] w (fun q w1 => q = some (vi (n_air (c (9, 0)) (c (10, 0)) (c (11, 0)) (c (12, 0)) (c (13, 0) 8) (c (13, 0) 7) (c (13, 0) 4) (c (13, 0) 3) (c (13, 0) 9) nc 0)) ∧ w1 = w) := by
  refine z_met ym_X2_airFor (by decide) ⟨Nat.le_of_ble_eq_true rfl, Nat.le_of_ble_eq_true rfl⟩ (fun X hG hn hmc hms hin h hr => ?_)
  have he := hr.2.2.2.2.2.1
  refine z_iconst (v := 0) h dX2_airFor_0 (by decide) ?_
  refine z_istore_n h dX2_airFor_1 (by rw [hn]; decide) ?_
  have loop_2 : ∀ (n_ : Nat) (i : Nat), i ≤ nc → nc + 1 ≤ i + n_ → n_air (c (9, 0)) (c (10, 0)) (c (11, 0)) (c (12, 0)) (c (13, 0) 8) (c (13, 0) 7) (c (13, 0) 4) (c (13, 0) 3) (c (13, 0) 9) (nc - i) i = n_air (c (9, 0)) (c (10, 0)) (c (11, 0)) (c (12, 0)) (c (13, 0) 8) (c (13, 0) 7) (c (13, 0) 4) (c (13, 0) 3) (c (13, 0) 9) nc 0 → z_V X 0 0 w 2 [(0, vr (8, 0)), (1, vr (13, 0)), (2, vi (nI i))] [] := by
    intro n_
    induction n_ with
    | zero => intros; omega
    | succ n_ ih_2 =>
      intro i hi hN hinv
      refine z_iload_n h dX2_airFor_2 rfl ?_
      refine z_aload_n h dX2_airFor_3 rfl ?_
      refine y_geti h dX2_airFor_4 hR flX2_24 (by first | assumption | exact Nat.le_of_ble_eq_true rfl) (by first | rfl | assumption | exact tx_2 (by first | assumption | omega) | exact tx_18 (by first | assumption | omega) | exact tx_19 (by first | assumption | omega) | exact tx_20 (by first | assumption | omega) | exact tx_27 (by first | assumption | omega) | exact tx_28 (by first | assumption | omega) | exact tx_30 (by first | assumption | omega) | exact tx_31 (by first | assumption | omega) | exact tx_32 (by first | assumption | omega) | exact tx_33 (by first | assumption | omega)) (by rfl) ?_
      rw [hc]
      refine z_icmp_ge h dX2_airFor_7 60 (by decide) (fun c_1 => ?_) (fun c_1 => ?_)
      · skip
        have e1 : nc ≤ i := (nI_leI (by omega) (by omega)).mp c_1
        have e2 : nc - i = 0 := by omega
        rw [e2] at hinv
        refine z_aload_n h dX2_airFor_60 rfl ?_
        refine y_geti h dX2_airFor_61 hR flX2_63 (by first | assumption | exact Nat.le_of_ble_eq_true rfl) (by first | rfl | assumption | exact tx_2 (by first | assumption | omega) | exact tx_18 (by first | assumption | omega) | exact tx_19 (by first | assumption | omega) | exact tx_20 (by first | assumption | omega) | exact tx_27 (by first | assumption | omega) | exact tx_28 (by first | assumption | omega) | exact tx_30 (by first | assumption | omega) | exact tx_31 (by first | assumption | omega) | exact tx_32 (by first | assumption | omega) | exact tx_33 (by first | assumption | omega)) (by rfl) ?_
        exact z_iret h dX2_airFor_64 hr (⟨z_e1 (by rw [← hinv]; rfl), rfl⟩)
      · skip
        have e1 : ¬ nc ≤ i := fun q => c_1 ((nI_leI (by omega) (by omega)).mpr q)
        have hstep : n_air (c (9, 0)) (c (10, 0)) (c (11, 0)) (c (12, 0)) (c (13, 0) 8) (c (13, 0) 7) (c (13, 0) 4) (c (13, 0) 3) (c (13, 0) 9) (nc - i) i = if n_hd (c (10, 0) i) (n_rd (c (9, 0) i) (c (13, 0) 8) (c (13, 0) 7) (c (13, 0) 4) (c (13, 0) 3)) (c (11, 0) i) = true then c (12, 0) i else n_air (c (9, 0)) (c (10, 0)) (c (11, 0)) (c (12, 0)) (c (13, 0) 8) (c (13, 0) 7) (c (13, 0) 4) (c (13, 0) 3) (c (13, 0) 9) (nc - (i + 1)) (i + 1) := by
          rw [show nc - i = (nc - (i + 1)) + 1 by omega]
          rfl
        refine z_iload_n h dX2_airFor_10 rfl ?_
        refine z_aload_n h dX2_airFor_11 rfl ?_
        refine y_getr h dX2_airFor_12 hR flX2_9 (by first | assumption | exact Nat.le_of_ble_eq_true rfl) (by first | rfl | assumption | exact tx_2 (by first | assumption | omega) | exact tx_18 (by first | assumption | omega) | exact tx_19 (by first | assumption | omega) | exact tx_20 (by first | assumption | omega) | exact tx_27 (by first | assumption | omega) | exact tx_28 (by first | assumption | omega) | exact tx_30 (by first | assumption | omega) | exact tx_31 (by first | assumption | omega) | exact tx_32 (by first | assumption | omega) | exact tx_33 (by first | assumption | omega)) (by rfl) ?_
        refine y_len h dX2_airFor_15 hR (by first | assumption | exact Nat.le_of_ble_eq_true rfl) (by first | rfl | assumption | exact tx_2 (by first | assumption | omega) | exact tx_18 (by first | assumption | omega) | exact tx_19 (by first | assumption | omega) | exact tx_20 (by first | assumption | omega) | exact tx_27 (by first | assumption | omega) | exact tx_28 (by first | assumption | omega) | exact tx_30 (by first | assumption | omega) | exact tx_31 (by first | assumption | omega) | exact tx_32 (by first | assumption | omega) | exact tx_33 (by first | assumption | omega)) (by rfl) ?_
        refine z_icmp_ge h dX2_airFor_16 60 (by decide) (fun c_2 => ?_) (fun c_2 => ?_)
        · skip
          exact absurd ((nI_leI (by omega) (by omega)).mp c_2) (by omega)
        · skip
          refine z_aload_n h dX2_airFor_19 rfl ?_
          refine y_getr h dX2_airFor_20 hR flX2_15 (by first | assumption | exact Nat.le_of_ble_eq_true rfl) (by first | rfl | assumption | exact tx_2 (by first | assumption | omega) | exact tx_18 (by first | assumption | omega) | exact tx_19 (by first | assumption | omega) | exact tx_20 (by first | assumption | omega) | exact tx_27 (by first | assumption | omega) | exact tx_28 (by first | assumption | omega) | exact tx_30 (by first | assumption | omega) | exact tx_31 (by first | assumption | omega) | exact tx_32 (by first | assumption | omega) | exact tx_33 (by first | assumption | omega)) (by rfl) ?_
          refine z_iload_n h dX2_airFor_23 rfl ?_
          refine y_iald h dX2_airFor_24 hR (by first | assumption | exact Nat.le_of_ble_eq_true rfl) (by first | rfl | assumption | exact tx_2 (by first | assumption | omega) | exact tx_18 (by first | assumption | omega) | exact tx_19 (by first | assumption | omega) | exact tx_20 (by first | assumption | omega) | exact tx_27 (by first | assumption | omega) | exact tx_28 (by first | assumption | omega) | exact tx_30 (by first | assumption | omega) | exact tx_31 (by first | assumption | omega) | exact tx_32 (by first | assumption | omega) | exact tx_33 (by first | assumption | omega)) (by first | assumption | exact z_ixn (by omega) (by omega)) ?_
          refine z_aload_n h dX2_airFor_25 rfl ?_
          refine y_getr h dX2_airFor_26 hR flX2_9 (by first | assumption | exact Nat.le_of_ble_eq_true rfl) (by first | rfl | assumption | exact tx_2 (by first | assumption | omega) | exact tx_18 (by first | assumption | omega) | exact tx_19 (by first | assumption | omega) | exact tx_20 (by first | assumption | omega) | exact tx_27 (by first | assumption | omega) | exact tx_28 (by first | assumption | omega) | exact tx_30 (by first | assumption | omega) | exact tx_31 (by first | assumption | omega) | exact tx_32 (by first | assumption | omega) | exact tx_33 (by first | assumption | omega)) (by rfl) ?_
          refine z_iload_n h dX2_airFor_29 rfl ?_
          refine y_iald h dX2_airFor_30 hR (by first | assumption | exact Nat.le_of_ble_eq_true rfl) (by first | rfl | assumption | exact tx_2 (by first | assumption | omega) | exact tx_18 (by first | assumption | omega) | exact tx_19 (by first | assumption | omega) | exact tx_20 (by first | assumption | omega) | exact tx_27 (by first | assumption | omega) | exact tx_28 (by first | assumption | omega) | exact tx_30 (by first | assumption | omega) | exact tx_31 (by first | assumption | omega) | exact tx_32 (by first | assumption | omega) | exact tx_33 (by first | assumption | omega)) (by first | assumption | exact z_ixn (by omega) (by omega)) ?_
          refine z_aload_n h dX2_airFor_31 rfl ?_
          refine z_callS h dX2_airFor_32 (fun _ _ q => z_okv_no he q) (fun _ _ _ t q => absurd q (he t)) (m_X2_reading _ hR (c (9, 0) i)) ym_X2_reading mlX2_55 sm_X2_reading rfl (by decide) (Nat.le_of_ble_eq_true rfl) ?_
          rintro q1 w1 ⟨rfl, rfl⟩
          refine z_aload_n h dX2_airFor_35 rfl ?_
          refine y_getr h dX2_airFor_36 hR flX2_18 (by first | assumption | exact Nat.le_of_ble_eq_true rfl) (by first | rfl | assumption | exact tx_2 (by first | assumption | omega) | exact tx_18 (by first | assumption | omega) | exact tx_19 (by first | assumption | omega) | exact tx_20 (by first | assumption | omega) | exact tx_27 (by first | assumption | omega) | exact tx_28 (by first | assumption | omega) | exact tx_30 (by first | assumption | omega) | exact tx_31 (by first | assumption | omega) | exact tx_32 (by first | assumption | omega) | exact tx_33 (by first | assumption | omega)) (by rfl) ?_
          refine z_iload_n h dX2_airFor_39 rfl ?_
          refine y_iald h dX2_airFor_40 hR (by first | assumption | exact Nat.le_of_ble_eq_true rfl) (by first | rfl | assumption | exact tx_2 (by first | assumption | omega) | exact tx_18 (by first | assumption | omega) | exact tx_19 (by first | assumption | omega) | exact tx_20 (by first | assumption | omega) | exact tx_27 (by first | assumption | omega) | exact tx_28 (by first | assumption | omega) | exact tx_30 (by first | assumption | omega) | exact tx_31 (by first | assumption | omega) | exact tx_32 (by first | assumption | omega) | exact tx_33 (by first | assumption | omega)) (by first | assumption | exact z_ixn (by omega) (by omega)) ?_
          refine z_callS h dX2_airFor_41 (fun _ _ q => z_okv_no he q) (fun _ _ _ t q => absurd q (he t)) (m_X2_holds _ _ (c (10, 0) i) _ (c (11, 0) i)) ym_X2_holds mlX2_59 sm_X2_holds rfl (by decide) (Nat.le_of_ble_eq_true rfl) ?_
          rintro q1 w1 ⟨rfl, rfl⟩
          refine z_if_eq h dX2_airFor_44 54 (by decide) (fun c_3 => ?_) (fun c_3 => ?_)
          · skip
            refine z_iinc (v := 1) h dX2_airFor_54 rfl (by decide) (by rw [hn]; decide) ?_
            refine z_goto h dX2_airFor_57 2 (by decide) ?_
            refine z_loc [(0, vr (8, 0)), (1, vr (13, 0)), (2, vi (nI (i + 1)))] ⟨rfl, rfl, congrArg (fun z => some (vi z)) (z_up i), trivial⟩ ?_
            exact ih_2 (i + 1) (by omega) (by omega) (by rw [← hinv, hstep, if_neg (z_b_iff0.mp c_3)])
          · skip
            refine z_aload_n h dX2_airFor_47 rfl ?_
            refine y_getr h dX2_airFor_48 hR flX2_21 (by first | assumption | exact Nat.le_of_ble_eq_true rfl) (by first | rfl | assumption | exact tx_2 (by first | assumption | omega) | exact tx_18 (by first | assumption | omega) | exact tx_19 (by first | assumption | omega) | exact tx_20 (by first | assumption | omega) | exact tx_27 (by first | assumption | omega) | exact tx_28 (by first | assumption | omega) | exact tx_30 (by first | assumption | omega) | exact tx_31 (by first | assumption | omega) | exact tx_32 (by first | assumption | omega) | exact tx_33 (by first | assumption | omega)) (by rfl) ?_
            refine z_iload_n h dX2_airFor_51 rfl ?_
            refine y_iald h dX2_airFor_52 hR (by first | assumption | exact Nat.le_of_ble_eq_true rfl) (by first | rfl | assumption | exact tx_2 (by first | assumption | omega) | exact tx_18 (by first | assumption | omega) | exact tx_19 (by first | assumption | omega) | exact tx_20 (by first | assumption | omega) | exact tx_27 (by first | assumption | omega) | exact tx_28 (by first | assumption | omega) | exact tx_30 (by first | assumption | omega) | exact tx_31 (by first | assumption | omega) | exact tx_32 (by first | assumption | omega) | exact tx_33 (by first | assumption | omega)) (by first | assumption | exact z_ixn (by omega) (by omega)) ?_
            exact z_iret h dX2_airFor_53 hr (⟨z_e1 (by rw [← hinv, hstep, if_pos (by by_cases hz : n_hd (c (10, 0) i) (n_rd (c (9, 0) i) (c (13, 0) 8) (c (13, 0) 7) (c (13, 0) 4) (c (13, 0) 3)) (c (11, 0) i) = true; exact hz; exact absurd (z_b0 hz) c_3)]), rfl⟩)
  exact z_loc [(0, vr (8, 0)), (1, vr (13, 0)), (2, vi 0)] ⟨rfl, rfl, rfl, trivial⟩ (loop_2 (nc + 1) 0 (by omega) (by omega) rfl)
set_option maxHeartbeats 4000000 in
set_option maxRecDepth 100000 in
theorem m_X3_isFilled (G : z_G) {nb na np g : Nat} {w0 w : z_w} {c : r_c} {l : r_l} {r : r_r} (hR : r_p dX (TX nb na np g) w0 c l r w) : z_M G yX3_isFilled cX3_isFilled 1 (some .boolean) 2 (0) (0) [vr (13, 0)] w (fun q w1 => q = some (vi (z_b (¬ c (13, 0) 3 = 0 ∨ ¬ c (13, 0) 4 = 0 ∨ ¬ z_sum (c (15, 0)) 12 = 0))) ∧ w1 = w) := by
  refine z_met ym_X3_isFilled (by decide) ⟨Nat.le_of_ble_eq_true rfl, Nat.le_of_ble_eq_true rfl⟩ (fun X hG hn hmc hms hin h hr => ?_)
  have he := hr.2.2.2.2.2.1
  refine z_aload_n h dX3_isFilled_0 rfl ?_
  refine y_geti h dX3_isFilled_1 hR flX3_31 (by first | assumption | exact Nat.le_of_ble_eq_true rfl) (by first | rfl | assumption | exact tx_2 (by first | assumption | omega) | exact tx_18 (by first | assumption | omega) | exact tx_19 (by first | assumption | omega) | exact tx_20 (by first | assumption | omega) | exact tx_27 (by first | assumption | omega) | exact tx_28 (by first | assumption | omega) | exact tx_30 (by first | assumption | omega) | exact tx_31 (by first | assumption | omega) | exact tx_32 (by first | assumption | omega) | exact tx_33 (by first | assumption | omega)) (by rfl) ?_
  refine z_if_ne h dX3_isFilled_4 24 (by decide) (fun c_1 => ?_) (fun c_1 => ?_)
  · skip
    refine z_iconst (v := 1) h dX3_isFilled_24 (by decide) ?_
    refine z_goto h dX3_isFilled_25 29 (by decide) ?_
    exact z_zret h dX3_isFilled_29 hr rfl (⟨z_ret1 (Or.inl c_1), rfl⟩)
  · skip
    refine z_aload_n h dX3_isFilled_7 rfl ?_
    refine y_geti h dX3_isFilled_8 hR flX3_34 (by first | assumption | exact Nat.le_of_ble_eq_true rfl) (by first | rfl | assumption | exact tx_2 (by first | assumption | omega) | exact tx_18 (by first | assumption | omega) | exact tx_19 (by first | assumption | omega) | exact tx_20 (by first | assumption | omega) | exact tx_27 (by first | assumption | omega) | exact tx_28 (by first | assumption | omega) | exact tx_30 (by first | assumption | omega) | exact tx_31 (by first | assumption | omega) | exact tx_32 (by first | assumption | omega) | exact tx_33 (by first | assumption | omega)) (by rfl) ?_
    refine z_if_ne h dX3_isFilled_11 24 (by decide) (fun c_2 => ?_) (fun c_2 => ?_)
    · skip
      refine z_iconst (v := 1) h dX3_isFilled_24 (by decide) ?_
      refine z_goto h dX3_isFilled_25 29 (by decide) ?_
      exact z_zret h dX3_isFilled_29 hr rfl (⟨z_ret1 (Or.inr (Or.inl c_2)), rfl⟩)
    · skip
      refine z_aload_n h dX3_isFilled_14 rfl ?_
      refine y_getr h dX3_isFilled_15 hR flX3_15 (by first | assumption | exact Nat.le_of_ble_eq_true rfl) (by first | rfl | assumption | exact tx_2 (by first | assumption | omega) | exact tx_18 (by first | assumption | omega) | exact tx_19 (by first | assumption | omega) | exact tx_20 (by first | assumption | omega) | exact tx_27 (by first | assumption | omega) | exact tx_28 (by first | assumption | omega) | exact tx_30 (by first | assumption | omega) | exact tx_31 (by first | assumption | omega) | exact tx_32 (by first | assumption | omega) | exact tx_33 (by first | assumption | omega)) (by rfl) ?_
      refine z_callSN h dX3_isFilled_18 (fun _ _ q => z_okv_no he q) (fun _ _ _ t q => absurd q (he t)) (m_X11_sumOf _ _ _ 12 (c (15, 0)) (hR.ia (Nat.le_of_ble_eq_true rfl) rfl) (by decide)) ym_X11_sumOf mnX3_37 sm_X11_sumOf rfl (by decide) (Nat.le_of_ble_eq_true rfl) ?_
      rintro q1 w1 ⟨rfl, rfl⟩
      refine z_if_eq h dX3_isFilled_21 28 (by decide) (fun c_3 => ?_) (fun c_3 => ?_)
      · skip
        refine z_iconst (v := 0) h dX3_isFilled_28 (by decide) ?_
        exact z_zret h dX3_isFilled_29 hr rfl (⟨z_ret0 (fun q => q.elim (fun z => z c_1) (fun q => q.elim (fun z => z c_2) (fun q => q c_3))), rfl⟩)
      · skip
        refine z_iconst (v := 1) h dX3_isFilled_24 (by decide) ?_
        refine z_goto h dX3_isFilled_25 29 (by decide) ?_
        exact z_zret h dX3_isFilled_29 hr rfl (⟨z_ret1 (Or.inr (Or.inr c_3)), rfl⟩)
set_option maxHeartbeats 4000000 in
set_option maxRecDepth 100000 in
theorem m_X3_noteScorch (G : z_G) {nb na np g : Nat} {w0 w : z_w} {c : r_c} {l : r_l} {r : r_r} (hR : r_p dX (TX nb na np g) w0 c l r w) : z_M G yX3_noteScorch cX3_noteScorch 1 none 1 (0) (0) [vr (13, 0)] w (fun q w1 => q = none ∧ r_p dX (TX nb na np g) w0 (r_cs (r_cs c (13, 0) 11 (if c (13, 0) 10 = 0 then c (13, 0) 7 else c (13, 0) 11)) (13, 0) 10 (c (13, 0) 10 + 1)) (l) (r) w1) := by
  refine z_met ym_X3_noteScorch (by decide) ⟨Nat.le_of_ble_eq_true rfl, Nat.le_of_ble_eq_true rfl⟩ (fun X hG hn hmc hms hin h hr => ?_)
  have he := hr.2.2.2.2.2.1
  refine z_aload_n h dX3_noteScorch_0 rfl ?_
  refine y_geti h dX3_noteScorch_1 hR flX3_84 (by first | assumption | exact Nat.le_of_ble_eq_true rfl) (by first | rfl | assumption | exact tx_2 (by first | assumption | omega) | exact tx_18 (by first | assumption | omega) | exact tx_19 (by first | assumption | omega) | exact tx_20 (by first | assumption | omega) | exact tx_27 (by first | assumption | omega) | exact tx_28 (by first | assumption | omega) | exact tx_30 (by first | assumption | omega) | exact tx_31 (by first | assumption | omega) | exact tx_32 (by first | assumption | omega) | exact tx_33 (by first | assumption | omega)) (by rfl) ?_
  refine z_if_ne h dX3_noteScorch_4 15 (by decide) (fun c_1 => ?_) (fun c_1 => ?_)
  · skip
    refine z_aload_n h dX3_noteScorch_15 rfl ?_
    refine z_dup_r h dX3_noteScorch_16 ?_
    refine y_geti h dX3_noteScorch_17 hR flX3_84 (by first | assumption | exact Nat.le_of_ble_eq_true rfl) (by first | rfl | assumption | exact tx_2 (by first | assumption | omega) | exact tx_18 (by first | assumption | omega) | exact tx_19 (by first | assumption | omega) | exact tx_20 (by first | assumption | omega) | exact tx_27 (by first | assumption | omega) | exact tx_28 (by first | assumption | omega) | exact tx_30 (by first | assumption | omega) | exact tx_31 (by first | assumption | omega) | exact tx_32 (by first | assumption | omega) | exact tx_33 (by first | assumption | omega)) (by rfl) ?_
    refine z_iconst (v := 1) h dX3_noteScorch_20 (by decide) ?_
    refine z_iadd h dX3_noteScorch_21 ?_
    refine y_put h dX3_noteScorch_22 he hR flX3_84 rfl (by first | assumption | exact Nat.le_of_ble_eq_true rfl) (by first | rfl | assumption | exact tx_2 (by first | assumption | omega) | exact tx_18 (by first | assumption | omega) | exact tx_19 (by first | assumption | omega) | exact tx_20 (by first | assumption | omega) | exact tx_27 (by first | assumption | omega) | exact tx_28 (by first | assumption | omega) | exact tx_30 (by first | assumption | omega) | exact tx_31 (by first | assumption | omega) | exact tx_32 (by first | assumption | omega) | exact tx_33 (by first | assumption | omega)) (by rfl) (fun w hR => ?_)
    exact z_vret h dX3_noteScorch_25 hr (⟨rfl, by rw [if_neg c_1, show r_cs c (13, 0) 11 (c (13, 0) 11) = c from by rw [r_cs, upd_same, r_cf_same]]; exact hR⟩)
  · skip
    refine z_aload_n h dX3_noteScorch_7 rfl ?_
    refine z_aload_n h dX3_noteScorch_8 rfl ?_
    refine y_geti h dX3_noteScorch_9 hR flX3_41 (by first | assumption | exact Nat.le_of_ble_eq_true rfl) (by first | rfl | assumption | exact tx_2 (by first | assumption | omega) | exact tx_18 (by first | assumption | omega) | exact tx_19 (by first | assumption | omega) | exact tx_20 (by first | assumption | omega) | exact tx_27 (by first | assumption | omega) | exact tx_28 (by first | assumption | omega) | exact tx_30 (by first | assumption | omega) | exact tx_31 (by first | assumption | omega) | exact tx_32 (by first | assumption | omega) | exact tx_33 (by first | assumption | omega)) (by rfl) ?_
    refine y_put h dX3_noteScorch_12 he hR flX3_21 rfl (by first | assumption | exact Nat.le_of_ble_eq_true rfl) (by first | rfl | assumption | exact tx_2 (by first | assumption | omega) | exact tx_18 (by first | assumption | omega) | exact tx_19 (by first | assumption | omega) | exact tx_20 (by first | assumption | omega) | exact tx_27 (by first | assumption | omega) | exact tx_28 (by first | assumption | omega) | exact tx_30 (by first | assumption | omega) | exact tx_31 (by first | assumption | omega) | exact tx_32 (by first | assumption | omega) | exact tx_33 (by first | assumption | omega)) (by rfl) (fun w hR => ?_)
    refine z_aload_n h dX3_noteScorch_15 rfl ?_
    refine z_dup_r h dX3_noteScorch_16 ?_
    refine y_geti h dX3_noteScorch_17 hR flX3_84 (by first | assumption | exact Nat.le_of_ble_eq_true rfl) (by first | rfl | assumption | exact tx_2 (by first | assumption | omega) | exact tx_18 (by first | assumption | omega) | exact tx_19 (by first | assumption | omega) | exact tx_20 (by first | assumption | omega) | exact tx_27 (by first | assumption | omega) | exact tx_28 (by first | assumption | omega) | exact tx_30 (by first | assumption | omega) | exact tx_31 (by first | assumption | omega) | exact tx_32 (by first | assumption | omega) | exact tx_33 (by first | assumption | omega)) (by rfl) ?_
    refine z_iconst (v := 1) h dX3_noteScorch_20 (by decide) ?_
    refine z_iadd h dX3_noteScorch_21 ?_
    refine y_put h dX3_noteScorch_22 he hR flX3_84 rfl (by first | assumption | exact Nat.le_of_ble_eq_true rfl) (by first | rfl | assumption | exact tx_2 (by first | assumption | omega) | exact tx_18 (by first | assumption | omega) | exact tx_19 (by first | assumption | omega) | exact tx_20 (by first | assumption | omega) | exact tx_27 (by first | assumption | omega) | exact tx_28 (by first | assumption | omega) | exact tx_30 (by first | assumption | omega) | exact tx_31 (by first | assumption | omega) | exact tx_32 (by first | assumption | omega) | exact tx_33 (by first | assumption | omega)) (by rfl) (fun w hR => ?_)
    exact z_vret h dX3_noteScorch_25 hr (⟨rfl, by rw [if_pos c_1]; exact hR⟩)
set_option maxHeartbeats 4000000 in
set_option maxRecDepth 100000 in
theorem m_X3_sortOfBloom (G : z_G) {nb na np g : Nat} {w0 w : z_w} {c : r_c} {l : r_l} {r : r_r} (hR : r_p dX (TX nb na np g) w0 c l r w) : z_M G yX3_sortOfBloom cX3_sortOfBloom 1 (some .int) 1 (0) (0) [vr (13, 0)] w (fun q w1 => q = some (vi (if c (13, 0) 10 = 0 then 0 else if c (13, 0) 10 ≤ 10 then 1 else 2)) ∧ w1 = w) := by
  refine z_met ym_X3_sortOfBloom (by decide) ⟨Nat.le_of_ble_eq_true rfl, Nat.le_of_ble_eq_true rfl⟩ (fun X hG hn hmc hms hin h hr => ?_)
  have he := hr.2.2.2.2.2.1
  refine z_aload_n h dX3_sortOfBloom_0 rfl ?_
  refine y_geti h dX3_sortOfBloom_1 hR flX3_84 (by first | assumption | exact Nat.le_of_ble_eq_true rfl) (by first | rfl | assumption | exact tx_2 (by first | assumption | omega) | exact tx_18 (by first | assumption | omega) | exact tx_19 (by first | assumption | omega) | exact tx_20 (by first | assumption | omega) | exact tx_27 (by first | assumption | omega) | exact tx_28 (by first | assumption | omega) | exact tx_30 (by first | assumption | omega) | exact tx_31 (by first | assumption | omega) | exact tx_32 (by first | assumption | omega) | exact tx_33 (by first | assumption | omega)) (by rfl) ?_
  refine z_if_ne h dX3_sortOfBloom_4 9 (by decide) (fun c_1 => ?_) (fun c_1 => ?_)
  · skip
    refine z_aload_n h dX3_sortOfBloom_9 rfl ?_
    refine y_geti h dX3_sortOfBloom_10 hR flX3_84 (by first | assumption | exact Nat.le_of_ble_eq_true rfl) (by first | rfl | assumption | exact tx_2 (by first | assumption | omega) | exact tx_18 (by first | assumption | omega) | exact tx_19 (by first | assumption | omega) | exact tx_20 (by first | assumption | omega) | exact tx_27 (by first | assumption | omega) | exact tx_28 (by first | assumption | omega) | exact tx_30 (by first | assumption | omega) | exact tx_31 (by first | assumption | omega) | exact tx_32 (by first | assumption | omega) | exact tx_33 (by first | assumption | omega)) (by rfl) ?_
    refine z_bipush (v := 10) h dX3_sortOfBloom_13 (by decide) ?_
    refine z_icmp_gt h dX3_sortOfBloom_15 22 (by decide) (fun c_2 => ?_) (fun c_2 => ?_)
    · skip
      refine z_iconst (v := 2) h dX3_sortOfBloom_22 (by decide) ?_
      exact z_iret h dX3_sortOfBloom_23 hr (⟨z_e1 (by rw [if_neg c_1, if_neg (by simp only [z_lt, z_le, z_ie] at *; omega)]), rfl⟩)
    · skip
      refine z_iconst (v := 1) h dX3_sortOfBloom_18 (by decide) ?_
      refine z_goto h dX3_sortOfBloom_19 23 (by decide) ?_
      exact z_iret h dX3_sortOfBloom_23 hr (⟨z_e1 (by rw [if_neg c_1, if_pos (by simp only [z_lt, z_le, z_ie] at *; omega)]), rfl⟩)
  · skip
    refine z_iconst (v := 0) h dX3_sortOfBloom_7 (by decide) ?_
    exact z_iret h dX3_sortOfBloom_8 hr (⟨z_e1 (if_pos c_1).symm, rfl⟩)
set_option maxHeartbeats 4000000 in
set_option maxRecDepth 100000 in
theorem m_X3_empty (G : z_G) {nb na np g : Nat} {w0 w : z_w} {c : r_c} {l : r_l} {r : r_r} (hR : r_p dX (TX nb na np g) w0 c l r w) : z_M G yX3_empty cX3_empty 1 none 2 (0) (0) [vr (13, 0)] w (fun q w1 => q = none ∧ r_p dX (TX nb na np g) w0 (r_cs (r_cs (r_cs (r_cs (r_cs (r_cs (r_cs (r_cs (r_cs (r_cf (r_cf (r_cf c (14, 0) (fun _ => 0)) (15, 0) (fun _ => 0)) (16, 0) (fun _ => 0)) (13, 0) 3 0) (13, 0) 4 0) (13, 0) 5 0) (13, 0) 6 0) (13, 0) 7 0) (13, 0) 8 0) (13, 0) 9 0) (13, 0) 10 0) (13, 0) 11 (-1)) (l) (r) w1) := by
  refine z_met ym_X3_empty (by decide) ⟨Nat.le_of_ble_eq_true rfl, Nat.le_of_ble_eq_true rfl⟩ (fun X hG hn hmc hms hin h hr => ?_)
  have he := hr.2.2.2.2.2.1
  refine z_aload_n h dX3_empty_0 rfl ?_
  refine y_getr h dX3_empty_1 hR flX3_9 (by first | assumption | exact Nat.le_of_ble_eq_true rfl) (by first | rfl | assumption | exact tx_2 (by first | assumption | omega) | exact tx_18 (by first | assumption | omega) | exact tx_19 (by first | assumption | omega) | exact tx_20 (by first | assumption | omega) | exact tx_27 (by first | assumption | omega) | exact tx_28 (by first | assumption | omega) | exact tx_30 (by first | assumption | omega) | exact tx_31 (by first | assumption | omega) | exact tx_32 (by first | assumption | omega) | exact tx_33 (by first | assumption | omega)) (by rfl) ?_
  refine z_iconst (v := 0) h dX3_empty_4 (by decide) ?_
  refine z_callS h dX3_empty_5 (fun _ _ q => z_okv_no he q) (fun _ _ _ t q => absurd q (he t)) (f_fill hR 0 (Nat.le_of_ble_eq_true rfl) rfl (by decide)) ym_J7_fill_53178 mlX3_87 sm_J7_fill_53178 rfl (by decide) (Nat.le_of_ble_eq_true rfl) ?_
  rintro q1 w ⟨rfl, hR⟩
  refine z_aload_n h dX3_empty_8 rfl ?_
  refine y_getr h dX3_empty_9 hR flX3_15 (by first | assumption | exact Nat.le_of_ble_eq_true rfl) (by first | rfl | assumption | exact tx_2 (by first | assumption | omega) | exact tx_18 (by first | assumption | omega) | exact tx_19 (by first | assumption | omega) | exact tx_20 (by first | assumption | omega) | exact tx_27 (by first | assumption | omega) | exact tx_28 (by first | assumption | omega) | exact tx_30 (by first | assumption | omega) | exact tx_31 (by first | assumption | omega) | exact tx_32 (by first | assumption | omega) | exact tx_33 (by first | assumption | omega)) (by rfl) ?_
  refine z_iconst (v := 0) h dX3_empty_12 (by decide) ?_
  refine z_callS h dX3_empty_13 (fun _ _ q => z_okv_no he q) (fun _ _ _ t q => absurd q (he t)) (f_fill hR 0 (Nat.le_of_ble_eq_true rfl) rfl (by decide)) ym_J7_fill_53178 mlX3_87 sm_J7_fill_53178 rfl (by decide) (Nat.le_of_ble_eq_true rfl) ?_
  rintro q1 w ⟨rfl, hR⟩
  refine z_aload_n h dX3_empty_16 rfl ?_
  refine y_getr h dX3_empty_17 hR flX3_18 (by first | assumption | exact Nat.le_of_ble_eq_true rfl) (by first | rfl | assumption | exact tx_2 (by first | assumption | omega) | exact tx_18 (by first | assumption | omega) | exact tx_19 (by first | assumption | omega) | exact tx_20 (by first | assumption | omega) | exact tx_27 (by first | assumption | omega) | exact tx_28 (by first | assumption | omega) | exact tx_30 (by first | assumption | omega) | exact tx_31 (by first | assumption | omega) | exact tx_32 (by first | assumption | omega) | exact tx_33 (by first | assumption | omega)) (by rfl) ?_
  refine z_iconst (v := 0) h dX3_empty_20 (by decide) ?_
  refine z_callS h dX3_empty_21 (fun _ _ q => z_okv_no he q) (fun _ _ _ t q => absurd q (he t)) (f_fill hR 0 (Nat.le_of_ble_eq_true rfl) rfl (by decide)) ym_J7_fill_53178 mlX3_87 sm_J7_fill_53178 rfl (by decide) (Nat.le_of_ble_eq_true rfl) ?_
  rintro q1 w ⟨rfl, hR⟩
  refine z_aload_n h dX3_empty_24 rfl ?_
  refine z_iconst (v := 0) h dX3_empty_25 (by decide) ?_
  refine y_put h dX3_empty_26 he hR flX3_31 rfl (by first | assumption | exact Nat.le_of_ble_eq_true rfl) (by first | rfl | assumption | exact tx_2 (by first | assumption | omega) | exact tx_18 (by first | assumption | omega) | exact tx_19 (by first | assumption | omega) | exact tx_20 (by first | assumption | omega) | exact tx_27 (by first | assumption | omega) | exact tx_28 (by first | assumption | omega) | exact tx_30 (by first | assumption | omega) | exact tx_31 (by first | assumption | omega) | exact tx_32 (by first | assumption | omega) | exact tx_33 (by first | assumption | omega)) (by rfl) (fun w hR => ?_)
  refine z_aload_n h dX3_empty_29 rfl ?_
  refine z_iconst (v := 0) h dX3_empty_30 (by decide) ?_
  refine y_put h dX3_empty_31 he hR flX3_34 rfl (by first | assumption | exact Nat.le_of_ble_eq_true rfl) (by first | rfl | assumption | exact tx_2 (by first | assumption | omega) | exact tx_18 (by first | assumption | omega) | exact tx_19 (by first | assumption | omega) | exact tx_20 (by first | assumption | omega) | exact tx_27 (by first | assumption | omega) | exact tx_28 (by first | assumption | omega) | exact tx_30 (by first | assumption | omega) | exact tx_31 (by first | assumption | omega) | exact tx_32 (by first | assumption | omega) | exact tx_33 (by first | assumption | omega)) (by rfl) (fun w hR => ?_)
  refine z_aload_n h dX3_empty_34 rfl ?_
  refine z_iconst (v := 0) h dX3_empty_35 (by decide) ?_
  refine y_put h dX3_empty_36 he hR flX3_65 rfl (by first | assumption | exact Nat.le_of_ble_eq_true rfl) (by first | rfl | assumption | exact tx_2 (by first | assumption | omega) | exact tx_18 (by first | assumption | omega) | exact tx_19 (by first | assumption | omega) | exact tx_20 (by first | assumption | omega) | exact tx_27 (by first | assumption | omega) | exact tx_28 (by first | assumption | omega) | exact tx_30 (by first | assumption | omega) | exact tx_31 (by first | assumption | omega) | exact tx_32 (by first | assumption | omega) | exact tx_33 (by first | assumption | omega)) (by rfl) (fun w hR => ?_)
  refine z_aload_n h dX3_empty_39 rfl ?_
  refine z_iconst (v := 0) h dX3_empty_40 (by decide) ?_
  refine y_put h dX3_empty_41 he hR flX3_44 rfl (by first | assumption | exact Nat.le_of_ble_eq_true rfl) (by first | rfl | assumption | exact tx_2 (by first | assumption | omega) | exact tx_18 (by first | assumption | omega) | exact tx_19 (by first | assumption | omega) | exact tx_20 (by first | assumption | omega) | exact tx_27 (by first | assumption | omega) | exact tx_28 (by first | assumption | omega) | exact tx_30 (by first | assumption | omega) | exact tx_31 (by first | assumption | omega) | exact tx_32 (by first | assumption | omega) | exact tx_33 (by first | assumption | omega)) (by rfl) (fun w hR => ?_)
  refine z_aload_n h dX3_empty_44 rfl ?_
  refine z_iconst (v := 0) h dX3_empty_45 (by decide) ?_
  refine y_put h dX3_empty_46 he hR flX3_41 rfl (by first | assumption | exact Nat.le_of_ble_eq_true rfl) (by first | rfl | assumption | exact tx_2 (by first | assumption | omega) | exact tx_18 (by first | assumption | omega) | exact tx_19 (by first | assumption | omega) | exact tx_20 (by first | assumption | omega) | exact tx_27 (by first | assumption | omega) | exact tx_28 (by first | assumption | omega) | exact tx_30 (by first | assumption | omega) | exact tx_31 (by first | assumption | omega) | exact tx_32 (by first | assumption | omega) | exact tx_33 (by first | assumption | omega)) (by rfl) (fun w hR => ?_)
  refine z_aload_n h dX3_empty_49 rfl ?_
  refine z_iconst (v := 0) h dX3_empty_50 (by decide) ?_
  refine y_put h dX3_empty_51 he hR flX3_47 rfl (by first | assumption | exact Nat.le_of_ble_eq_true rfl) (by first | rfl | assumption | exact tx_2 (by first | assumption | omega) | exact tx_18 (by first | assumption | omega) | exact tx_19 (by first | assumption | omega) | exact tx_20 (by first | assumption | omega) | exact tx_27 (by first | assumption | omega) | exact tx_28 (by first | assumption | omega) | exact tx_30 (by first | assumption | omega) | exact tx_31 (by first | assumption | omega) | exact tx_32 (by first | assumption | omega) | exact tx_33 (by first | assumption | omega)) (by rfl) (fun w hR => ?_)
  refine z_aload_n h dX3_empty_54 rfl ?_
  refine z_iconst (v := 0) h dX3_empty_55 (by decide) ?_
  refine y_put h dX3_empty_56 he hR flX3_56 rfl (by first | assumption | exact Nat.le_of_ble_eq_true rfl) (by first | rfl | assumption | exact tx_2 (by first | assumption | omega) | exact tx_18 (by first | assumption | omega) | exact tx_19 (by first | assumption | omega) | exact tx_20 (by first | assumption | omega) | exact tx_27 (by first | assumption | omega) | exact tx_28 (by first | assumption | omega) | exact tx_30 (by first | assumption | omega) | exact tx_31 (by first | assumption | omega) | exact tx_32 (by first | assumption | omega) | exact tx_33 (by first | assumption | omega)) (by rfl) (fun w hR => ?_)
  refine z_aload_n h dX3_empty_59 rfl ?_
  refine z_iconst (v := 0) h dX3_empty_60 (by decide) ?_
  refine y_put h dX3_empty_61 he hR flX3_84 rfl (by first | assumption | exact Nat.le_of_ble_eq_true rfl) (by first | rfl | assumption | exact tx_2 (by first | assumption | omega) | exact tx_18 (by first | assumption | omega) | exact tx_19 (by first | assumption | omega) | exact tx_20 (by first | assumption | omega) | exact tx_27 (by first | assumption | omega) | exact tx_28 (by first | assumption | omega) | exact tx_30 (by first | assumption | omega) | exact tx_31 (by first | assumption | omega) | exact tx_32 (by first | assumption | omega) | exact tx_33 (by first | assumption | omega)) (by rfl) (fun w hR => ?_)
  refine z_aload_n h dX3_empty_64 rfl ?_
  refine z_iconst (v := -1) h dX3_empty_65 (by decide) ?_
  refine y_put h dX3_empty_66 he hR flX3_21 rfl (by first | assumption | exact Nat.le_of_ble_eq_true rfl) (by first | rfl | assumption | exact tx_2 (by first | assumption | omega) | exact tx_18 (by first | assumption | omega) | exact tx_19 (by first | assumption | omega) | exact tx_20 (by first | assumption | omega) | exact tx_27 (by first | assumption | omega) | exact tx_28 (by first | assumption | omega) | exact tx_30 (by first | assumption | omega) | exact tx_31 (by first | assumption | omega) | exact tx_32 (by first | assumption | omega) | exact tx_33 (by first | assumption | omega)) (by rfl) (fun w hR => ?_)
  exact z_vret h dX3_empty_69 hr (⟨rfl, hR⟩)
set_option maxHeartbeats 4000000 in
set_option maxRecDepth 100000 in
theorem m_X3_reduce (G : z_G) {nb na np g : Nat} {w0 w : z_w} {c : r_c} {l : r_l} {r : r_r} (hR : r_p dX (TX nb na np g) w0 c l r w) (k : Nat) (m : Nat → Nat) (hk : k < 2 ^ 22) (hm : ∀ i, i < 12 → m i < 2 ^ 31 ∧ c (14, 0) i = nI (m i)) : z_M G yX3_reduce cX3_reduce 3 none 4 (0) (0) [vr (13, 0), vi (nI k), vr (44, 0)] w (fun q w1 => q = none ∧ if k = 0 then w1 = w else ∃ sf lf, r_p dX (TX nb na np g) w0 (r_cs (r_cf (r_cf (r_cf c (45, 0) sf) (14, 0) (fun i => c (14, 0) i - nI (ptt k m 12 i))) (15, 0) (fun i => c (15, 0) i + nI (ptt k m 12 i))) (13, 0) 3 (c (13, 0) 3 - nI k)) (r_cf l (46, 0) lf) (r) w1) := by
  refine z_met ym_X3_reduce (by decide) ⟨Nat.le_of_ble_eq_true rfl, Nat.le_of_ble_eq_true rfl⟩ (fun X hG hn hmc hms hin h hr => ?_)
  have he := hr.2.2.2.2.2.1
  refine z_iload_n h dX3_reduce_0 rfl ?_
  refine z_if_le h dX3_reduce_1 27 (by decide) (fun c_1 => ?_) (fun c_1 => ?_)
  · skip
    have hk0 : k = 0 := by have := (nI_leI (a := k) (b := 0) (by omega) (by omega)).mp c_1; omega
    exact z_vret h dX3_reduce_27 hr (⟨rfl, z_t hk0 rfl⟩)
  · skip
    have hk0 : ¬ k = 0 := fun q => c_1 (by subst q; decide)
    refine z_aload_n h dX3_reduce_4 rfl ?_
    refine z_iload_n h dX3_reduce_5 rfl ?_
    refine z_aload_n h dX3_reduce_6 rfl ?_
    refine y_getr h dX3_reduce_7 hR flX3_9 (by first | assumption | exact Nat.le_of_ble_eq_true rfl) (by first | rfl | assumption | exact tx_2 (by first | assumption | omega) | exact tx_18 (by first | assumption | omega) | exact tx_19 (by first | assumption | omega) | exact tx_20 (by first | assumption | omega) | exact tx_27 (by first | assumption | omega) | exact tx_28 (by first | assumption | omega) | exact tx_30 (by first | assumption | omega) | exact tx_31 (by first | assumption | omega) | exact tx_32 (by first | assumption | omega) | exact tx_33 (by first | assumption | omega)) (by rfl) ?_
    refine z_aload_n h dX3_reduce_10 rfl ?_
    refine y_getr h dX3_reduce_11 hR flX3_15 (by first | assumption | exact Nat.le_of_ble_eq_true rfl) (by first | rfl | assumption | exact tx_2 (by first | assumption | omega) | exact tx_18 (by first | assumption | omega) | exact tx_19 (by first | assumption | omega) | exact tx_20 (by first | assumption | omega) | exact tx_27 (by first | assumption | omega) | exact tx_28 (by first | assumption | omega) | exact tx_30 (by first | assumption | omega) | exact tx_31 (by first | assumption | omega) | exact tx_32 (by first | assumption | omega) | exact tx_33 (by first | assumption | omega)) (by rfl) ?_
    refine z_callV h dX3_reduce_14 (fun _ _ q => z_okv_no he q) (fun _ _ _ t q => absurd q (he t)) (m_X6_carry _ hR (14, 0) (15, 0) 12 k m (Nat.le_of_ble_eq_true rfl) rfl (Nat.le_of_ble_eq_true rfl) rfl rfl rfl rfl (by omega) (by omega) hk hm) ym_X6_carry mlX3_78 im_X6_carry (ci := 6) rfl se_X6_carry icX6 rfl (r_p.ob hR (by first | assumption | exact Nat.le_of_ble_eq_true rfl) (by first | rfl | assumption | exact tx_2 (by first | assumption | omega) | exact tx_18 (by first | assumption | omega) | exact tx_19 (by first | assumption | omega) | exact tx_20 (by first | assumption | omega) | exact tx_27 (by first | assumption | omega) | exact tx_28 (by first | assumption | omega) | exact tx_30 (by first | assumption | omega) | exact tx_31 (by first | assumption | omega) | exact tx_32 (by first | assumption | omega) | exact tx_33 (by first | assumption | omega))) rfl (by decide) (Nat.le_of_ble_eq_true rfl) ?_
    rintro q1 w ⟨rfl, sf, lf, hR⟩
    refine z_aload_n h dX3_reduce_17 rfl ?_
    refine z_dup_r h dX3_reduce_18 ?_
    refine y_geti h dX3_reduce_19 hR flX3_31 (by first | assumption | exact Nat.le_of_ble_eq_true rfl) (by first | rfl | assumption | exact tx_2 (by first | assumption | omega) | exact tx_18 (by first | assumption | omega) | exact tx_19 (by first | assumption | omega) | exact tx_20 (by first | assumption | omega) | exact tx_27 (by first | assumption | omega) | exact tx_28 (by first | assumption | omega) | exact tx_30 (by first | assumption | omega) | exact tx_31 (by first | assumption | omega) | exact tx_32 (by first | assumption | omega) | exact tx_33 (by first | assumption | omega)) (by rfl) ?_
    refine z_iload_n h dX3_reduce_22 rfl ?_
    refine z_isub h dX3_reduce_23 ?_
    refine y_put h dX3_reduce_24 he hR flX3_31 rfl (by first | assumption | exact Nat.le_of_ble_eq_true rfl) (by first | rfl | assumption | exact tx_2 (by first | assumption | omega) | exact tx_18 (by first | assumption | omega) | exact tx_19 (by first | assumption | omega) | exact tx_20 (by first | assumption | omega) | exact tx_27 (by first | assumption | omega) | exact tx_28 (by first | assumption | omega) | exact tx_30 (by first | assumption | omega) | exact tx_31 (by first | assumption | omega) | exact tx_32 (by first | assumption | omega) | exact tx_33 (by first | assumption | omega)) (by rfl) (fun w hR => ?_)
    exact z_vret h dX3_reduce_27 hr (⟨rfl, z_f hk0 ⟨sf, lf, hR⟩⟩)
