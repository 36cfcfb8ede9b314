/-! the reference: its tape -/
set_option maxHeartbeats 4000000 in
set_option maxRecDepth 100000 in
theorem m_X12_byteOf (G : z_G) (w : z_w) (a b e u v : Int32) (k : Nat) (hk : k < 20) : z_M G yX12_byteOf cX12_byteOf 7 (some .int) 1 (0) (0) [vi a, vi b, vi e, vi u, vi v, vi (nI k)] w (fun q w1 => q = some (vi (t_pc (t_w5 a b e u v k) (3 - k % 4))) ∧ w1 = w) := by
  refine z_met ym_X12_byteOf (by decide) ⟨Nat.le_of_ble_eq_true rfl, Nat.le_of_ble_eq_true rfl⟩ (fun X hG hn hmc hms hin h hr => ?_)
  have he := hr.2.2.2.2.2.1
  have join_45 : z_V X 0 0 w 45 [(0, vi a), (1, vi b), (2, vi e), (3, vi u), (4, vi v), (5, vi (nI k))] [vi (t_w5 a b e u v k)] := by
    refine z_istore h dX12_byteOf_45 (by rw [hn]; decide) ?_
    refine z_iload h dX12_byteOf_47 rfl ?_
    refine z_bipush (v := 24) h dX12_byteOf_49 (by decide) ?_
    refine z_bipush (v := 8) h dX12_byteOf_51 (by decide) ?_
    refine z_iload h dX12_byteOf_53 rfl ?_
    refine z_iconst (v := 4) h dX12_byteOf_55 (by decide) ?_
    refine z_irem h dX12_byteOf_56 (by first | assumption | decide) ?_
    refine z_imul h dX12_byteOf_57 ?_
    refine z_isub h dX12_byteOf_58 ?_
    refine z_toe (y := nI (8 * (3 - k % 4))) (t_sh20 k hk) ?_
    refine z_ishr h dX12_byteOf_59 ?_
    refine z_sipush (v := 255) h dX12_byteOf_60 (by decide) ?_
    refine z_iand h dX12_byteOf_63 ?_
    exact z_iret h dX12_byteOf_64 hr (⟨z_e1 (t_by _ _ (by omega)), rfl⟩)
  refine z_iload h dX12_byteOf_0 rfl ?_
  refine z_iconst (v := 4) h dX12_byteOf_2 (by decide) ?_
  refine z_icmp_ge h dX12_byteOf_3 10 (by decide) (fun c_1 => ?_) (fun c_1 => ?_)
  · skip
    have e1 : 4 ≤ k := (nI_leI (a := 4) (by omega) (by omega)).mp c_1
    refine z_iload h dX12_byteOf_10 rfl ?_
    refine z_bipush (v := 8) h dX12_byteOf_12 (by decide) ?_
    refine z_icmp_ge h dX12_byteOf_14 21 (by decide) (fun c_2 => ?_) (fun c_2 => ?_)
    · skip
      have e1 : 8 ≤ k := (nI_leI (a := 8) (by omega) (by omega)).mp c_2
      refine z_iload h dX12_byteOf_21 rfl ?_
      refine z_bipush (v := 12) h dX12_byteOf_23 (by decide) ?_
      refine z_icmp_ge h dX12_byteOf_25 32 (by decide) (fun c_3 => ?_) (fun c_3 => ?_)
      · skip
        have e1 : 12 ≤ k := (nI_leI (a := 12) (by omega) (by omega)).mp c_3
        refine z_iload h dX12_byteOf_32 rfl ?_
        refine z_bipush (v := 16) h dX12_byteOf_34 (by decide) ?_
        refine z_icmp_ge h dX12_byteOf_36 43 (by decide) (fun c_4 => ?_) (fun c_4 => ?_)
        · skip
          have e1 : 16 ≤ k := (nI_leI (a := 16) (by omega) (by omega)).mp c_4
          refine z_iload h dX12_byteOf_43 rfl ?_
          refine z_toe (y := (t_w5 a b e u v k)) (by unfold t_w5; rw [if_neg (by omega), if_neg (by omega), if_neg (by omega), if_neg (by omega)]) ?_
          exact z_loc [(0, vi a), (1, vi b), (2, vi e), (3, vi u), (4, vi v), (5, vi (nI k))] ⟨rfl, rfl, rfl, rfl, rfl, rfl, trivial⟩ join_45
        · skip
          have e1 : ¬ 16 ≤ k := fun q => c_4 ((nI_leI (a := 16) (by omega) (by omega)).mpr q)
          refine z_iload_n h dX12_byteOf_39 rfl ?_
          refine z_goto h dX12_byteOf_40 45 (by decide) ?_
          refine z_toe (y := (t_w5 a b e u v k)) (by unfold t_w5; rw [if_neg (by omega), if_neg (by omega), if_neg (by omega), if_pos (by omega)]) ?_
          exact z_loc [(0, vi a), (1, vi b), (2, vi e), (3, vi u), (4, vi v), (5, vi (nI k))] ⟨rfl, rfl, rfl, rfl, rfl, rfl, trivial⟩ join_45
      · skip
        have e1 : ¬ 12 ≤ k := fun q => c_3 ((nI_leI (a := 12) (by omega) (by omega)).mpr q)
        refine z_iload_n h dX12_byteOf_28 rfl ?_
        refine z_goto h dX12_byteOf_29 45 (by decide) ?_
        refine z_toe (y := (t_w5 a b e u v k)) (by unfold t_w5; rw [if_neg (by omega), if_neg (by omega), if_pos (by omega)]) ?_
        exact z_loc [(0, vi a), (1, vi b), (2, vi e), (3, vi u), (4, vi v), (5, vi (nI k))] ⟨rfl, rfl, rfl, rfl, rfl, rfl, trivial⟩ join_45
    · skip
      have e1 : ¬ 8 ≤ k := fun q => c_2 ((nI_leI (a := 8) (by omega) (by omega)).mpr q)
      refine z_iload_n h dX12_byteOf_17 rfl ?_
      refine z_goto h dX12_byteOf_18 45 (by decide) ?_
      refine z_toe (y := (t_w5 a b e u v k)) (by unfold t_w5; rw [if_neg (by omega), if_pos (by omega)]) ?_
      exact z_loc [(0, vi a), (1, vi b), (2, vi e), (3, vi u), (4, vi v), (5, vi (nI k))] ⟨rfl, rfl, rfl, rfl, rfl, rfl, trivial⟩ join_45
  · skip
    have e1 : ¬ 4 ≤ k := fun q => c_1 ((nI_leI (a := 4) (by omega) (by omega)).mpr q)
    refine z_iload_n h dX12_byteOf_6 rfl ?_
    refine z_goto h dX12_byteOf_7 45 (by decide) ?_
    refine z_toe (y := (t_w5 a b e u v k)) (by unfold t_w5; rw [if_pos (by omega)]) ?_
    exact z_loc [(0, vi a), (1, vi b), (2, vi e), (3, vi u), (4, vi v), (5, vi (nI k))] ⟨rfl, rfl, rfl, rfl, rfl, rfl, trivial⟩ join_45
def FC (c : r_c) (nt : Nat) (L : List Int32) : r_c := r_cf (r_cs c (100, 0) 32 (nI (nt + L.length))) (131, 0) (tp_ws (c (131, 0)) nt L)
theorem fc_0 {c : r_c} {nt : Nat} (h : c (100, 0) 32 = nI nt) : FC c nt [] = c := by
  unfold FC
  have e : r_cs c (100, 0) 32 (nI (nt + ([] : List Int32).length)) = c := by
    rw [show nt + ([] : List Int32).length = nt from rfl, ← h, r_cs, upd_same, r_cf_same]
  rw [e]
  exact r_cf_same _ _
theorem fc_sz {c : r_c} {nt : Nat} {L : List Int32} : FC c nt L (100, 0) 32 = nI (nt + L.length) := by unfold FC; rw [r_cf_ne (by simp), r_cs, r_cf_self, pk_us]
theorem fc_st {c : r_c} {nt : Nat} {L : List Int32} {b : Int32} : r_cs (r_cs (FC c nt L) (131, 0) (nt + L.length) b) (100, 0) 32 (nI (nt + L.length + 1)) = FC c nt (L ++ [b]) := by
  have e1 : r_cs (FC c nt L) (131, 0) (nt + L.length) b = r_cf (r_cs c (100, 0) 32 (nI (nt + L.length))) (131, 0) (tp_ws (c (131, 0)) nt (L ++ [b])) := by
    unfold FC; rw [r_cs, r_cf_self, r_cf_cf, tp_ws_one]
  rw [e1, r_cs, r_cf_ne (t := (131, 0)) (by simp), r_cs, r_cf_self, upd_upd, r_cf_comm (t := (131, 0)) (u := (100, 0)) rfl, r_cf_cf]
  unfold FC
  rw [r_cs, List.length_append]
  rfl
theorem t_lb_1 {a b e u v : Int32} {k : Nat} (h : t_pc (t_w5 a b e u v k) (3 - k % 4) = 0) : t_lb a b e u v (k + 1) = t_lb a b e u v k := by rw [t_lb]; unfold t_o; rw [if_pos h, List.append_nil]
theorem t_lb_2 {a b e u v : Int32} {k : Nat} (h : ¬ t_pc (t_w5 a b e u v k) (3 - k % 4) = 0) : t_lb a b e u v (k + 1) = t_lb a b e u v k ++ [t_pc (t_w5 a b e u v k) (3 - k % 4)] := by rw [t_lb]; unfold t_o; rw [if_neg h]
set_option maxHeartbeats 4000000 in
set_option maxRecDepth 100000 in
theorem m_X12_feed (G : z_G) {g : Nat} {w0 w : z_w} {c : r_c} {l : r_l} {r : r_r} (hR : r_p dM (TM g) w0 c l r w) (nt : Nat) (hct : c (100, 0) 32 = nI nt) (hlt : nt ≤ 200) (a b e u v : Int32) : z_M G yX12_feed cX12_feed 9 (some .int) 2 (0) (0) [vr (100, 0), vi a, vi b, vi e, vi u, vi v] w (fun q w1 => if nt + (t_rs a 4 ++ t_rs b 4 ++ t_rs e 4 ++ t_rs u 4 ++ t_rs v 4).length ≤ 200 then q = some (vi (nI (nt + (t_rs a 4 ++ t_rs b 4 ++ t_rs e 4 ++ t_rs u 4 ++ t_rs v 4).length))) ∧ r_p dM (TM g) w0 (FC c nt (t_rs a 4 ++ t_rs b 4 ++ t_rs e 4 ++ t_rs u 4 ++ t_rs v 4)) l r w1 else q = some (vi (-1)) ∧ w1 = w) := by
  refine z_met ym_X12_feed (by decide) ⟨Nat.le_of_ble_eq_true rfl, Nat.le_of_ble_eq_true rfl⟩ (fun X hG hn hmc hms hin h hr => ?_)
  have he := hr.2.2.2.2.2.1
  refine z_iconst (v := 0) h dX12_feed_0 (by decide) ?_
  refine z_istore h dX12_feed_1 (by rw [hn]; decide) ?_
  refine z_iconst (v := 0) h dX12_feed_3 (by decide) ?_
  refine z_istore h dX12_feed_4 (by rw [hn]; decide) ?_
  have loop_6 : ∀ (n_ : Nat) (k : Nat), k ≤ 20 → 20 + 1 ≤ k + n_ → z_V X 0 0 w 6 [(0, vr (100, 0)), (1, vi a), (2, vi b), (3, vi e), (4, vi u), (5, vi v), (6, vi (nI (t_lb a b e u v k).length)), (7, vi (nI k))] [] := by
    intro n_
    induction n_ with
    | zero => intros; omega
    | succ n_ ih_6 =>
      intro k hk hN
      refine z_iload h dX12_feed_6 rfl ?_
      refine z_bipush (v := 20) h dX12_feed_8 (by decide) ?_
      refine z_icmp_ge h dX12_feed_10 44 (by decide) (fun c_1 => ?_) (fun c_1 => ?_)
      · skip
        have e1 : 20 ≤ k := (nI_leI (a := 20) (by omega) (by omega)).mp c_1
        refine z_aload_n h dX12_feed_44 rfl ?_
        refine y_geti h dX12_feed_45 hR flX12_234 (Nat.le_of_ble_eq_true rfl) (by rfl) (by rfl) ?_
        have hk20 : k = 20 := by omega
        rw [hk20]
        have hl20 := t_lb_len a b e u v 20
        obtain ⟨T20, hT20⟩ : ∃ x, x = t_lb a b e u v 20 := ⟨_, rfl⟩
        rw [← hT20] at hl20 ⊢
        rw [hct]
        refine z_iload h dX12_feed_48 rfl ?_
        refine z_iadd h dX12_feed_50 ?_
        refine z_toe (y := nI (nt + T20.length)) (nI_add _ _) ?_
        refine z_sipush (v := 200) h dX12_feed_51 (by decide) ?_
        refine z_icmp_le h dX12_feed_54 59 (by decide) (fun c_3 => ?_) (fun c_3 => ?_)
        · skip
          have e3 : nt + T20.length ≤ 200 := (nI_leI (b := 200) (by omega) (by decide)).mp c_3
          refine z_iconst (v := 0) h dX12_feed_59 (by decide) ?_
          refine z_istore h dX12_feed_60 (by rw [hn]; decide) ?_
          have loop_62 : ∀ (m_ : Nat) (k : Nat) (w : z_w), r_p dM (TM g) w0 (FC c nt (t_lb a b e u v k)) l r w → k ≤ 20 → 20 + 1 ≤ k + m_ → z_V X 0 0 w 62 [(0, vr (100, 0)), (1, vi a), (2, vi b), (3, vi e), (4, vi u), (5, vi v), (7, vi (nI k))] [] := by
            intro m_
            induction m_ with
            | zero => intros; omega
            | succ m_ ih_62 =>
              intro k w hR hk hN
              have hlk := t_lb_len a b e u v k
              refine z_iload h dX12_feed_62 rfl ?_
              refine z_bipush (v := 20) h dX12_feed_64 (by decide) ?_
              refine z_icmp_ge h dX12_feed_66 115 (by decide) (fun c_4 => ?_) (fun c_4 => ?_)
              · skip
                have e1 : 20 ≤ k := (nI_leI (a := 20) (by omega) (by omega)).mp c_4
                refine z_aload_n h dX12_feed_115 rfl ?_
                refine y_geti h dX12_feed_116 hR flX12_234 (Nat.le_of_ble_eq_true rfl) (by rfl) (by rfl) ?_
                exact z_iret h dX12_feed_119 hr (z_t (by rw [← t_lb_20, ← hT20]; exact e3) ⟨z_e1 (by rw [fc_sz, show k = 20 by omega, t_lb_20]), by rw [show k = 20 by omega, t_lb_20] at hR; exact hR⟩)
              · skip
                have e1 : ¬ 20 ≤ k := fun q => c_4 ((nI_leI (a := 20) (by omega) (by omega)).mpr q)
                refine z_iload_n h dX12_feed_69 rfl ?_
                refine z_iload_n h dX12_feed_70 rfl ?_
                refine z_iload_n h dX12_feed_71 rfl ?_
                refine z_iload h dX12_feed_72 rfl ?_
                refine z_iload h dX12_feed_74 rfl ?_
                refine z_iload h dX12_feed_76 rfl ?_
                refine z_callS h dX12_feed_78 (fun _ _ q => z_okv_no he q) (fun _ _ _ t q => absurd q (he t)) (m_X12_byteOf _ _ a b e u v k (by omega)) ym_X12_byteOf mlX12_230 sm_X12_byteOf rfl (by decide) (Nat.le_of_ble_eq_true rfl) ?_
                rintro q1 w1 ⟨rfl, hw1⟩
                have hw1 := hw1.symm; subst hw1
                refine z_istore h dX12_feed_81 (by rw [hn]; decide) ?_
                refine z_iload h dX12_feed_83 rfl ?_
                refine z_if_eq h dX12_feed_85 109 (by decide) (fun c_5 => ?_) (fun c_5 => ?_)
                · skip
                  refine z_iinc (v := 1) h dX12_feed_109 rfl (by decide) (by rw [hn]; decide) ?_
                  refine z_goto h dX12_feed_112 62 (by decide) ?_
                  refine z_loc [(0, vr (100, 0)), (1, vi a), (2, vi b), (3, vi e), (4, vi u), (5, vi v), (7, vi (nI (k + 1)))] ⟨rfl, rfl, rfl, rfl, rfl, rfl, congrArg (fun z => some (vi z)) (z_up k), trivial⟩ ?_
                  exact ih_62 (k + 1) w (by rw [t_lb_1 c_5]; exact hR) (by omega) (by omega)
                · skip
                  refine z_aload_n h dX12_feed_88 rfl ?_
                  refine y_getr h dX12_feed_89 hR flX12_64 (Nat.le_of_ble_eq_true rfl) (by rfl) (by rfl) ?_
                  refine z_aload_n h dX12_feed_92 rfl ?_
                  refine y_geti h dX12_feed_93 hR flX12_234 (Nat.le_of_ble_eq_true rfl) (by rfl) (by rfl) ?_
                  refine z_toe (y := nI (nt + (t_lb a b e u v k).length)) fc_sz ?_
                  refine z_iload h dX12_feed_96 rfl ?_
                  refine y_iast h dX12_feed_98 hR (Nat.le_of_ble_eq_true rfl) (by rfl) (z_ixn (show nt + (t_lb a b e u v k).length < 220 by omega) (by decide)) (fun w hR => ?_)
                  refine z_aload_n h dX12_feed_99 rfl ?_
                  refine z_dup_r h dX12_feed_100 ?_
                  refine y_geti h dX12_feed_101 hR flX12_234 (Nat.le_of_ble_eq_true rfl) (by rfl) (by rfl) ?_
                  refine z_iconst (v := 1) h dX12_feed_104 (by decide) ?_
                  refine z_iadd h dX12_feed_105 ?_
                  refine z_toe (y := nI (nt + (t_lb a b e u v k).length + 1)) (by rw [r_cs, r_cf_ne (by simp), fc_sz]; exact z_up _) ?_
                  refine y_put h dX12_feed_106 he hR flX12_234 rfl (Nat.le_of_ble_eq_true rfl) (by rfl) (by rfl) (fun w hR => ?_)
                  refine z_iinc (v := 1) h dX12_feed_109 rfl (by decide) (by rw [hn]; decide) ?_
                  refine z_goto h dX12_feed_112 62 (by decide) ?_
                  refine z_loc [(0, vr (100, 0)), (1, vi a), (2, vi b), (3, vi e), (4, vi u), (5, vi v), (7, vi (nI (k + 1)))] ⟨rfl, rfl, rfl, rfl, rfl, rfl, congrArg (fun z => some (vi z)) (z_up k), trivial⟩ ?_
                  exact ih_62 (k + 1) w (by rw [t_lb_2 c_5, ← fc_st]; exact hR) (by omega) (by omega)
          exact z_loc [(0, vr (100, 0)), (1, vi a), (2, vi b), (3, vi e), (4, vi u), (5, vi v), (7, vi (nI 0))] ⟨rfl, rfl, rfl, rfl, rfl, rfl, rfl, trivial⟩ (loop_62 (20 + 1) 0 w (by rw [show (t_lb a b e u v 0) = [] from rfl, fc_0 hct]; exact hR) (by omega) (by omega))
        · skip
          have e3 : ¬ nt + T20.length ≤ 200 := fun q => c_3 ((nI_leI (b := 200) (by omega) (by decide)).mpr q)
          refine z_iconst (v := -1) h dX12_feed_57 (by decide) ?_
          exact z_iret h dX12_feed_58 hr (z_f (fun q => e3 (by rw [hT20, t_lb_20]; exact q)) ⟨rfl, rfl⟩)
      · skip
        have e1 : ¬ 20 ≤ k := fun q => c_1 ((nI_leI (a := 20) (by omega) (by omega)).mpr q)
        refine z_iload h dX12_feed_13 rfl ?_
        refine z_iload_n h dX12_feed_15 rfl ?_
        refine z_iload_n h dX12_feed_16 rfl ?_
        refine z_iload_n h dX12_feed_17 rfl ?_
        refine z_iload h dX12_feed_18 rfl ?_
        refine z_iload h dX12_feed_20 rfl ?_
        refine z_iload h dX12_feed_22 rfl ?_
        refine z_callS h dX12_feed_24 (fun _ _ q => z_okv_no he q) (fun _ _ _ t q => absurd q (he t)) (m_X12_byteOf _ _ a b e u v k (by omega)) ym_X12_byteOf mlX12_230 sm_X12_byteOf rfl (by decide) (Nat.le_of_ble_eq_true rfl) ?_
        rintro q1 w1 ⟨rfl, hw1⟩
        have hw1 := hw1.symm; subst hw1
        refine z_if_eq h dX12_feed_27 34 (by decide) (fun c_2 => ?_) (fun c_2 => ?_)
        · skip
          refine z_iconst (v := 0) h dX12_feed_34 (by decide) ?_
          refine z_iadd h dX12_feed_35 ?_
          refine z_istore h dX12_feed_36 (by rw [hn]; decide) ?_
          refine z_iinc (v := 1) h dX12_feed_38 rfl (by decide) (by rw [hn]; decide) ?_
          refine z_goto h dX12_feed_41 6 (by decide) ?_
          refine z_loc [(0, vr (100, 0)), (1, vi a), (2, vi b), (3, vi e), (4, vi u), (5, vi v), (6, vi (nI (t_lb a b e u v (k + 1)).length)), (7, vi (nI (k + 1)))] ⟨rfl, rfl, rfl, rfl, rfl, rfl, by rw [t_lb_1 c_2]; exact congrArg (fun z => some (vi z)) (Int32.add_zero _), congrArg (fun z => some (vi z)) (z_up k), trivial⟩ ?_
          exact ih_6 (k + 1) (by omega) (by omega)
        · skip
          refine z_iconst (v := 1) h dX12_feed_30 (by decide) ?_
          refine z_goto h dX12_feed_31 35 (by decide) ?_
          refine z_iadd h dX12_feed_35 ?_
          refine z_istore h dX12_feed_36 (by rw [hn]; decide) ?_
          refine z_iinc (v := 1) h dX12_feed_38 rfl (by decide) (by rw [hn]; decide) ?_
          refine z_goto h dX12_feed_41 6 (by decide) ?_
          refine z_loc [(0, vr (100, 0)), (1, vi a), (2, vi b), (3, vi e), (4, vi u), (5, vi v), (6, vi (nI (t_lb a b e u v (k + 1)).length)), (7, vi (nI (k + 1)))] ⟨rfl, rfl, rfl, rfl, rfl, rfl, by rw [t_lb_2 c_2, List.length_append]; exact congrArg (fun z => some (vi z)) (z_up _), congrArg (fun z => some (vi z)) (z_up k), trivial⟩ ?_
          exact ih_6 (k + 1) (by omega) (by omega)
  exact z_loc [(0, vr (100, 0)), (1, vi a), (2, vi b), (3, vi e), (4, vi u), (5, vi v), (6, vi (nI (t_lb a b e u v 0).length)), (7, vi (nI 0))] ⟨rfl, rfl, rfl, rfl, rfl, rfl, rfl, rfl, trivial⟩ (loop_6 (20 + 1) 0 (by omega) (by omega))
theorem r_cs_cs {c : r_c} {t : z_T} {k : Nat} {a b : Int32} : r_cs (r_cs c t k a) t k b = r_cs c t k b := by rw [r_cs, r_cs, r_cf_self, upd_upd, r_cf_cf]
theorem ca_33 {c : r_c} {a : Int32} : r_cs c (100, 0) 33 a (100, 0) 33 = a := by rw [r_cs, r_cf_self, pk_us]
theorem ca_k {c : r_c} {a : Int32} {k : Nat} (h : k ≠ 33) : r_cs c (100, 0) 33 a (100, 0) k = c (100, 0) k := by rw [r_cs, r_cf_self, pk_un h]
theorem ca_ne {c : r_c} {a : Int32} {t : z_T} (h : t ≠ (100, 0)) : r_cs c (100, 0) 33 a t = c t := by rw [r_cs, r_cf_ne h]
set_option maxHeartbeats 4000000 in
set_option maxRecDepth 100000 in
theorem m_X12_look (G : z_G) {g : Nat} {w0 w : z_w} {c : r_c} {l : r_l} {r : r_r} {a : Nat} (hR : r_p dM (TM g) w0 (r_cs c (100, 0) 33 (nI a)) l r w) (nt : Nat) (hct : c (100, 0) 32 = nI nt) (hlt : nt ≤ 200) (ha : a ≤ nt) : z_M G yX12_look cX12_look 1 (some .int) 1 (0) (0) [vr (100, 0)] w (fun q w1 => q = some (vi (tv (c (131, 0)) nt (skp (c (131, 0)) nt a))) ∧ r_p dM (TM g) w0 (r_cs c (100, 0) 33 (nI (skp (c (131, 0)) nt a))) l r w1) := by
  refine z_met ym_X12_look (by decide) ⟨Nat.le_of_ble_eq_true rfl, Nat.le_of_ble_eq_true rfl⟩ (fun X hG hn hmc hms hin h hr => ?_)
  have he := hr.2.2.2.2.2.1
  have loop_0 : ∀ (n_ : Nat) (i : Nat) (w : z_w), r_p dM (TM g) w0 (r_cs c (100, 0) 33 (nI i)) l r w → skp (c (131, 0)) nt i = (skp (c (131, 0)) nt a) → i ≤ nt → nt + 1 ≤ i + n_ → z_V X 0 0 w 0 [(0, vr (100, 0))] [] := by
    intro n_
    induction n_ with
    | zero => intros; omega
    | succ n_ ih_0 =>
      intro i w hR hs hi hN
      refine z_aload_n h dX12_look_0 rfl ?_
      refine y_geti h dX12_look_1 hR flX12_237 (Nat.le_of_ble_eq_true rfl) (by rfl) (by rfl) ?_
      refine z_toe (y := nI i) ca_33 ?_
      refine z_aload_n h dX12_look_4 rfl ?_
      refine y_geti h dX12_look_5 hR flX12_234 (Nat.le_of_ble_eq_true rfl) (by rfl) (by rfl) ?_
      refine z_toe (y := nI nt) ((ca_k (by decide)).trans hct) ?_
      refine z_icmp_ge h dX12_look_8 38 (by decide) (fun c_1 => ?_) (fun c_1 => ?_)
      · skip
        have e1 : nt ≤ i := (nI_leI (by omega) (by omega)).mp c_1
        refine z_aload_n h dX12_look_38 rfl ?_
        refine y_geti h dX12_look_39 hR flX12_237 (Nat.le_of_ble_eq_true rfl) (by rfl) (by rfl) ?_
        refine z_toe (y := nI i) ca_33 ?_
        refine z_aload_n h dX12_look_42 rfl ?_
        refine y_geti h dX12_look_43 hR flX12_234 (Nat.le_of_ble_eq_true rfl) (by rfl) (by rfl) ?_
        refine z_toe (y := nI nt) ((ca_k (by decide)).trans hct) ?_
        refine z_icmp_ge h dX12_look_46 61 (by decide) (fun c_3 => ?_) (fun c_3 => ?_)
        · skip
          have e3 : nt ≤ i := (nI_leI (by omega) (by omega)).mp c_3
          refine z_iconst (v := -1) h dX12_look_61 (by decide) ?_
          exact z_iret h dX12_look_62 hr (⟨z_e1 (by rw [← hs, skp_no (fun q => by omega)]; exact (if_neg (by omega)).symm), by rw [← hs, skp_no (fun q => by omega)]; exact hR⟩)
        · skip
          have e3 : ¬ nt ≤ i := fun q => c_3 ((nI_leI (by omega) (by omega)).mpr q)
          refine z_aload_n h dX12_look_49 rfl ?_
          refine y_getr h dX12_look_50 hR flX12_64 (Nat.le_of_ble_eq_true rfl) (by rfl) (by rfl) ?_
          refine z_aload_n h dX12_look_53 rfl ?_
          refine y_geti h dX12_look_54 hR flX12_237 (Nat.le_of_ble_eq_true rfl) (by rfl) (by rfl) ?_
          refine z_toe (y := nI i) ca_33 ?_
          refine y_iald h dX12_look_57 hR (Nat.le_of_ble_eq_true rfl) (by rfl) (z_ixn (show i < 220 by omega) (by decide)) ?_
          refine z_toe (y := (c (131, 0)) i) (by rw [ca_ne (by simp)]) ?_
          refine z_goto h dX12_look_58 62 (by decide) ?_
          exact z_iret h dX12_look_62 hr (⟨z_e1 (by rw [← hs, skp_no (fun q => by omega)]; exact (if_pos (by omega)).symm), by rw [← hs, skp_no (fun q => by omega)]; exact hR⟩)
      · skip
        have e1 : ¬ nt ≤ i := fun q => c_1 ((nI_leI (by omega) (by omega)).mpr q)
        refine z_aload_n h dX12_look_11 rfl ?_
        refine y_getr h dX12_look_12 hR flX12_64 (Nat.le_of_ble_eq_true rfl) (by rfl) (by rfl) ?_
        refine z_aload_n h dX12_look_15 rfl ?_
        refine y_geti h dX12_look_16 hR flX12_237 (Nat.le_of_ble_eq_true rfl) (by rfl) (by rfl) ?_
        refine z_toe (y := nI i) ca_33 ?_
        refine y_iald h dX12_look_19 hR (Nat.le_of_ble_eq_true rfl) (by rfl) (z_ixn (show i < 220 by omega) (by decide)) ?_
        refine z_toe (y := (c (131, 0)) i) (by rw [ca_ne (by simp)]) ?_
        refine z_bipush (v := 32) h dX12_look_20 (by decide) ?_
        refine z_icmp_ne h dX12_look_22 38 (by decide) (fun c_2 => ?_) (fun c_2 => ?_)
        · skip
          refine z_aload_n h dX12_look_38 rfl ?_
          refine y_geti h dX12_look_39 hR flX12_237 (Nat.le_of_ble_eq_true rfl) (by rfl) (by rfl) ?_
          refine z_toe (y := nI i) ca_33 ?_
          refine z_aload_n h dX12_look_42 rfl ?_
          refine y_geti h dX12_look_43 hR flX12_234 (Nat.le_of_ble_eq_true rfl) (by rfl) (by rfl) ?_
          refine z_toe (y := nI nt) ((ca_k (by decide)).trans hct) ?_
          refine z_icmp_ge h dX12_look_46 61 (by decide) (fun c_3 => ?_) (fun c_3 => ?_)
          · skip
            have e3 : nt ≤ i := (nI_leI (by omega) (by omega)).mp c_3
            refine z_iconst (v := -1) h dX12_look_61 (by decide) ?_
            exact z_iret h dX12_look_62 hr (⟨z_e1 (by rw [← hs, skp_no (fun q => c_2 q.2)]; exact (if_neg (by omega)).symm), by rw [← hs, skp_no (fun q => c_2 q.2)]; exact hR⟩)
          · skip
            have e3 : ¬ nt ≤ i := fun q => c_3 ((nI_leI (by omega) (by omega)).mpr q)
            refine z_aload_n h dX12_look_49 rfl ?_
            refine y_getr h dX12_look_50 hR flX12_64 (Nat.le_of_ble_eq_true rfl) (by rfl) (by rfl) ?_
            refine z_aload_n h dX12_look_53 rfl ?_
            refine y_geti h dX12_look_54 hR flX12_237 (Nat.le_of_ble_eq_true rfl) (by rfl) (by rfl) ?_
            refine z_toe (y := nI i) ca_33 ?_
            refine y_iald h dX12_look_57 hR (Nat.le_of_ble_eq_true rfl) (by rfl) (z_ixn (show i < 220 by omega) (by decide)) ?_
            refine z_toe (y := (c (131, 0)) i) (by rw [ca_ne (by simp)]) ?_
            refine z_goto h dX12_look_58 62 (by decide) ?_
            exact z_iret h dX12_look_62 hr (⟨z_e1 (by rw [← hs, skp_no (fun q => c_2 q.2)]; exact (if_pos (by omega)).symm), by rw [← hs, skp_no (fun q => c_2 q.2)]; exact hR⟩)
        · skip
          refine z_aload_n h dX12_look_25 rfl ?_
          refine z_dup_r h dX12_look_26 ?_
          refine y_geti h dX12_look_27 hR flX12_237 (Nat.le_of_ble_eq_true rfl) (by rfl) (by rfl) ?_
          refine z_iconst (v := 1) h dX12_look_30 (by decide) ?_
          refine z_iadd h dX12_look_31 ?_
          refine z_toe (y := nI (i + 1)) (by rw [ca_33]; exact z_up i) ?_
          refine y_put h dX12_look_32 he hR flX12_237 rfl (Nat.le_of_ble_eq_true rfl) (by rfl) (by rfl) (fun w hR => ?_)
          refine z_goto h dX12_look_35 0 (by decide) ?_
          refine z_loc [(0, vr (100, 0))] ⟨rfl, trivial⟩ ?_
          exact ih_0 (i + 1) w (by rw [r_cs_cs] at hR; exact hR) (by rw [← hs]; exact (skp_st ⟨by omega, c_2⟩).symm) (by omega) (by omega)
  exact loop_0 (nt + 1) a w hR rfl ha (by omega)
set_option maxHeartbeats 4000000 in
set_option maxRecDepth 100000 in
theorem m_X12_clause (G : z_G) {g : Nat} {w0 w : z_w} {c : r_c} {l : r_l} {r : r_r} {a : Nat} (hR : r_p dM (TM g) w0 (r_cs c (100, 0) 33 (nI a)) l r w) (nt : Nat) (hct : c (100, 0) 32 = nI nt) (hlt : nt ≤ 200) (ha : a ≤ nt) (rm : Nat) (hcm : c (100, 0) 35 = nI rm) (hrm : 6 * rm ≤ a) (s0 : Int32) (hD : tD (c (131, 0)) a s0) (hs0 : s0 = 11 ∨ (s0 = 0 ∧ (skp (c (131, 0)) nt a) < nt)) (cX : r_c) (hq : lq cX (c (131, 0)) a rm c) : z_M G yX12_clause cX12_clause 5 (some .boolean) 2 (0) (0) [vr (100, 0)] w (fun q w1 => (q = some (vi 0) ∧ ∃ a1, a1 ≤ nt ∧ r_p dM (TM g) w0 (r_cs c (100, 0) 33 (nI a1)) l r w1 ∧ tp_ff (c (131, 0)) nt = nI a1) ∨ (q = some (vi 1) ∧ ∃ a1 c1, a + 5 ≤ a1 ∧ a1 ≤ nt ∧ tD (c (131, 0)) a1 10 ∧ r_p dM (TM g) w0 c1 l r w1 ∧ c1 (100, 0) 33 = nI a1 ∧ c1 (100, 0) 35 = nI (rm + 1) ∧ (∀ k, k ≠ 33 → k ≠ 35 → c1 (100, 0) k = c (100, 0) k) ∧ lq cX (c (131, 0)) a1 (rm + 1) c1 ∧ (∀ t, t ≠ (100, 0) → t ≠ (140, 0) → t ≠ (141, 0) → t ≠ (142, 0) → t ≠ (143, 0) → c1 t = c t))) := by
  refine z_met ym_X12_clause (by decide) ⟨Nat.le_of_ble_eq_true rfl, Nat.le_of_ble_eq_true rfl⟩ (fun X hG hn hmc hms hin h hr => ?_)
  have he := hr.2.2.2.2.2.1
  refine z_aload_n h dX12_clause_0 rfl ?_
  refine z_callV h dX12_clause_1 (fun _ _ q => z_okv_no he q) (fun _ _ _ t q => absurd q (he t)) (m_X12_look _ hR nt hct hlt (show a ≤ nt by omega)) ym_X12_look mlX12_240 im_X12_look (ci := 12) rfl se_X12_look icX12 rfl (r_p.ob hR (Nat.le_of_ble_eq_true rfl) (by rfl)) rfl (by decide) (Nat.le_of_ble_eq_true rfl) ?_
  rintro q1 w ⟨rfl, hR⟩
  obtain ⟨hg1a, hg1b, hg1c⟩ := skp_ge (f := (c (131, 0))) (n := nt) (a := a) (by omega)
  obtain ⟨a1, ha1⟩ : ∃ x, x = skp (c (131, 0)) nt (a) := ⟨_, rfl⟩
  rw [← ha1] at hR hg1a hg1b hg1c ⊢
  have hD1 : tD (c (131, 0)) a1 s0 := by rw [ha1]; exact skp_D ha hD (by rcases hs0 with q | q; rw [q]; decide; rw [q.1]; decide) (by rcases hs0 with q | q; rw [q]; decide; rw [q.1]; decide)
  have hs1 : s0 = 0 ∨ s0 = 11 := hs0.elim Or.inr (fun q => Or.inl q.1)
  have hq1 : lq cX (c (131, 0)) a1 rm c := by rw [ha1]; exact lq_sk ha hq
  refine z_istore_n h dX12_clause_4 (by rw [hn]; decide) ?_
  have join_31 : (tv (c (131, 0)) nt a1 = 104 ∨ tv (c (131, 0)) nt a1 = 109 ∨ tv (c (131, 0)) nt a1 = 99 ∨ tv (c (131, 0)) nt a1 = 111) → z_V X 0 0 w 31 [(0, vr (100, 0)), (1, vi (tv (c (131, 0)) nt a1))] [] := by
    intro hlet
    have hl1 : a1 < nt := by
      by_cases q : a1 < nt
      · exact q
      · unfold tv at hlet; rw [if_neg q] at hlet; exact absurd hlet (by decide)
    have ev1 : tv (c (131, 0)) nt a1 = (c (131, 0)) a1 := if_pos hl1
    rw [ev1] at hlet
    have h132 : (c (131, 0)) a1 ≠ 32 := fun q => hg1c ⟨hl1, q⟩
    have hD2 : tD (c (131, 0)) (a1 + 1) 1 := tD_st hD1 (by rw [af_let hs1 h132, if_pos hlet]) (by decide)
    obtain ⟨S0, A0, hp2⟩ := lp_let hq1 (show rm < 40 by omega) hlet
    refine z_aload_n h dX12_clause_31 rfl ?_
    refine z_dup_r h dX12_clause_32 ?_
    refine y_geti h dX12_clause_33 hR flX12_237 (Nat.le_of_ble_eq_true rfl) (by rfl) (by rfl) ?_
    refine z_iconst (v := 1) h dX12_clause_36 (by decide) ?_
    refine z_iadd h dX12_clause_37 ?_
    refine z_toe (y := nI (a1 + 1)) (by rw [ca_33]; exact z_up _) ?_
    refine y_put h dX12_clause_38 he hR flX12_237 rfl (Nat.le_of_ble_eq_true rfl) (by rfl) (by rfl) (fun w hR => ?_)
    rw [r_cs_cs] at hR
    refine z_aload_n h dX12_clause_41 rfl ?_
    refine z_callV h dX12_clause_42 (fun _ _ q => z_okv_no he q) (fun _ _ _ t q => absurd q (he t)) (m_X12_look _ hR nt hct hlt (show a1 + 1 ≤ nt by omega)) ym_X12_look mlX12_240 im_X12_look (ci := 12) rfl se_X12_look icX12 rfl (r_p.ob hR (Nat.le_of_ble_eq_true rfl) (by rfl)) rfl (by decide) (Nat.le_of_ble_eq_true rfl) ?_
    rintro q1 w ⟨rfl, hR⟩
    obtain ⟨hg2a, hg2b, hg2c⟩ := skp_ge (f := (c (131, 0))) (n := nt) (a := a1 + 1) (by omega)
    obtain ⟨a2, ha2⟩ : ∃ x, x = skp (c (131, 0)) nt (a1 + 1) := ⟨_, rfl⟩
    rw [← ha2] at hR hg2a hg2b hg2c ⊢
    have hD2' : tD (c (131, 0)) a2 1 := by rw [ha2]; exact skp_D (by omega) hD2 (by decide) (by decide)
    have hp2' : lp cX (c (131, 0)) a2 rm 0 ((c (131, 0)) a1) S0 0 A0 c := by rw [ha2]; exact lp_sk (by omega) hp2
    refine z_istore_n h dX12_clause_45 (by rw [hn]; decide) ?_
    have join_66 : (tv (c (131, 0)) nt a2 = 61 ∨ tv (c (131, 0)) nt a2 = 60 ∨ tv (c (131, 0)) nt a2 = 62) → z_V X 0 0 w 66 [(0, vr (100, 0)), (1, vi (tv (c (131, 0)) nt a1)), (2, vi (tv (c (131, 0)) nt a2))] [] := by
      intro hsgn
      have hl2 : a2 < nt := by
        by_cases q : a2 < nt
        · exact q
        · unfold tv at hsgn; rw [if_neg q] at hsgn; exact absurd hsgn (by decide)
      have ev2 : tv (c (131, 0)) nt a2 = (c (131, 0)) a2 := if_pos hl2
      rw [ev2] at hsgn
      have h232 : (c (131, 0)) a2 ≠ 32 := fun q => hg2c ⟨hl2, q⟩
      have hD3 : tD (c (131, 0)) (a2 + 1) 2 := tD_st hD2' (by rw [af_1 h232, if_pos hsgn]) (by decide)
      have hp3 := lp_sgn hp2' hsgn
      refine z_aload_n h dX12_clause_66 rfl ?_
      refine z_dup_r h dX12_clause_67 ?_
      refine y_geti h dX12_clause_68 hR flX12_237 (Nat.le_of_ble_eq_true rfl) (by rfl) (by rfl) ?_
      refine z_iconst (v := 1) h dX12_clause_71 (by decide) ?_
      refine z_iadd h dX12_clause_72 ?_
      refine z_toe (y := nI (a2 + 1)) (by rw [ca_33]; exact z_up _) ?_
      refine y_put h dX12_clause_73 he hR flX12_237 rfl (Nat.le_of_ble_eq_true rfl) (by rfl) (by rfl) (fun w hR => ?_)
      rw [r_cs_cs] at hR
      refine z_aload_n h dX12_clause_76 rfl ?_
      refine z_callV h dX12_clause_77 (fun _ _ q => z_okv_no he q) (fun _ _ _ t q => absurd q (he t)) (m_X12_look _ hR nt hct hlt (show a2 + 1 ≤ nt by omega)) ym_X12_look mlX12_240 im_X12_look (ci := 12) rfl se_X12_look icX12 rfl (r_p.ob hR (Nat.le_of_ble_eq_true rfl) (by rfl)) rfl (by decide) (Nat.le_of_ble_eq_true rfl) ?_
      rintro q1 w ⟨rfl, hR⟩
      obtain ⟨hg3a, hg3b, hg3c⟩ := skp_ge (f := (c (131, 0))) (n := nt) (a := a2 + 1) (by omega)
      obtain ⟨a3, ha3⟩ : ∃ x, x = skp (c (131, 0)) nt (a2 + 1) := ⟨_, rfl⟩
      rw [← ha3] at hR hg3a hg3b hg3c ⊢
      have hD3' : tD (c (131, 0)) a3 2 := by rw [ha3]; exact skp_D (by omega) hD3 (by decide) (by decide)
      have hp3' : lp cX (c (131, 0)) a3 rm 0 ((c (131, 0)) a1) ((c (131, 0)) a2) 0 A0 c := by rw [ha3]; exact lp_sk (by omega) hp3
      refine z_callS h dX12_clause_80 (fun _ _ q => z_okv_no he q) (fun _ _ _ t q => absurd q (he t)) (m_X12_isDigit _ _ _) ym_X12_isDigit mlX12_244 sm_X12_isDigit rfl (by decide) (Nat.le_of_ble_eq_true rfl) ?_
      rintro q1 w1 ⟨rfl, hw1⟩
      have hw1 := hw1.symm; subst hw1
      refine z_if_ne h dX12_clause_83 88 (by decide) (fun c_8 => ?_) (fun c_8 => ?_)
      · skip
        have hdig := z_bt c_8
        have hl3 : a3 < nt := by
          by_cases q : a3 < nt
          · exact q
          · unfold tv at hdig; rw [if_neg q] at hdig; exact absurd hdig (by decide)
        have ev3 : tv (c (131, 0)) nt a3 = (c (131, 0)) a3 := if_pos hl3
        rw [ev3] at hdig
        refine z_iconst (v := 0) h dX12_clause_88 (by decide) ?_
        refine z_istore_n h dX12_clause_89 (by rw [hn]; decide) ?_
        refine z_iconst (v := 0) h dX12_clause_90 (by decide) ?_
        refine z_istore h dX12_clause_91 (by rw [hn]; decide) ?_
        have loop_93 : ∀ (n_ : Nat) (k i : Nat) (v : Int32) (w : z_w), r_p dM (TM g) w0 (r_cs c (100, 0) 33 (nI i)) l r w → tD (c (131, 0)) i (nI (2 + k)) → lp cX (c (131, 0)) i rm 0 ((c (131, 0)) a1) ((c (131, 0)) a2) v A0 c → k ≤ 5 → i ≤ nt → i = a3 + k → nt + 1 ≤ i + n_ → z_V X 0 0 w 93 [(0, vr (100, 0)), (1, vi (tv (c (131, 0)) nt a1)), (2, vi (tv (c (131, 0)) nt a2)), (3, vi v), (4, vi (nI k))] [] := by
          intro n_
          induction n_ with
          | zero => intros; omega
          | succ n_ ih_93 =>
            intro k i v w hR hDk hpk hk5 hi hik hN
            refine z_aload_n h dX12_clause_93 rfl ?_
            refine y_geti h dX12_clause_94 hR flX12_237 (Nat.le_of_ble_eq_true rfl) (by rfl) (by rfl) ?_
            refine z_toe (y := nI i) ca_33 ?_
            refine z_aload_n h dX12_clause_97 rfl ?_
            refine y_geti h dX12_clause_98 hR flX12_234 (Nat.le_of_ble_eq_true rfl) (by rfl) (by rfl) ?_
            refine z_toe (y := nI nt) ((ca_k (by decide)).trans hct) ?_
            refine z_icmp_ge h dX12_clause_101 161 (by decide) (fun c_9 => ?_) (fun c_9 => ?_)
            · skip
              have e9 : nt ≤ i := (nI_leI (by omega) (by omega)).mp c_9
              have hnd : ¬ (i < nt ∧ 48 ≤ (c (131, 0)) i ∧ (c (131, 0)) i ≤ 57) := fun q => by omega
              have hk1 : 1 ≤ k := by
                by_cases q : k = 0
                · have e : i = a3 := by omega
                  exact absurd ⟨by omega, by rw [e]; exact hdig⟩ hnd
                · omega
              obtain ⟨hcol, hnoc⟩ := dg_col (n := nt) hDk hk1 hk5 hi hnd
              refine z_aload_n h dX12_clause_161 rfl ?_
              refine z_callV h dX12_clause_162 (fun _ _ q => z_okv_no he q) (fun _ _ _ t q => absurd q (he t)) (m_X12_look _ hR nt hct hlt (show i ≤ nt by omega)) ym_X12_look mlX12_240 im_X12_look (ci := 12) rfl se_X12_look icX12 rfl (r_p.ob hR (Nat.le_of_ble_eq_true rfl) (by rfl)) rfl (by decide) (Nat.le_of_ble_eq_true rfl) ?_
              rintro q1 w ⟨rfl, hR⟩
              obtain ⟨hg5a, hg5b, hg5c⟩ := skp_ge (f := (c (131, 0))) (n := nt) (a := i) (by omega)
              obtain ⟨a5, ha5⟩ : ∃ x, x = skp (c (131, 0)) nt (i) := ⟨_, rfl⟩
              rw [← ha5] at hR hg5a hg5b hg5c ⊢
              rw [← ha5] at hcol hnoc
              have hp5 : lp cX (c (131, 0)) a5 rm 0 (c (131, 0) a1) (c (131, 0) a2) v A0 c := by rw [ha5]; exact lp_sk hi hpk
              refine z_bipush (v := 58) h dX12_clause_165 (by decide) ?_
              refine z_icmp_eq h dX12_clause_167 172 (by decide) (fun c_12 => ?_) (fun c_12 => ?_)
              · skip
                have hD6 := hcol c_12
                have hl5 : a5 < nt := by
                  by_cases q : a5 < nt
                  · exact q
                  · unfold tv at c_12; rw [if_neg q] at c_12; exact absurd c_12 (by decide)
                have hb5 : (c (131, 0)) a5 = 58 := by unfold tv at c_12; rw [if_pos hl5] at c_12; exact c_12
                have hp6 := lp_col hp5 hb5
                refine z_aload_n h dX12_clause_172 rfl ?_
                refine z_dup_r h dX12_clause_173 ?_
                refine y_geti h dX12_clause_174 hR flX12_237 (Nat.le_of_ble_eq_true rfl) (by rfl) (by rfl) ?_
                refine z_iconst (v := 1) h dX12_clause_177 (by decide) ?_
                refine z_iadd h dX12_clause_178 ?_
                refine z_toe (y := nI (a5 + 1)) (by rw [ca_33]; exact z_up _) ?_
                refine y_put h dX12_clause_179 he hR flX12_237 rfl (Nat.le_of_ble_eq_true rfl) (by rfl) (by rfl) (fun w hR => ?_)
                rw [r_cs_cs] at hR
                refine z_aload_n h dX12_clause_182 rfl ?_
                refine z_callV h dX12_clause_183 (fun _ _ q => z_okv_no he q) (fun _ _ _ t q => absurd q (he t)) (m_X12_look _ hR nt hct hlt (show a5 + 1 ≤ nt by omega)) ym_X12_look mlX12_240 im_X12_look (ci := 12) rfl se_X12_look icX12 rfl (r_p.ob hR (Nat.le_of_ble_eq_true rfl) (by rfl)) rfl (by decide) (Nat.le_of_ble_eq_true rfl) ?_
                rintro q1 w ⟨rfl, hR⟩
                obtain ⟨hg6a, hg6b, hg6c⟩ := skp_ge (f := (c (131, 0))) (n := nt) (a := a5 + 1) (by omega)
                obtain ⟨a6, ha6⟩ : ∃ x, x = skp (c (131, 0)) nt (a5 + 1) := ⟨_, rfl⟩
                rw [← ha6] at hR hg6a hg6b hg6c ⊢
                have hD6' : tD (c (131, 0)) a6 9 := by rw [ha6]; exact skp_D (by omega) hD6 (by decide) (by decide)
                have hp6' : lp cX (c (131, 0)) a6 rm 1 ((c (131, 0)) a1) ((c (131, 0)) a2) v A0 c := by rw [ha6]; exact lp_sk (by omega) hp6
                refine z_callS h dX12_clause_186 (fun _ _ q => z_okv_no he q) (fun _ _ _ t q => absurd q (he t)) (m_X12_isDigit _ _ _) ym_X12_isDigit mlX12_244 sm_X12_isDigit rfl (by decide) (Nat.le_of_ble_eq_true rfl) ?_
                rintro q1 w1 ⟨rfl, hw1⟩
                have hw1 := hw1.symm; subst hw1
                refine z_if_ne h dX12_clause_189 194 (by decide) (fun c_13 => ?_) (fun c_13 => ?_)
                · skip
                  have hdig6 := z_bt c_13
                  have hl6 : a6 < nt := by
                    by_cases q : a6 < nt
                    · exact q
                    · unfold tv at hdig6; rw [if_neg q] at hdig6; exact absurd hdig6 (by decide)
                  have ev6 : tv (c (131, 0)) nt a6 = (c (131, 0)) a6 := if_pos hl6
                  rw [ev6] at hdig6
                  have hD7 : tD (c (131, 0)) (a6 + 1) 10 := tD_st hD6' (by rw [af_9 (dig_32 hdig6), if_pos hdig6]) (by decide)
                  have hp7 := lp_air hp6' hdig6
                  obtain ⟨cP, hcP⟩ : ∃ cP, cP = r_cs c (100, 0) 33 (nI a6) := ⟨_, rfl⟩
                  rw [← hcP] at hR
                  have p33 : cP (100, 0) 33 = nI a6 := by rw [hcP, ca_33]
                  have pk : ∀ k, k ≠ 33 → cP (100, 0) k = c (100, 0) k := fun k hk => by rw [hcP, ca_k hk]
                  have pn : ∀ t, t ≠ (100, 0) → cP t = c t := fun t ht => by rw [hcP, ca_ne ht]
                  have p35 : cP (100, 0) 35 = nI rm := (pk 35 (by decide)).trans hcm
                  refine z_aload_n h dX12_clause_194 rfl ?_
                  refine y_getr h dX12_clause_195 hR flX12_79 (Nat.le_of_ble_eq_true rfl) (by rfl) (by rfl) ?_
                  refine z_aload_n h dX12_clause_198 rfl ?_
                  refine y_geti h dX12_clause_199 hR flX12_247 (Nat.le_of_ble_eq_true rfl) (by rfl) (by rfl) ?_
                  refine z_toe (y := nI rm) (p35) ?_
                  refine z_iload_n h dX12_clause_202 rfl ?_
                  refine y_iast h dX12_clause_203 hR (Nat.le_of_ble_eq_true rfl) (by rfl) (z_ixn (show rm < 60 by omega) (by decide)) (fun w hR => ?_)
                  obtain ⟨cQ, hcQ⟩ : ∃ cQ, cQ = r_cs cP (140, 0) (rm) (tv (c (131, 0)) nt a1) := ⟨_, rfl⟩
                  rw [← hcQ] at hR
                  have eQ : cQ (140, 0) = upd (cP (140, 0)) (rm) (tv (c (131, 0)) nt a1) := by rw [hcQ, r_cs, r_cf_self]
                  have nQ : ∀ t, t ≠ (140, 0) → cQ t = cP t := fun t h => by rw [hcQ, r_cs, r_cf_ne h]
                  have q100 : cQ (100, 0) = cP (100, 0) := nQ _ (by simp)
                  refine z_aload_n h dX12_clause_204 rfl ?_
                  refine y_getr h dX12_clause_205 hR flX12_82 (Nat.le_of_ble_eq_true rfl) (by rfl) (by rfl) ?_
                  refine z_aload_n h dX12_clause_208 rfl ?_
                  refine y_geti h dX12_clause_209 hR flX12_247 (Nat.le_of_ble_eq_true rfl) (by rfl) (by rfl) ?_
                  refine z_toe (y := nI rm) (by rw [q100]; exact p35) ?_
                  refine z_iload_n h dX12_clause_212 rfl ?_
                  refine y_iast h dX12_clause_213 hR (Nat.le_of_ble_eq_true rfl) (by rfl) (z_ixn (show rm < 60 by omega) (by decide)) (fun w hR => ?_)
                  obtain ⟨cS, hcS⟩ : ∃ cS, cS = r_cs cQ (141, 0) (rm) (tv (c (131, 0)) nt a2) := ⟨_, rfl⟩
                  rw [← hcS] at hR
                  have eS : cS (141, 0) = upd (cQ (141, 0)) (rm) (tv (c (131, 0)) nt a2) := by rw [hcS, r_cs, r_cf_self]
                  have nS : ∀ t, t ≠ (141, 0) → cS t = cQ t := fun t h => by rw [hcS, r_cs, r_cf_ne h]
                  have s100 : cS (100, 0) = cP (100, 0) := (nS _ (by simp)).trans q100
                  refine z_aload_n h dX12_clause_214 rfl ?_
                  refine y_getr h dX12_clause_215 hR flX12_85 (Nat.le_of_ble_eq_true rfl) (by rfl) (by rfl) ?_
                  refine z_aload_n h dX12_clause_218 rfl ?_
                  refine y_geti h dX12_clause_219 hR flX12_247 (Nat.le_of_ble_eq_true rfl) (by rfl) (by rfl) ?_
                  refine z_toe (y := nI rm) (by rw [s100]; exact p35) ?_
                  refine z_iload_n h dX12_clause_222 rfl ?_
                  refine y_iast h dX12_clause_223 hR (Nat.le_of_ble_eq_true rfl) (by rfl) (z_ixn (show rm < 60 by omega) (by decide)) (fun w hR => ?_)
                  obtain ⟨cT, hcT⟩ : ∃ cT, cT = r_cs cS (142, 0) (rm) (v) := ⟨_, rfl⟩
                  rw [← hcT] at hR
                  have eT : cT (142, 0) = upd (cS (142, 0)) (rm) (v) := by rw [hcT, r_cs, r_cf_self]
                  have nT : ∀ t, t ≠ (142, 0) → cT t = cS t := fun t h => by rw [hcT, r_cs, r_cf_ne h]
                  have t100 : cT (100, 0) = cP (100, 0) := (nT _ (by simp)).trans s100
                  refine z_aload_n h dX12_clause_224 rfl ?_
                  refine y_getr h dX12_clause_225 hR flX12_88 (Nat.le_of_ble_eq_true rfl) (by rfl) (by rfl) ?_
                  refine z_aload_n h dX12_clause_228 rfl ?_
                  refine y_geti h dX12_clause_229 hR flX12_247 (Nat.le_of_ble_eq_true rfl) (by rfl) (by rfl) ?_
                  refine z_toe (y := nI rm) (by rw [t100]; exact p35) ?_
                  refine z_aload_n h dX12_clause_232 rfl ?_
                  refine y_getr h dX12_clause_233 hR flX12_64 (Nat.le_of_ble_eq_true rfl) (by rfl) (by rfl) ?_
                  refine z_aload_n h dX12_clause_236 rfl ?_
                  refine y_geti h dX12_clause_237 hR flX12_237 (Nat.le_of_ble_eq_true rfl) (by rfl) (by rfl) ?_
                  refine z_toe (y := nI a6) (by rw [t100]; exact p33) ?_
                  refine y_iald h dX12_clause_240 hR (Nat.le_of_ble_eq_true rfl) (by rfl) (z_ixn (show a6 < 220 by omega) (by decide)) ?_
                  refine z_toe (y := (c (131, 0)) a6) (by rw [nT _ (by simp), nS _ (by simp), nQ _ (by simp), pn _ (by simp)]) ?_
                  refine z_bipush (v := 48) h dX12_clause_241 (by decide) ?_
                  refine z_isub h dX12_clause_243 ?_
                  refine y_iast h dX12_clause_244 hR (Nat.le_of_ble_eq_true rfl) (by rfl) (z_ixn (show rm < 60 by omega) (by decide)) (fun w hR => ?_)
                  obtain ⟨cU, hcU⟩ : ∃ cU, cU = r_cs cT (143, 0) (rm) ((c (131, 0)) a6 - 48) := ⟨_, rfl⟩
                  rw [← hcU] at hR
                  have eU : cU (143, 0) = upd (cT (143, 0)) (rm) ((c (131, 0)) a6 - 48) := by rw [hcU, r_cs, r_cf_self]
                  have nU : ∀ t, t ≠ (143, 0) → cU t = cT t := fun t h => by rw [hcU, r_cs, r_cf_ne h]
                  have u100 : cU (100, 0) = cP (100, 0) := (nU _ (by simp)).trans t100
                  refine z_aload_n h dX12_clause_245 rfl ?_
                  refine z_dup_r h dX12_clause_246 ?_
                  refine y_geti h dX12_clause_247 hR flX12_247 (Nat.le_of_ble_eq_true rfl) (by rfl) (by rfl) ?_
                  refine z_iconst (v := 1) h dX12_clause_250 (by decide) ?_
                  refine z_iadd h dX12_clause_251 ?_
                  refine z_toe (y := nI (rm + 1)) (by rw [u100, p35]; exact z_up rm) ?_
                  refine y_put h dX12_clause_252 he hR flX12_247 rfl (Nat.le_of_ble_eq_true rfl) (by rfl) (by rfl) (fun w hR => ?_)
                  obtain ⟨cV, hcV⟩ : ∃ cV, cV = r_cs cU (100, 0) (35) (nI (rm + 1)) := ⟨_, rfl⟩
                  rw [← hcV] at hR
                  have eV : cV (100, 0) = upd (cU (100, 0)) (35) (nI (rm + 1)) := by rw [hcV, r_cs, r_cf_self]
                  have nV : ∀ t, t ≠ (100, 0) → cV t = cU t := fun t h => by rw [hcV, r_cs, r_cf_ne h]
                  refine z_aload_n h dX12_clause_255 rfl ?_
                  refine z_dup_r h dX12_clause_256 ?_
                  refine y_geti h dX12_clause_257 hR flX12_237 (Nat.le_of_ble_eq_true rfl) (by rfl) (by rfl) ?_
                  refine z_iconst (v := 1) h dX12_clause_260 (by decide) ?_
                  refine z_iadd h dX12_clause_261 ?_
                  refine z_toe (y := nI (a6 + 1)) (by rw [eV, pk_un (by decide), u100, p33]; exact z_up a6) ?_
                  refine y_put h dX12_clause_262 he hR flX12_237 rfl (Nat.le_of_ble_eq_true rfl) (by rfl) (by rfl) (fun w hR => ?_)
                  obtain ⟨cW, hcW⟩ : ∃ cW, cW = r_cs cV (100, 0) (33) (nI (a6 + 1)) := ⟨_, rfl⟩
                  rw [← hcW] at hR
                  have eW : cW (100, 0) = upd (cV (100, 0)) (33) (nI (a6 + 1)) := by rw [hcW, r_cs, r_cf_self]
                  have nW : ∀ t, t ≠ (100, 0) → cW t = cV t := fun t h => by rw [hcW, r_cs, r_cf_ne h]
                  have fr : ∀ t, t ≠ (100, 0) → t ≠ (140, 0) → t ≠ (141, 0) → t ≠ (142, 0) → t ≠ (143, 0) → cW t = c t := fun t h1 h2 h3 h4 h5 => by rw [nW t h1, nV t h1, nU t h5, nT t h4, nS t h3, nQ t h2, pn t h1]
                  have w140 : cW (140, 0) = upd (c (140, 0)) rm ((c (131, 0)) a1) := by rw [nW _ (by simp), nV _ (by simp), nU _ (by simp), nT _ (by simp), nS _ (by simp), eQ, pn _ (by simp), ev1]
                  have w141 : cW (141, 0) = upd (c (141, 0)) rm ((c (131, 0)) a2) := by rw [nW _ (by simp), nV _ (by simp), nU _ (by simp), nT _ (by simp), eS, nQ _ (by simp), pn _ (by simp), ev2]
                  have w142 : cW (142, 0) = upd (c (142, 0)) rm v := by rw [nW _ (by simp), nV _ (by simp), nU _ (by simp), eT, nS _ (by simp), nQ _ (by simp), pn _ (by simp)]
                  have w143 : cW (143, 0) = upd (c (143, 0)) rm ((c (131, 0)) a6 - 48) := by rw [nW _ (by simp), nV _ (by simp), eU, nT _ (by simp), nS _ (by simp), nQ _ (by simp), pn _ (by simp)]
                  refine z_iconst (v := 1) h dX12_clause_265 (by decide) ?_
                  exact z_zret h dX12_clause_266 hr rfl (Or.inr ⟨rfl, a6 + 1, cW, by omega, by omega, hD7, hR, by rw [eW, pk_us], by rw [eW, pk_un (by decide), eV, pk_us], fun k h1 h2 => by rw [eW, pk_un h1, eV, pk_un h2, u100, pk k h1], lp_lq hp7 w140 w141 w142 w143, fr⟩)
                · skip
                  refine z_iconst (v := 0) h dX12_clause_192 (by decide) ?_
                  exact z_zret h dX12_clause_193 hr rfl (Or.inl ⟨rfl, a6, by omega, hR, tw_no hD6' (by omega) (Or.inl (by decide)) (by decide) (fun q => by rw [af_9 (fun z => hg6c ⟨q, z⟩), if_neg (fun z => z_bf c_13 (by rw [show tv (c (131, 0)) nt a6 = (c (131, 0)) a6 from if_pos q]; exact z))])⟩)
              · skip
                refine z_iconst (v := 0) h dX12_clause_170 (by decide) ?_
                exact z_zret h dX12_clause_171 hr rfl (Or.inl ⟨rfl, a5, by omega, hR, hnoc c_12⟩)
            · skip
              have e9 : ¬ nt ≤ i := fun q => c_9 ((nI_leI (by omega) (by omega)).mpr q)
              refine z_aload_n h dX12_clause_104 rfl ?_
              refine y_getr h dX12_clause_105 hR flX12_64 (Nat.le_of_ble_eq_true rfl) (by rfl) (by rfl) ?_
              refine z_aload_n h dX12_clause_108 rfl ?_
              refine y_geti h dX12_clause_109 hR flX12_237 (Nat.le_of_ble_eq_true rfl) (by rfl) (by rfl) ?_
              refine z_toe (y := nI i) ca_33 ?_
              refine y_iald h dX12_clause_112 hR (Nat.le_of_ble_eq_true rfl) (by rfl) (z_ixn (show i < 220 by omega) (by decide)) ?_
              refine z_toe (y := (c (131, 0)) i) (by rw [ca_ne (by simp)]) ?_
              refine z_callS h dX12_clause_113 (fun _ _ q => z_okv_no he q) (fun _ _ _ t q => absurd q (he t)) (m_X12_isDigit _ _ _) ym_X12_isDigit mlX12_244 sm_X12_isDigit rfl (by decide) (Nat.le_of_ble_eq_true rfl) ?_
              rintro q1 w1 ⟨rfl, hw1⟩
              have hw1 := hw1.symm; subst hw1
              refine z_if_eq h dX12_clause_116 161 (by decide) (fun c_10 => ?_) (fun c_10 => ?_)
              · skip
                have hnd : ¬ (i < nt ∧ 48 ≤ (c (131, 0)) i ∧ (c (131, 0)) i ≤ 57) := fun q => z_bf c_10 q.2
                have hk1 : 1 ≤ k := by
                  by_cases q : k = 0
                  · have e : i = a3 := by omega
                    exact absurd ⟨by omega, by rw [e]; exact hdig⟩ hnd
                  · omega
                obtain ⟨hcol, hnoc⟩ := dg_col (n := nt) hDk hk1 hk5 hi hnd
                refine z_aload_n h dX12_clause_161 rfl ?_
                refine z_callV h dX12_clause_162 (fun _ _ q => z_okv_no he q) (fun _ _ _ t q => absurd q (he t)) (m_X12_look _ hR nt hct hlt (show i ≤ nt by omega)) ym_X12_look mlX12_240 im_X12_look (ci := 12) rfl se_X12_look icX12 rfl (r_p.ob hR (Nat.le_of_ble_eq_true rfl) (by rfl)) rfl (by decide) (Nat.le_of_ble_eq_true rfl) ?_
                rintro q1 w ⟨rfl, hR⟩
                obtain ⟨hg5a, hg5b, hg5c⟩ := skp_ge (f := (c (131, 0))) (n := nt) (a := i) (by omega)
                obtain ⟨a5, ha5⟩ : ∃ x, x = skp (c (131, 0)) nt (i) := ⟨_, rfl⟩
                rw [← ha5] at hR hg5a hg5b hg5c ⊢
                rw [← ha5] at hcol hnoc
                have hp5 : lp cX (c (131, 0)) a5 rm 0 (c (131, 0) a1) (c (131, 0) a2) v A0 c := by rw [ha5]; exact lp_sk hi hpk
                refine z_bipush (v := 58) h dX12_clause_165 (by decide) ?_
                refine z_icmp_eq h dX12_clause_167 172 (by decide) (fun c_12 => ?_) (fun c_12 => ?_)
                · skip
                  have hD6 := hcol c_12
                  have hl5 : a5 < nt := by
                    by_cases q : a5 < nt
                    · exact q
                    · unfold tv at c_12; rw [if_neg q] at c_12; exact absurd c_12 (by decide)
                  have hb5 : (c (131, 0)) a5 = 58 := by unfold tv at c_12; rw [if_pos hl5] at c_12; exact c_12
                  have hp6 := lp_col hp5 hb5
                  refine z_aload_n h dX12_clause_172 rfl ?_
                  refine z_dup_r h dX12_clause_173 ?_
                  refine y_geti h dX12_clause_174 hR flX12_237 (Nat.le_of_ble_eq_true rfl) (by rfl) (by rfl) ?_
                  refine z_iconst (v := 1) h dX12_clause_177 (by decide) ?_
                  refine z_iadd h dX12_clause_178 ?_
                  refine z_toe (y := nI (a5 + 1)) (by rw [ca_33]; exact z_up _) ?_
                  refine y_put h dX12_clause_179 he hR flX12_237 rfl (Nat.le_of_ble_eq_true rfl) (by rfl) (by rfl) (fun w hR => ?_)
                  rw [r_cs_cs] at hR
                  refine z_aload_n h dX12_clause_182 rfl ?_
                  refine z_callV h dX12_clause_183 (fun _ _ q => z_okv_no he q) (fun _ _ _ t q => absurd q (he t)) (m_X12_look _ hR nt hct hlt (show a5 + 1 ≤ nt by omega)) ym_X12_look mlX12_240 im_X12_look (ci := 12) rfl se_X12_look icX12 rfl (r_p.ob hR (Nat.le_of_ble_eq_true rfl) (by rfl)) rfl (by decide) (Nat.le_of_ble_eq_true rfl) ?_
                  rintro q1 w ⟨rfl, hR⟩
                  obtain ⟨hg6a, hg6b, hg6c⟩ := skp_ge (f := (c (131, 0))) (n := nt) (a := a5 + 1) (by omega)
                  obtain ⟨a6, ha6⟩ : ∃ x, x = skp (c (131, 0)) nt (a5 + 1) := ⟨_, rfl⟩
                  rw [← ha6] at hR hg6a hg6b hg6c ⊢
                  have hD6' : tD (c (131, 0)) a6 9 := by rw [ha6]; exact skp_D (by omega) hD6 (by decide) (by decide)
                  have hp6' : lp cX (c (131, 0)) a6 rm 1 ((c (131, 0)) a1) ((c (131, 0)) a2) v A0 c := by rw [ha6]; exact lp_sk (by omega) hp6
                  refine z_callS h dX12_clause_186 (fun _ _ q => z_okv_no he q) (fun _ _ _ t q => absurd q (he t)) (m_X12_isDigit _ _ _) ym_X12_isDigit mlX12_244 sm_X12_isDigit rfl (by decide) (Nat.le_of_ble_eq_true rfl) ?_
                  rintro q1 w1 ⟨rfl, hw1⟩
                  have hw1 := hw1.symm; subst hw1
                  refine z_if_ne h dX12_clause_189 194 (by decide) (fun c_13 => ?_) (fun c_13 => ?_)
                  · skip
                    have hdig6 := z_bt c_13
                    have hl6 : a6 < nt := by
                      by_cases q : a6 < nt
                      · exact q
                      · unfold tv at hdig6; rw [if_neg q] at hdig6; exact absurd hdig6 (by decide)
                    have ev6 : tv (c (131, 0)) nt a6 = (c (131, 0)) a6 := if_pos hl6
                    rw [ev6] at hdig6
                    have hD7 : tD (c (131, 0)) (a6 + 1) 10 := tD_st hD6' (by rw [af_9 (dig_32 hdig6), if_pos hdig6]) (by decide)
                    have hp7 := lp_air hp6' hdig6
                    obtain ⟨cP, hcP⟩ : ∃ cP, cP = r_cs c (100, 0) 33 (nI a6) := ⟨_, rfl⟩
                    rw [← hcP] at hR
                    have p33 : cP (100, 0) 33 = nI a6 := by rw [hcP, ca_33]
                    have pk : ∀ k, k ≠ 33 → cP (100, 0) k = c (100, 0) k := fun k hk => by rw [hcP, ca_k hk]
                    have pn : ∀ t, t ≠ (100, 0) → cP t = c t := fun t ht => by rw [hcP, ca_ne ht]
                    have p35 : cP (100, 0) 35 = nI rm := (pk 35 (by decide)).trans hcm
                    refine z_aload_n h dX12_clause_194 rfl ?_
                    refine y_getr h dX12_clause_195 hR flX12_79 (Nat.le_of_ble_eq_true rfl) (by rfl) (by rfl) ?_
                    refine z_aload_n h dX12_clause_198 rfl ?_
                    refine y_geti h dX12_clause_199 hR flX12_247 (Nat.le_of_ble_eq_true rfl) (by rfl) (by rfl) ?_
                    refine z_toe (y := nI rm) (p35) ?_
                    refine z_iload_n h dX12_clause_202 rfl ?_
                    refine y_iast h dX12_clause_203 hR (Nat.le_of_ble_eq_true rfl) (by rfl) (z_ixn (show rm < 60 by omega) (by decide)) (fun w hR => ?_)
                    obtain ⟨cQ, hcQ⟩ : ∃ cQ, cQ = r_cs cP (140, 0) (rm) (tv (c (131, 0)) nt a1) := ⟨_, rfl⟩
                    rw [← hcQ] at hR
                    have eQ : cQ (140, 0) = upd (cP (140, 0)) (rm) (tv (c (131, 0)) nt a1) := by rw [hcQ, r_cs, r_cf_self]
                    have nQ : ∀ t, t ≠ (140, 0) → cQ t = cP t := fun t h => by rw [hcQ, r_cs, r_cf_ne h]
                    have q100 : cQ (100, 0) = cP (100, 0) := nQ _ (by simp)
                    refine z_aload_n h dX12_clause_204 rfl ?_
                    refine y_getr h dX12_clause_205 hR flX12_82 (Nat.le_of_ble_eq_true rfl) (by rfl) (by rfl) ?_
                    refine z_aload_n h dX12_clause_208 rfl ?_
                    refine y_geti h dX12_clause_209 hR flX12_247 (Nat.le_of_ble_eq_true rfl) (by rfl) (by rfl) ?_
                    refine z_toe (y := nI rm) (by rw [q100]; exact p35) ?_
                    refine z_iload_n h dX12_clause_212 rfl ?_
                    refine y_iast h dX12_clause_213 hR (Nat.le_of_ble_eq_true rfl) (by rfl) (z_ixn (show rm < 60 by omega) (by decide)) (fun w hR => ?_)
                    obtain ⟨cS, hcS⟩ : ∃ cS, cS = r_cs cQ (141, 0) (rm) (tv (c (131, 0)) nt a2) := ⟨_, rfl⟩
                    rw [← hcS] at hR
                    have eS : cS (141, 0) = upd (cQ (141, 0)) (rm) (tv (c (131, 0)) nt a2) := by rw [hcS, r_cs, r_cf_self]
                    have nS : ∀ t, t ≠ (141, 0) → cS t = cQ t := fun t h => by rw [hcS, r_cs, r_cf_ne h]
                    have s100 : cS (100, 0) = cP (100, 0) := (nS _ (by simp)).trans q100
                    refine z_aload_n h dX12_clause_214 rfl ?_
                    refine y_getr h dX12_clause_215 hR flX12_85 (Nat.le_of_ble_eq_true rfl) (by rfl) (by rfl) ?_
                    refine z_aload_n h dX12_clause_218 rfl ?_
                    refine y_geti h dX12_clause_219 hR flX12_247 (Nat.le_of_ble_eq_true rfl) (by rfl) (by rfl) ?_
                    refine z_toe (y := nI rm) (by rw [s100]; exact p35) ?_
                    refine z_iload_n h dX12_clause_222 rfl ?_
                    refine y_iast h dX12_clause_223 hR (Nat.le_of_ble_eq_true rfl) (by rfl) (z_ixn (show rm < 60 by omega) (by decide)) (fun w hR => ?_)
                    obtain ⟨cT, hcT⟩ : ∃ cT, cT = r_cs cS (142, 0) (rm) (v) := ⟨_, rfl⟩
                    rw [← hcT] at hR
                    have eT : cT (142, 0) = upd (cS (142, 0)) (rm) (v) := by rw [hcT, r_cs, r_cf_self]
                    have nT : ∀ t, t ≠ (142, 0) → cT t = cS t := fun t h => by rw [hcT, r_cs, r_cf_ne h]
                    have t100 : cT (100, 0) = cP (100, 0) := (nT _ (by simp)).trans s100
                    refine z_aload_n h dX12_clause_224 rfl ?_
                    refine y_getr h dX12_clause_225 hR flX12_88 (Nat.le_of_ble_eq_true rfl) (by rfl) (by rfl) ?_
                    refine z_aload_n h dX12_clause_228 rfl ?_
                    refine y_geti h dX12_clause_229 hR flX12_247 (Nat.le_of_ble_eq_true rfl) (by rfl) (by rfl) ?_
                    refine z_toe (y := nI rm) (by rw [t100]; exact p35) ?_
                    refine z_aload_n h dX12_clause_232 rfl ?_
                    refine y_getr h dX12_clause_233 hR flX12_64 (Nat.le_of_ble_eq_true rfl) (by rfl) (by rfl) ?_
                    refine z_aload_n h dX12_clause_236 rfl ?_
                    refine y_geti h dX12_clause_237 hR flX12_237 (Nat.le_of_ble_eq_true rfl) (by rfl) (by rfl) ?_
                    refine z_toe (y := nI a6) (by rw [t100]; exact p33) ?_
                    refine y_iald h dX12_clause_240 hR (Nat.le_of_ble_eq_true rfl) (by rfl) (z_ixn (show a6 < 220 by omega) (by decide)) ?_
                    refine z_toe (y := (c (131, 0)) a6) (by rw [nT _ (by simp), nS _ (by simp), nQ _ (by simp), pn _ (by simp)]) ?_
                    refine z_bipush (v := 48) h dX12_clause_241 (by decide) ?_
                    refine z_isub h dX12_clause_243 ?_
                    refine y_iast h dX12_clause_244 hR (Nat.le_of_ble_eq_true rfl) (by rfl) (z_ixn (show rm < 60 by omega) (by decide)) (fun w hR => ?_)
                    obtain ⟨cU, hcU⟩ : ∃ cU, cU = r_cs cT (143, 0) (rm) ((c (131, 0)) a6 - 48) := ⟨_, rfl⟩
                    rw [← hcU] at hR
                    have eU : cU (143, 0) = upd (cT (143, 0)) (rm) ((c (131, 0)) a6 - 48) := by rw [hcU, r_cs, r_cf_self]
                    have nU : ∀ t, t ≠ (143, 0) → cU t = cT t := fun t h => by rw [hcU, r_cs, r_cf_ne h]
                    have u100 : cU (100, 0) = cP (100, 0) := (nU _ (by simp)).trans t100
                    refine z_aload_n h dX12_clause_245 rfl ?_
                    refine z_dup_r h dX12_clause_246 ?_
                    refine y_geti h dX12_clause_247 hR flX12_247 (Nat.le_of_ble_eq_true rfl) (by rfl) (by rfl) ?_
                    refine z_iconst (v := 1) h dX12_clause_250 (by decide) ?_
                    refine z_iadd h dX12_clause_251 ?_
                    refine z_toe (y := nI (rm + 1)) (by rw [u100, p35]; exact z_up rm) ?_
                    refine y_put h dX12_clause_252 he hR flX12_247 rfl (Nat.le_of_ble_eq_true rfl) (by rfl) (by rfl) (fun w hR => ?_)
                    obtain ⟨cV, hcV⟩ : ∃ cV, cV = r_cs cU (100, 0) (35) (nI (rm + 1)) := ⟨_, rfl⟩
                    rw [← hcV] at hR
                    have eV : cV (100, 0) = upd (cU (100, 0)) (35) (nI (rm + 1)) := by rw [hcV, r_cs, r_cf_self]
                    have nV : ∀ t, t ≠ (100, 0) → cV t = cU t := fun t h => by rw [hcV, r_cs, r_cf_ne h]
                    refine z_aload_n h dX12_clause_255 rfl ?_
                    refine z_dup_r h dX12_clause_256 ?_
                    refine y_geti h dX12_clause_257 hR flX12_237 (Nat.le_of_ble_eq_true rfl) (by rfl) (by rfl) ?_
                    refine z_iconst (v := 1) h dX12_clause_260 (by decide) ?_
                    refine z_iadd h dX12_clause_261 ?_
                    refine z_toe (y := nI (a6 + 1)) (by rw [eV, pk_un (by decide), u100, p33]; exact z_up a6) ?_
                    refine y_put h dX12_clause_262 he hR flX12_237 rfl (Nat.le_of_ble_eq_true rfl) (by rfl) (by rfl) (fun w hR => ?_)
                    obtain ⟨cW, hcW⟩ : ∃ cW, cW = r_cs cV (100, 0) (33) (nI (a6 + 1)) := ⟨_, rfl⟩
                    rw [← hcW] at hR
                    have eW : cW (100, 0) = upd (cV (100, 0)) (33) (nI (a6 + 1)) := by rw [hcW, r_cs, r_cf_self]
                    have nW : ∀ t, t ≠ (100, 0) → cW t = cV t := fun t h => by rw [hcW, r_cs, r_cf_ne h]
                    have fr : ∀ t, t ≠ (100, 0) → t ≠ (140, 0) → t ≠ (141, 0) → t ≠ (142, 0) → t ≠ (143, 0) → cW t = c t := fun t h1 h2 h3 h4 h5 => by rw [nW t h1, nV t h1, nU t h5, nT t h4, nS t h3, nQ t h2, pn t h1]
                    have w140 : cW (140, 0) = upd (c (140, 0)) rm ((c (131, 0)) a1) := by rw [nW _ (by simp), nV _ (by simp), nU _ (by simp), nT _ (by simp), nS _ (by simp), eQ, pn _ (by simp), ev1]
                    have w141 : cW (141, 0) = upd (c (141, 0)) rm ((c (131, 0)) a2) := by rw [nW _ (by simp), nV _ (by simp), nU _ (by simp), nT _ (by simp), eS, nQ _ (by simp), pn _ (by simp), ev2]
                    have w142 : cW (142, 0) = upd (c (142, 0)) rm v := by rw [nW _ (by simp), nV _ (by simp), nU _ (by simp), eT, nS _ (by simp), nQ _ (by simp), pn _ (by simp)]
                    have w143 : cW (143, 0) = upd (c (143, 0)) rm ((c (131, 0)) a6 - 48) := by rw [nW _ (by simp), nV _ (by simp), eU, nT _ (by simp), nS _ (by simp), nQ _ (by simp), pn _ (by simp)]
                    refine z_iconst (v := 1) h dX12_clause_265 (by decide) ?_
                    exact z_zret h dX12_clause_266 hr rfl (Or.inr ⟨rfl, a6 + 1, cW, by omega, by omega, hD7, hR, by rw [eW, pk_us], by rw [eW, pk_un (by decide), eV, pk_us], fun k h1 h2 => by rw [eW, pk_un h1, eV, pk_un h2, u100, pk k h1], lp_lq hp7 w140 w141 w142 w143, fr⟩)
                  · skip
                    refine z_iconst (v := 0) h dX12_clause_192 (by decide) ?_
                    exact z_zret h dX12_clause_193 hr rfl (Or.inl ⟨rfl, a6, by omega, hR, tw_no hD6' (by omega) (Or.inl (by decide)) (by decide) (fun q => by rw [af_9 (fun z => hg6c ⟨q, z⟩), if_neg (fun z => z_bf c_13 (by rw [show tv (c (131, 0)) nt a6 = (c (131, 0)) a6 from if_pos q]; exact z))])⟩)
                · skip
                  refine z_iconst (v := 0) h dX12_clause_170 (by decide) ?_
                  exact z_zret h dX12_clause_171 hr rfl (Or.inl ⟨rfl, a5, by omega, hR, hnoc c_12⟩)
              · skip
                have hdi : 48 ≤ (c (131, 0)) i ∧ (c (131, 0)) i ≤ 57 := z_bt c_10
                refine z_iload h dX12_clause_119 rfl ?_
                refine z_iconst (v := 5) h dX12_clause_121 (by decide) ?_
                refine z_icmp_ne h dX12_clause_122 127 (by decide) (fun c_11 => ?_) (fun c_11 => ?_)
                · skip
                  have e11 : k ≠ 5 := fun q => c_11 (by rw [q]; rfl)
                  refine z_bipush (v := 10) h dX12_clause_127 (by decide) ?_
                  refine z_iload_n h dX12_clause_129 rfl ?_
                  refine z_imul h dX12_clause_130 ?_
                  refine z_aload_n h dX12_clause_131 rfl ?_
                  refine y_getr h dX12_clause_132 hR flX12_64 (Nat.le_of_ble_eq_true rfl) (by rfl) (by rfl) ?_
                  refine z_aload_n h dX12_clause_135 rfl ?_
                  refine y_geti h dX12_clause_136 hR flX12_237 (Nat.le_of_ble_eq_true rfl) (by rfl) (by rfl) ?_
                  refine z_toe (y := nI i) ca_33 ?_
                  refine y_iald h dX12_clause_139 hR (Nat.le_of_ble_eq_true rfl) (by rfl) (z_ixn (show i < 220 by omega) (by decide)) ?_
                  refine z_toe (y := (c (131, 0)) i) (by rw [ca_ne (by simp)]) ?_
                  refine z_iadd h dX12_clause_140 ?_
                  refine z_bipush (v := 48) h dX12_clause_141 (by decide) ?_
                  refine z_isub h dX12_clause_143 ?_
                  refine z_istore_n h dX12_clause_144 (by rw [hn]; decide) ?_
                  refine z_iinc (v := 1) h dX12_clause_145 rfl (by decide) (by rw [hn]; decide) ?_
                  refine z_aload_n h dX12_clause_148 rfl ?_
                  refine z_dup_r h dX12_clause_149 ?_
                  refine y_geti h dX12_clause_150 hR flX12_237 (Nat.le_of_ble_eq_true rfl) (by rfl) (by rfl) ?_
                  refine z_iconst (v := 1) h dX12_clause_153 (by decide) ?_
                  refine z_iadd h dX12_clause_154 ?_
                  refine z_toe (y := nI (i + 1)) (by rw [ca_33]; exact z_up _) ?_
                  refine y_put h dX12_clause_155 he hR flX12_237 rfl (Nat.le_of_ble_eq_true rfl) (by rfl) (by rfl) (fun w hR => ?_)
                  rw [r_cs_cs] at hR
                  refine z_goto h dX12_clause_158 93 (by decide) ?_
                  refine z_loc [(0, vr (100, 0)), (1, vi (tv (c (131, 0)) nt a1)), (2, vi (tv (c (131, 0)) nt a2)), (3, vi (10 * v + (c (131, 0)) i - 48)), (4, vi (nI (k + 1)))] ⟨rfl, rfl, rfl, rfl, congrArg (fun z => some (vi z)) (z_up k), trivial⟩ ?_
                  exact ih_93 (k + 1) (i + 1) _ w hR (dg_st hDk (by omega) hdi) (lp_dig hpk hdi) (by omega) (by omega) (by omega) (by omega)
                · skip
                  have e11 : k = 5 := (nI_eq (a := k) (b := 5) (by omega) (by decide)).mp c_11
                  refine z_iconst (v := 0) h dX12_clause_125 (by decide) ?_
                  exact z_zret h dX12_clause_126 hr rfl (Or.inl ⟨rfl, i, by omega, hR, tD_brk hDk (by rw [e11]; show t_af 7 _ = _; rw [af_78 (by decide) (dig_32 hdi), if_neg (dig_no hdi).2.1]) (by omega)⟩)
        exact z_loc [(0, vr (100, 0)), (1, vi (tv (c (131, 0)) nt a1)), (2, vi (tv (c (131, 0)) nt a2)), (3, vi 0), (4, vi (nI 0))] ⟨rfl, rfl, rfl, rfl, rfl, trivial⟩ (loop_93 (nt + 1) 0 a3 0 w hR hD3' hp3' (by omega) (by omega) (by omega) (by omega))
      · skip
        refine z_iconst (v := 0) h dX12_clause_86 (by decide) ?_
        exact z_zret h dX12_clause_87 hr rfl (Or.inl ⟨rfl, a3, by omega, hR, tw_no hD3' (by omega) (Or.inl (by decide)) (by decide) (fun q => by rw [af_2 (fun z => hg3c ⟨q, z⟩), if_neg (fun z => z_bf c_8 (by rw [show tv (c (131, 0)) nt a3 = (c (131, 0)) a3 from if_pos q]; exact z))])⟩)
    refine z_iload_n h dX12_clause_46 rfl ?_
    refine z_bipush (v := 61) h dX12_clause_47 (by decide) ?_
    refine z_icmp_eq h dX12_clause_49 66 (by decide) (fun c_5 => ?_) (fun c_5 => ?_)
    · skip
      exact z_loc [(0, vr (100, 0)), (1, vi (tv (c (131, 0)) nt a1)), (2, vi (tv (c (131, 0)) nt a2))] ⟨rfl, rfl, rfl, trivial⟩ (join_66 (Or.inl c_5))
    · skip
      refine z_iload_n h dX12_clause_52 rfl ?_
      refine z_bipush (v := 60) h dX12_clause_53 (by decide) ?_
      refine z_icmp_eq h dX12_clause_55 66 (by decide) (fun c_6 => ?_) (fun c_6 => ?_)
      · skip
        exact z_loc [(0, vr (100, 0)), (1, vi (tv (c (131, 0)) nt a1)), (2, vi (tv (c (131, 0)) nt a2))] ⟨rfl, rfl, rfl, trivial⟩ (join_66 (Or.inr (Or.inl c_6)))
      · skip
        refine z_iload_n h dX12_clause_58 rfl ?_
        refine z_bipush (v := 62) h dX12_clause_59 (by decide) ?_
        refine z_icmp_eq h dX12_clause_61 66 (by decide) (fun c_7 => ?_) (fun c_7 => ?_)
        · skip
          exact z_loc [(0, vr (100, 0)), (1, vi (tv (c (131, 0)) nt a1)), (2, vi (tv (c (131, 0)) nt a2))] ⟨rfl, rfl, rfl, trivial⟩ (join_66 (Or.inr (Or.inr c_7)))
        · skip
          refine z_iconst (v := 0) h dX12_clause_64 (by decide) ?_
          exact z_zret h dX12_clause_65 hr rfl (Or.inl ⟨rfl, a2, by omega, hR, tw_no hD2' (by omega) (Or.inl (by decide)) (by decide) (fun q => by rw [af_1 (fun z => hg2c ⟨q, z⟩), if_neg (fun z => by rw [← show tv (c (131, 0)) nt a2 = (c (131, 0)) a2 from if_pos q] at z; exact z.elim c_5 (fun z => z.elim c_6 c_7))])⟩)
  refine z_iload_n h dX12_clause_5 rfl ?_
  refine z_bipush (v := 104) h dX12_clause_6 (by decide) ?_
  refine z_icmp_eq h dX12_clause_8 31 (by decide) (fun c_1 => ?_) (fun c_1 => ?_)
  · skip
    exact z_loc [(0, vr (100, 0)), (1, vi (tv (c (131, 0)) nt a1))] ⟨rfl, rfl, trivial⟩ (join_31 (Or.inl c_1))
  · skip
    refine z_iload_n h dX12_clause_11 rfl ?_
    refine z_bipush (v := 109) h dX12_clause_12 (by decide) ?_
    refine z_icmp_eq h dX12_clause_14 31 (by decide) (fun c_2 => ?_) (fun c_2 => ?_)
    · skip
      exact z_loc [(0, vr (100, 0)), (1, vi (tv (c (131, 0)) nt a1))] ⟨rfl, rfl, trivial⟩ (join_31 (Or.inr (Or.inl c_2)))
    · skip
      refine z_iload_n h dX12_clause_17 rfl ?_
      refine z_bipush (v := 99) h dX12_clause_18 (by decide) ?_
      refine z_icmp_eq h dX12_clause_20 31 (by decide) (fun c_3 => ?_) (fun c_3 => ?_)
      · skip
        exact z_loc [(0, vr (100, 0)), (1, vi (tv (c (131, 0)) nt a1))] ⟨rfl, rfl, trivial⟩ (join_31 (Or.inr (Or.inr (Or.inl c_3))))
      · skip
        refine z_iload_n h dX12_clause_23 rfl ?_
        refine z_bipush (v := 111) h dX12_clause_24 (by decide) ?_
        refine z_icmp_eq h dX12_clause_26 31 (by decide) (fun c_4 => ?_) (fun c_4 => ?_)
        · skip
          exact z_loc [(0, vr (100, 0)), (1, vi (tv (c (131, 0)) nt a1))] ⟨rfl, rfl, trivial⟩ (join_31 (Or.inr (Or.inr (Or.inr c_4))))
        · skip
          refine z_iconst (v := 0) h dX12_clause_29 (by decide) ?_
          exact z_zret h dX12_clause_30 hr rfl (Or.inl ⟨rfl, a1, by omega, hR, tw_no hD1 (by omega) (by rcases hs0 with q | q; exact Or.inl (by rw [q]; decide); exact Or.inr (by rw [ha1]; exact q.2)) (by rcases hs1 with q | q <;> rw [q] <;> decide) (fun q => by rw [af_let hs1 (fun z => hg1c ⟨q, z⟩), if_neg (fun z => by rw [← show tv (c (131, 0)) nt a1 = (c (131, 0)) a1 from if_pos q] at z; exact z.elim c_1 (fun z => z.elim c_2 (fun z => z.elim c_3 c_4)))])⟩)
