/-! the reference: most, the way of MET, want, count -/
theorem mg_bOK {m : Nat} {Gv B : Nat → Int32} (hB : bOK m B) : ∀ k, k ≤ 8 → bOK m (mg Gv B k).1
  | 0, _ => hB
  | k + 1, hk => by
    rw [mg]
    split
    · exact mg_bOK hB k (by omega)
    · exact bOK_upd (mg_bOK hB k (by omega)) (by omega)
theorem mg_le {Gv B : Nat → Int32} : ∀ k, (mg Gv B k).2 ≤ k
  | 0 => Nat.le_refl 0
  | k + 1 => by
    have := mg_le (Gv := Gv) (B := B) k
    rw [mg]
    split
    · omega
    · show (mg Gv B k).2 + 1 ≤ _; omega
theorem mo_bOK {ft : Nat → Nat → Bool} {s m : Nat} {B A : Nat → Int32} {n0 : Nat} (hB : bOK m B) : ∀ k, s + k ≤ 8 → bOK m (mo ft s m B A n0 k).1
  | 0, _ => hB
  | k + 1, hk => (fd_ok 100).1 _ _ _ (by omega) (mo_bOK hB k (by omega))
theorem mo_le {ft : Nat → Nat → Bool} {s m : Nat} {B A : Nat → Int32} {n0 : Nat} : ∀ k, (mo ft s m B A n0 k).2.2 ≤ n0 + k
  | 0 => Nat.le_refl _
  | k + 1 => by
    have := mo_le (ft := ft) (s := s) (m := m) (B := B) (A := A) (n0 := n0) k
    rw [mo]
    show (mo ft s m B A n0 k).2.2 + _ ≤ _
    split <;> omega
theorem mZ_bOK {m : Nat} {f : Nat → Int32} : bOK m (mZ (-1) m f) := fun y hy => Or.inl (if_pos hy)
set_option maxHeartbeats 4000000 in
set_option maxRecDepth 100000 in
theorem m_X12_most (G : z_G) {g : Nat} {w0 w : z_w} {c : r_c} {l : r_l} {r : r_r} {Gv B A : Nat → Int32} (hR : r_p dM (TM g) w0 (MC c Gv B A) l r w) (na : Nat) (hc2 : c (100, 0) 2 = nI na) (hna : na ≤ 100) (no : Nat) (hco : c (100, 0) 5 = nI no) (hno : no ≤ 8) (s : Nat) (hs : s ≤ no) (hGv : gOK na s Gv) : z_M G yX12_most cX12_most 5 (some .int) 104 (0) (0) [vr (100, 0), vi (nI s)] w (fun q w1 => q = some (vi (nI (mo (mft c) s na (mg Gv (mZ (-1) na B) s).1 A (mg Gv (mZ (-1) na B) s).2 (no - s)).2.2)) ∧ ∃ B1 A1, r_p dM (TM g) w0 (MC c Gv B1 A1) l r w1) := by
  refine z_met ym_X12_most (by decide) ⟨Nat.le_of_ble_eq_true rfl, Nat.le_of_ble_eq_true rfl⟩ (fun X hG hn hmc hms hin h hr => ?_)
  have he := hr.2.2.2.2.2.1
  refine z_iconst (v := 0) h dX12_most_0 (by decide) ?_
  refine z_istore_n h dX12_most_1 (by rw [hn]; decide) ?_
  have loop_2 : ∀ (n_ : Nat) (y : Nat) (w : z_w), r_p dM (TM g) w0 (MC c Gv (mZ (-1) y B) A) l r w → y ≤ na → na + 1 ≤ y + n_ → z_V X 0 0 w 2 [(0, vr (100, 0)), (1, vi (nI s)), (2, vi (nI y))] [] := by
    intro n_
    induction n_ with
    | zero => intros; omega
    | succ n_ ih_2 =>
      intro y w hR hy hN
      refine z_iload_n h dX12_most_2 rfl ?_
      refine z_aload_n h dX12_most_3 rfl ?_
      refine y_geti h dX12_most_4 hR flX12_257 (by first | assumption | exact Nat.le_of_ble_eq_true rfl) (by first | rfl | assumption | exact tx_2 (by first | assumption | omega) | exact tx_18 (by first | assumption | omega) | exact tx_19 (by first | assumption | omega) | exact tx_20 (by first | assumption | omega) | exact tx_27 (by first | assumption | omega) | exact tx_28 (by first | assumption | omega) | exact tx_30 (by first | assumption | omega) | exact tx_31 (by first | assumption | omega) | exact tx_32 (by first | assumption | omega) | exact tx_33 (by first | assumption | omega)) (by rfl) ?_
      rw [mc_ob, hc2]
      refine z_icmp_ge h dX12_most_7 23 (by decide) (fun c_1 => ?_) (fun c_1 => ?_)
      · skip
        have e1 : na ≤ y := (nI_leI (by omega) (by omega)).mp c_1
        have hy2 : y = na := by omega
        rw [hy2] at hR
        refine z_iconst (v := 0) h dX12_most_23 (by decide) ?_
        refine z_istore_n h dX12_most_24 (by rw [hn]; decide) ?_
        refine z_iconst (v := 0) h dX12_most_25 (by decide) ?_
        refine z_istore_n h dX12_most_26 (by rw [hn]; decide) ?_
        have loop_27 : ∀ (m_ : Nat) (x : Nat) (w : z_w), r_p dM (TM g) w0 (MC c Gv (mg Gv (mZ (-1) na B) x).1 A) l r w → x ≤ s → s + 1 ≤ x + m_ → z_V X 0 0 w 27 [(0, vr (100, 0)), (1, vi (nI s)), (2, vi (nI (mg Gv (mZ (-1) na B) x).2)), (3, vi (nI x))] [] := by
          intro m_
          induction m_ with
          | zero => intros; omega
          | succ m_ ih_27 =>
            intro x w hR hx hN
            refine z_iload_n h dX12_most_27 rfl ?_
            refine z_iload_n h dX12_most_28 rfl ?_
            refine z_icmp_ge h dX12_most_29 63 (by decide) (fun c_2 => ?_) (fun c_2 => ?_)
            · skip
              have e1 : s ≤ x := (nI_leI (by omega) (by omega)).mp c_2
              have hx2 : x = s := by omega
              rw [hx2] at hR ⊢
              refine z_iload_n h dX12_most_63 rfl ?_
              refine z_istore_n h dX12_most_64 (by rw [hn]; decide) ?_
              have loop_65 : ∀ (n_ : Nat) (k : Nat) (w : z_w), r_p dM (TM g) w0 (MC c Gv (mo (mft c) s na (mg Gv (mZ (-1) na B) s).1 A (mg Gv (mZ (-1) na B) s).2 (k)).1 (mo (mft c) s na (mg Gv (mZ (-1) na B) s).1 A (mg Gv (mZ (-1) na B) s).2 (k)).2.1) l r w → s + k ≤ no → no + 1 ≤ s + k + n_ → z_V X 0 0 w 65 [(0, vr (100, 0)), (1, vi (nI s)), (2, vi (nI (mo (mft c) s na (mg Gv (mZ (-1) na B) s).1 A (mg Gv (mZ (-1) na B) s).2 (k)).2.2)), (3, vi (nI (s + k)))] [] := by
                intro n_
                induction n_ with
                | zero => intros; omega
                | succ n_ ih_65 =>
                  intro k w hR hk hN
                  refine z_iload_n h dX12_most_65 rfl ?_
                  refine z_aload_n h dX12_most_66 rfl ?_
                  refine y_geti h dX12_most_67 hR flX12_300 (by first | assumption | exact Nat.le_of_ble_eq_true rfl) (by first | rfl | assumption | exact tx_2 (by first | assumption | omega) | exact tx_18 (by first | assumption | omega) | exact tx_19 (by first | assumption | omega) | exact tx_20 (by first | assumption | omega) | exact tx_27 (by first | assumption | omega) | exact tx_28 (by first | assumption | omega) | exact tx_30 (by first | assumption | omega) | exact tx_31 (by first | assumption | omega) | exact tx_32 (by first | assumption | omega) | exact tx_33 (by first | assumption | omega)) (by rfl) ?_
                  rw [mc_ob, hco]
                  refine z_icmp_ge h dX12_most_70 122 (by decide) (fun c_4 => ?_) (fun c_4 => ?_)
                  · skip
                    have e1 : no ≤ (s + k) := (nI_leI (by omega) (by omega)).mp c_4
                    refine z_iload_n h dX12_most_122 rfl ?_
                    exact z_iret h dX12_most_123 hr (⟨z_e1 (by rw [show no - s = k by omega]), _, _, hR⟩)
                  · skip
                    have e1 : ¬ no ≤ (s + k) := fun q => c_4 ((nI_leI (by omega) (by omega)).mpr q)
                    refine z_iconst (v := 0) h dX12_most_73 (by decide) ?_
                    refine z_istore h dX12_most_74 (by rw [hn]; decide) ?_
                    have loop_76 : ∀ (k_ : Nat) (y : Nat) (w : z_w), r_p dM (TM g) w0 (MC c Gv (mo (mft c) s na (mg Gv (mZ (-1) na B) s).1 A (mg Gv (mZ (-1) na B) s).2 (k)).1 (mZ 0 y (mo (mft c) s na (mg Gv (mZ (-1) na B) s).1 A (mg Gv (mZ (-1) na B) s).2 (k)).2.1)) l r w → y ≤ na → na + 1 ≤ y + k_ → z_V X 0 0 w 76 [(0, vr (100, 0)), (1, vi (nI s)), (2, vi (nI (mo (mft c) s na (mg Gv (mZ (-1) na B) s).1 A (mg Gv (mZ (-1) na B) s).2 (k)).2.2)), (3, vi (nI (s + k))), (4, vi (nI y))] [] := by
                      intro k_
                      induction k_ with
                      | zero => intros; omega
                      | succ k_ ih_76 =>
                        intro y w hR hy hN
                        refine z_iload h dX12_most_76 rfl ?_
                        refine z_aload_n h dX12_most_78 rfl ?_
                        refine y_geti h dX12_most_79 hR flX12_257 (by first | assumption | exact Nat.le_of_ble_eq_true rfl) (by first | rfl | assumption | exact tx_2 (by first | assumption | omega) | exact tx_18 (by first | assumption | omega) | exact tx_19 (by first | assumption | omega) | exact tx_20 (by first | assumption | omega) | exact tx_27 (by first | assumption | omega) | exact tx_28 (by first | assumption | omega) | exact tx_30 (by first | assumption | omega) | exact tx_31 (by first | assumption | omega) | exact tx_32 (by first | assumption | omega) | exact tx_33 (by first | assumption | omega)) (by rfl) ?_
                        rw [mc_ob, hc2]
                        refine z_icmp_ge h dX12_most_82 99 (by decide) (fun c_5 => ?_) (fun c_5 => ?_)
                        · skip
                          have e1 : na ≤ y := (nI_leI (by omega) (by omega)).mp c_5
                          have hy2 : y = na := by omega
                          rw [hy2] at hR
                          refine z_iload_n h dX12_most_99 rfl ?_
                          refine z_aload_n h dX12_most_100 rfl ?_
                          refine z_iload_n h dX12_most_101 rfl ?_
                          refine z_iload_n h dX12_most_102 rfl ?_
                          refine z_callV h dX12_most_103 (fun _ _ q => z_okv_no he q) (fun _ _ _ t q => absurd q (he t)) (m_X12_finds _ na hc2 hna s 100 (s + k) _ _ w hR (by omega) (mo_bOK (mg_bOK mZ_bOK s (by omega)) k (by omega)) (Nat.le_trans (o_cnt_le _ na) hna)) ym_X12_finds mlX12_307 im_X12_finds (ci := 12) rfl se_X12_finds icX12 rfl (r_p.ob hR (by first | assumption | exact Nat.le_of_ble_eq_true rfl) (by first | rfl | assumption | exact tx_2 (by first | assumption | omega) | exact tx_18 (by first | assumption | omega) | exact tx_19 (by first | assumption | omega) | exact tx_20 (by first | assumption | omega) | exact tx_27 (by first | assumption | omega) | exact tx_28 (by first | assumption | omega) | exact tx_30 (by first | assumption | omega) | exact tx_31 (by first | assumption | omega) | exact tx_32 (by first | assumption | omega) | exact tx_33 (by first | assumption | omega))) rfl (by decide) (Nat.le_of_ble_eq_true rfl) ?_
                          rintro q1 w ⟨rfl, hR⟩
                          refine z_if_eq h dX12_most_106 113 (by decide) (fun c_6 => ?_) (fun c_6 => ?_)
                          · skip
                            refine z_iconst (v := 0) h dX12_most_113 (by decide) ?_
                            refine z_iadd h dX12_most_114 ?_
                            refine z_istore_n h dX12_most_115 (by rw [hn]; decide) ?_
                            refine z_iinc (v := 1) h dX12_most_116 rfl (by decide) (by rw [hn]; decide) ?_
                            refine z_goto h dX12_most_119 65 (by decide) ?_
                            refine z_loc [(0, vr (100, 0)), (1, vi (nI s)), (2, vi (nI (mo (mft c) s na (mg Gv (mZ (-1) na B) s).1 A (mg Gv (mZ (-1) na B) s).2 (k + 1)).2.2)), (3, vi (nI (s + (k + 1))))] ⟨rfl, rfl, by rw [mo, if_pos c_6]; exact congrArg (fun z => some (vi z)) (Int32.add_zero _), congrArg (fun z => some (vi z)) (z_up (s + k)), trivial⟩ ?_
                            exact ih_65 (k + 1) w hR (by omega) (by omega)
                          · skip
                            refine z_iconst (v := 1) h dX12_most_109 (by decide) ?_
                            refine z_goto h dX12_most_110 114 (by decide) ?_
                            refine z_iadd h dX12_most_114 ?_
                            refine z_istore_n h dX12_most_115 (by rw [hn]; decide) ?_
                            refine z_iinc (v := 1) h dX12_most_116 rfl (by decide) (by rw [hn]; decide) ?_
                            refine z_goto h dX12_most_119 65 (by decide) ?_
                            refine z_loc [(0, vr (100, 0)), (1, vi (nI s)), (2, vi (nI (mo (mft c) s na (mg Gv (mZ (-1) na B) s).1 A (mg Gv (mZ (-1) na B) s).2 (k + 1)).2.2)), (3, vi (nI (s + (k + 1))))] ⟨rfl, rfl, by rw [mo, if_neg c_6]; exact congrArg (fun z => some (vi z)) (z_up _), congrArg (fun z => some (vi z)) (z_up (s + k)), trivial⟩ ?_
                            exact ih_65 (k + 1) w hR (by omega) (by omega)
                        · skip
                          have e1 : ¬ na ≤ y := fun q => c_5 ((nI_leI (by omega) (by omega)).mpr q)
                          refine z_aload_n h dX12_most_85 rfl ?_
                          refine y_getr h dX12_most_86 hR flX12_163 (by first | assumption | exact Nat.le_of_ble_eq_true rfl) (by first | rfl | assumption | exact tx_2 (by first | assumption | omega) | exact tx_18 (by first | assumption | omega) | exact tx_19 (by first | assumption | omega) | exact tx_20 (by first | assumption | omega) | exact tx_27 (by first | assumption | omega) | exact tx_28 (by first | assumption | omega) | exact tx_30 (by first | assumption | omega) | exact tx_31 (by first | assumption | omega) | exact tx_32 (by first | assumption | omega) | exact tx_33 (by first | assumption | omega)) (by rfl) ?_
                          refine z_iload h dX12_most_89 rfl ?_
                          refine z_iconst (v := 0) h dX12_most_91 (by decide) ?_
                          refine y_zast h dX12_most_92 hR (by first | assumption | exact Nat.le_of_ble_eq_true rfl) (by first | rfl | assumption | exact tx_2 (by first | assumption | omega) | exact tx_18 (by first | assumption | omega) | exact tx_19 (by first | assumption | omega) | exact tx_20 (by first | assumption | omega) | exact tx_27 (by first | assumption | omega) | exact tx_28 (by first | assumption | omega) | exact tx_30 (by first | assumption | omega) | exact tx_31 (by first | assumption | omega) | exact tx_32 (by first | assumption | omega) | exact tx_33 (by first | assumption | omega)) (z_ixn (show y < 100 by omega) (by decide)) (by decide) (fun w hR => ?_)
                          refine z_iinc (v := 1) h dX12_most_93 rfl (by decide) (by rw [hn]; decide) ?_
                          refine z_goto h dX12_most_96 76 (by decide) ?_
                          refine z_loc [(0, vr (100, 0)), (1, vi (nI s)), (2, vi (nI (mo (mft c) s na (mg Gv (mZ (-1) na B) s).1 A (mg Gv (mZ (-1) na B) s).2 (k)).2.2)), (3, vi (nI (s + k))), (4, vi (nI (y + 1)))] ⟨rfl, rfl, rfl, rfl, congrArg (fun z => some (vi z)) (z_up y), trivial⟩ ?_
                          exact ih_76 (y + 1) w (by rw [mc_sA, mZ_up] at hR; exact hR) (by omega) (by omega)
                    exact z_loc [(0, vr (100, 0)), (1, vi (nI s)), (2, vi (nI (mo (mft c) s na (mg Gv (mZ (-1) na B) s).1 A (mg Gv (mZ (-1) na B) s).2 (k)).2.2)), (3, vi (nI (s + k))), (4, vi (nI 0))] ⟨rfl, rfl, rfl, rfl, rfl, trivial⟩ (loop_76 (na + 1) 0 w (by rw [show mZ 0 0 (mo (mft c) s na (mg Gv (mZ (-1) na B) s).1 A (mg Gv (mZ (-1) na B) s).2 (k)).2.1 = (mo (mft c) s na (mg Gv (mZ (-1) na B) s).1 A (mg Gv (mZ (-1) na B) s).2 (k)).2.1 from funext fun j => if_neg (by omega)]; exact hR) (by omega) (by omega))
              exact z_loc [(0, vr (100, 0)), (1, vi (nI s)), (2, vi (nI (mo (mft c) s na (mg Gv (mZ (-1) na B) s).1 A (mg Gv (mZ (-1) na B) s).2 (0)).2.2)), (3, vi (nI (s + 0)))] ⟨rfl, rfl, rfl, rfl, trivial⟩ (loop_65 (no + 1) 0 w hR (by omega) (by omega))
            · skip
              have e1 : ¬ s ≤ x := fun q => c_2 ((nI_leI (by omega) (by omega)).mpr q)
              refine z_aload_n h dX12_most_32 rfl ?_
              refine y_getr h dX12_most_33 hR flX12_157 (by first | assumption | exact Nat.le_of_ble_eq_true rfl) (by first | rfl | assumption | exact tx_2 (by first | assumption | omega) | exact tx_18 (by first | assumption | omega) | exact tx_19 (by first | assumption | omega) | exact tx_20 (by first | assumption | omega) | exact tx_27 (by first | assumption | omega) | exact tx_28 (by first | assumption | omega) | exact tx_30 (by first | assumption | omega) | exact tx_31 (by first | assumption | omega) | exact tx_32 (by first | assumption | omega) | exact tx_33 (by first | assumption | omega)) (by rfl) ?_
              refine z_iload_n h dX12_most_36 rfl ?_
              refine y_iald h dX12_most_37 hR (by first | assumption | exact Nat.le_of_ble_eq_true rfl) (by first | rfl | assumption | exact tx_2 (by first | assumption | omega) | exact tx_18 (by first | assumption | omega) | exact tx_19 (by first | assumption | omega) | exact tx_20 (by first | assumption | omega) | exact tx_27 (by first | assumption | omega) | exact tx_28 (by first | assumption | omega) | exact tx_30 (by first | assumption | omega) | exact tx_31 (by first | assumption | omega) | exact tx_32 (by first | assumption | omega) | exact tx_33 (by first | assumption | omega)) (z_ixn (show x < 8 by omega) (by decide)) ?_
              rw [mc_G]
              refine z_iconst (v := -1) h dX12_most_38 (by decide) ?_
              refine z_icmp_eq h dX12_most_39 57 (by decide) (fun c_3 => ?_) (fun c_3 => ?_)
              · skip
                refine z_iinc (v := 1) h dX12_most_57 rfl (by decide) (by rw [hn]; decide) ?_
                refine z_goto h dX12_most_60 27 (by decide) ?_
                refine z_loc [(0, vr (100, 0)), (1, vi (nI s)), (2, vi (nI (mg Gv (mZ (-1) na B) (x + 1)).2)), (3, vi (nI (x + 1)))] ⟨rfl, rfl, congrArg (fun z => some (vi (nI z))) (by rw [mg, if_pos c_3]), congrArg (fun z => some (vi z)) (z_up x), trivial⟩ ?_
                exact ih_27 (x + 1) w (by rw [mg, if_pos c_3]; exact hR) (by omega) (by omega)
              · skip
                obtain ⟨b0, hb0, eb0⟩ := (hGv x (by omega)).resolve_left c_3
                refine z_aload_n h dX12_most_42 rfl ?_
                refine y_getr h dX12_most_43 hR flX12_160 (by first | assumption | exact Nat.le_of_ble_eq_true rfl) (by first | rfl | assumption | exact tx_2 (by first | assumption | omega) | exact tx_18 (by first | assumption | omega) | exact tx_19 (by first | assumption | omega) | exact tx_20 (by first | assumption | omega) | exact tx_27 (by first | assumption | omega) | exact tx_28 (by first | assumption | omega) | exact tx_30 (by first | assumption | omega) | exact tx_31 (by first | assumption | omega) | exact tx_32 (by first | assumption | omega) | exact tx_33 (by first | assumption | omega)) (by rfl) ?_
                refine z_aload_n h dX12_most_46 rfl ?_
                refine y_getr h dX12_most_47 hR flX12_157 (by first | assumption | exact Nat.le_of_ble_eq_true rfl) (by first | rfl | assumption | exact tx_2 (by first | assumption | omega) | exact tx_18 (by first | assumption | omega) | exact tx_19 (by first | assumption | omega) | exact tx_20 (by first | assumption | omega) | exact tx_27 (by first | assumption | omega) | exact tx_28 (by first | assumption | omega) | exact tx_30 (by first | assumption | omega) | exact tx_31 (by first | assumption | omega) | exact tx_32 (by first | assumption | omega) | exact tx_33 (by first | assumption | omega)) (by rfl) ?_
                refine z_iload_n h dX12_most_50 rfl ?_
                refine y_iald h dX12_most_51 hR (by first | assumption | exact Nat.le_of_ble_eq_true rfl) (by first | rfl | assumption | exact tx_2 (by first | assumption | omega) | exact tx_18 (by first | assumption | omega) | exact tx_19 (by first | assumption | omega) | exact tx_20 (by first | assumption | omega) | exact tx_27 (by first | assumption | omega) | exact tx_28 (by first | assumption | omega) | exact tx_30 (by first | assumption | omega) | exact tx_31 (by first | assumption | omega) | exact tx_32 (by first | assumption | omega) | exact tx_33 (by first | assumption | omega)) (z_ixn (show x < 8 by omega) (by decide)) ?_
                rw [mc_G]
                refine z_iload_n h dX12_most_52 rfl ?_
                refine y_iast h dX12_most_53 hR (by first | assumption | exact Nat.le_of_ble_eq_true rfl) (by first | rfl | assumption | exact tx_2 (by first | assumption | omega) | exact tx_18 (by first | assumption | omega) | exact tx_19 (by first | assumption | omega) | exact tx_20 (by first | assumption | omega) | exact tx_27 (by first | assumption | omega) | exact tx_28 (by first | assumption | omega) | exact tx_30 (by first | assumption | omega) | exact tx_31 (by first | assumption | omega) | exact tx_32 (by first | assumption | omega) | exact tx_33 (by first | assumption | omega)) (z_ixe eb0 (show b0 < 100 by omega) (by decide)) (fun w hR => ?_)
                rw [mc_sB] at hR
                rw [show b0 = (Gv x).toNatClampNeg by rw [eb0, nI_clamp (by omega)]] at hR
                refine z_iinc (v := 1) h dX12_most_54 rfl (by decide) (by rw [hn]; decide) ?_
                refine z_iinc (v := 1) h dX12_most_57 rfl (by decide) (by rw [hn]; decide) ?_
                refine z_goto h dX12_most_60 27 (by decide) ?_
                refine z_loc [(0, vr (100, 0)), (1, vi (nI s)), (2, vi (nI (mg Gv (mZ (-1) na B) (x + 1)).2)), (3, vi (nI (x + 1)))] ⟨rfl, rfl, by rw [mg, if_neg c_3]; exact congrArg (fun z => some (vi z)) (z_up _), congrArg (fun z => some (vi z)) (z_up x), trivial⟩ ?_
                exact ih_27 (x + 1) w (by rw [mg, if_neg c_3]; exact hR) (by omega) (by omega)
        exact z_loc [(0, vr (100, 0)), (1, vi (nI s)), (2, vi (nI 0)), (3, vi (nI 0))] ⟨rfl, rfl, rfl, rfl, trivial⟩ (loop_27 (s + 1) 0 w hR (by omega) (by omega))
      · skip
        have e1 : ¬ na ≤ y := fun q => c_1 ((nI_leI (by omega) (by omega)).mpr q)
        refine z_aload_n h dX12_most_10 rfl ?_
        refine y_getr h dX12_most_11 hR flX12_160 (by first | assumption | exact Nat.le_of_ble_eq_true rfl) (by first | rfl | assumption | exact tx_2 (by first | assumption | omega) | exact tx_18 (by first | assumption | omega) | exact tx_19 (by first | assumption | omega) | exact tx_20 (by first | assumption | omega) | exact tx_27 (by first | assumption | omega) | exact tx_28 (by first | assumption | omega) | exact tx_30 (by first | assumption | omega) | exact tx_31 (by first | assumption | omega) | exact tx_32 (by first | assumption | omega) | exact tx_33 (by first | assumption | omega)) (by rfl) ?_
        refine z_iload_n h dX12_most_14 rfl ?_
        refine z_iconst (v := -1) h dX12_most_15 (by decide) ?_
        refine y_iast h dX12_most_16 hR (by first | assumption | exact Nat.le_of_ble_eq_true rfl) (by first | rfl | assumption | exact tx_2 (by first | assumption | omega) | exact tx_18 (by first | assumption | omega) | exact tx_19 (by first | assumption | omega) | exact tx_20 (by first | assumption | omega) | exact tx_27 (by first | assumption | omega) | exact tx_28 (by first | assumption | omega) | exact tx_30 (by first | assumption | omega) | exact tx_31 (by first | assumption | omega) | exact tx_32 (by first | assumption | omega) | exact tx_33 (by first | assumption | omega)) (z_ixn (show y < 100 by omega) (by decide)) (fun w hR => ?_)
        refine z_iinc (v := 1) h dX12_most_17 rfl (by decide) (by rw [hn]; decide) ?_
        refine z_goto h dX12_most_20 2 (by decide) ?_
        refine z_loc [(0, vr (100, 0)), (1, vi (nI s)), (2, vi (nI (y + 1)))] ⟨rfl, rfl, congrArg (fun z => some (vi z)) (z_up y), trivial⟩ ?_
        exact ih_2 (y + 1) w (by rw [mc_sB, mZ_up] at hR; exact hR) (by omega) (by omega)
  exact z_loc [(0, vr (100, 0)), (1, vi (nI s)), (2, vi (nI 0))] ⟨rfl, rfl, rfl, trivial⟩ (loop_2 (na + 1) 0 w (by rw [show mZ (-1) 0 B = B from funext fun j => if_neg (by omega)]; exact hR) (by omega) (by omega))
theorem m_most2 (G : z_G) {g : Nat} {w0 w : z_w} {c : r_c} {l : r_l} {r : r_r} {Gv B A : Nat → Int32} (hR : r_p dM (TM g) w0 (MC c Gv B A) l r w) (na : Nat) (hc2 : c (100, 0) 2 = nI na) (hna : na ≤ 100) (no : Nat) (hco : c (100, 0) 5 = nI no) (hno : no ≤ 8) (s : Nat) (hs : s ≤ no) (hGv : gOK na s Gv) (hpre : mt (fR (mft c) no na) (mpre (xR no na Gv) s)) : z_M G yX12_most cX12_most 5 (some .int) 104 0 0 [vr (100, 0), vi (nI s)] w (fun q w1 => ∃ k, k ≤ no ∧ isnu (fR (mft c) no na) (xR no na Gv) s no k ∧ q = some (vi (nI k)) ∧ ∃ B1 A1, r_p dM (TM g) w0 (MC c Gv B1 A1) l r w1) :=
  (m_X12_most G hR na hc2 hna no hco hno s hs hGv).imp (fun q w1 ⟨h1, h2⟩ => by
    have := most_nu (ft := (mft c)) (B := (mZ (-1) na B)) (A := A) hno hna hs hGv (fun y hy => if_pos hy) hpre
    exact ⟨_, this.2, this.1, h1, h2⟩)
def gvn (Gv : Nat → Int32) (b : Int32) : Nat → Bool
  | 0 => false
  | k + 1 => gvn Gv b k || decide (Gv k = b)
theorem gvn_iff {Gv : Nat → Int32} {b : Int32} : ∀ {k}, gvn Gv b k = true ↔ ∃ x, x < k ∧ Gv x = b
  | 0 => ⟨fun q => by simp [gvn] at q, fun ⟨x, q, _⟩ => by omega⟩
  | k + 1 => by
    rw [gvn, Bool.or_eq_true, gvn_iff, decide_eq_true_iff]
    constructor
    · rintro (⟨x, h1, h2⟩ | h)
      · exact ⟨x, by omega, h2⟩
      · exact ⟨k, Nat.lt_succ_self k, h⟩
    · rintro ⟨x, h1, h2⟩
      by_cases e : x = k
      · subst e; exact Or.inr h2
      · exact Or.inl ⟨x, by omega, h2⟩
set_option maxHeartbeats 4000000 in
set_option maxRecDepth 100000 in
theorem m_X12_isGiven (G : z_G) {g : Nat} {w0 w : z_w} {c : r_c} {l : r_l} {r : r_r} {Gv B A : Nat → Int32} (hR : r_p dM (TM g) w0 (MC c Gv B A) l r w) (b : Int32) (o : Nat) (ho : o ≤ 8) : z_M G yX12_isGiven cX12_isGiven 4 (some .boolean) 1 (0) (0) [vr (100, 0), vi b, vi (nI o)] w (fun q w1 => q = some (vi (z_b (gvn Gv b o = true))) ∧ w1 = w) := by
  refine z_met ym_X12_isGiven (by decide) ⟨Nat.le_of_ble_eq_true rfl, Nat.le_of_ble_eq_true rfl⟩ (fun X hG hn hmc hms hin h hr => ?_)
  have he := hr.2.2.2.2.2.1
  refine z_iconst (v := 0) h dX12_isGiven_0 (by decide) ?_
  refine z_istore_n h dX12_isGiven_1 (by rw [hn]; decide) ?_
  have loop_2 : ∀ (n_ : Nat) (x : Nat), ¬ gvn Gv b x = true → x ≤ o → o + 1 ≤ x + n_ → z_V X 0 0 w 2 [(0, vr (100, 0)), (1, vi b), (2, vi (nI o)), (3, vi (nI x))] [] := by
    intro n_
    induction n_ with
    | zero => intros; omega
    | succ n_ ih_2 =>
      intro x hg hx hN
      refine z_iload_n h dX12_isGiven_2 rfl ?_
      refine z_iload_n h dX12_isGiven_3 rfl ?_
      refine z_icmp_ge h dX12_isGiven_4 25 (by decide) (fun c_1 => ?_) (fun c_1 => ?_)
      · skip
        have e1 : o ≤ x := (nI_leI (by omega) (by omega)).mp c_1
        refine z_iconst (v := 0) h dX12_isGiven_25 (by decide) ?_
        exact z_zret h dX12_isGiven_26 hr rfl (⟨z_ret0 (by rw [show o = x by omega]; exact hg), rfl⟩)
      · skip
        have e1 : ¬ o ≤ x := fun q => c_1 ((nI_leI (by omega) (by omega)).mpr q)
        refine z_aload_n h dX12_isGiven_7 rfl ?_
        refine y_getr h dX12_isGiven_8 hR flX12_157 (by first | assumption | exact Nat.le_of_ble_eq_true rfl) (by first | rfl | assumption | exact tx_2 (by first | assumption | omega) | exact tx_18 (by first | assumption | omega) | exact tx_19 (by first | assumption | omega) | exact tx_20 (by first | assumption | omega) | exact tx_27 (by first | assumption | omega) | exact tx_28 (by first | assumption | omega) | exact tx_30 (by first | assumption | omega) | exact tx_31 (by first | assumption | omega) | exact tx_32 (by first | assumption | omega) | exact tx_33 (by first | assumption | omega)) (by rfl) ?_
        refine z_iload_n h dX12_isGiven_11 rfl ?_
        refine y_iald h dX12_isGiven_12 hR (by first | assumption | exact Nat.le_of_ble_eq_true rfl) (by first | rfl | assumption | exact tx_2 (by first | assumption | omega) | exact tx_18 (by first | assumption | omega) | exact tx_19 (by first | assumption | omega) | exact tx_20 (by first | assumption | omega) | exact tx_27 (by first | assumption | omega) | exact tx_28 (by first | assumption | omega) | exact tx_30 (by first | assumption | omega) | exact tx_31 (by first | assumption | omega) | exact tx_32 (by first | assumption | omega) | exact tx_33 (by first | assumption | omega)) (z_ixn (show x < 8 by omega) (by decide)) ?_
        rw [mc_G]
        refine z_iload_n h dX12_isGiven_13 rfl ?_
        refine z_icmp_ne h dX12_isGiven_14 19 (by decide) (fun c_2 => ?_) (fun c_2 => ?_)
        · skip
          refine z_iinc (v := 1) h dX12_isGiven_19 rfl (by decide) (by rw [hn]; decide) ?_
          refine z_goto h dX12_isGiven_22 2 (by decide) ?_
          refine z_loc [(0, vr (100, 0)), (1, vi b), (2, vi (nI o)), (3, vi (nI (x + 1)))] ⟨rfl, rfl, rfl, congrArg (fun z => some (vi z)) (z_up x), trivial⟩ ?_
          exact ih_2 (x + 1) (fun q => by rw [gvn, Bool.or_eq_true] at q; exact q.elim hg (fun z => c_2 (of_decide_eq_true z))) (by omega) (by omega)
        · skip
          refine z_iconst (v := 1) h dX12_isGiven_17 (by decide) ?_
          exact z_zret h dX12_isGiven_18 hr rfl (⟨z_ret1 (gvn_iff.mpr ⟨x, by omega, c_2⟩), rfl⟩)
  exact z_loc [(0, vr (100, 0)), (1, vi b), (2, vi (nI o)), (3, vi (nI 0))] ⟨rfl, rfl, rfl, rfl, trivial⟩ (loop_2 (o + 1) 0 (by simp [gvn]) (by omega) (by omega))
/-- the first o orders have what MET gives them -/
def GVp (fit : mR) (n m all o : Nat) (G1 : Nat → Int32) : Prop :=
  gOK m o G1 ∧ mt fit (mpre (xR n m G1) o) ∧ (∃ N, mt fit N ∧ mc N n = all ∧ ∀ x y, x < o → (N x y ↔ xR n m G1 x y)) ∧ ∀ x, x < o → ∀ b', (∀ b, xR n m G1 x b → b' < b) → ¬ mext fit (xR n m G1) n all x b'
theorem mfx_nil {fit G G' : mR} : mfx fit G 0 = mfx fit G' 0 := by rw [mfx_0, mfx_0]
theorem GV_0 {fit : mR} {n m all : Nat} {G1 : Nat → Int32} (h : isnu fit (xR n m G1) 0 n all) : GVp fit n m all 0 G1 := by
  obtain ⟨R, h1, h2, h3, h4⟩ := h
  rw [mfx_0] at h1
  exact ⟨fun x hx => by omega, ⟨fun o b q => by have := q.1; omega, fun o b b' q => by have := q.1; omega, fun o o' b q => by have := q.1; omega⟩, ⟨R, h1, h3, fun x y hx => by omega⟩, fun x hx => by omega⟩
theorem xR_lt {n m o : Nat} {G1 G2 : Nat → Int32} (h : ∀ x, x < o → G2 x = G1 x) {x y : Nat} (hx : x < o) : xR n m G2 x y ↔ xR n m G1 x y := by
  unfold xR
  rw [h x hx]
theorem GV_pre {ft : Nat → Nat → Bool} {n m all o : Nat} {G1 G3 : Nat → Int32} (hn : n ≤ 8) (hm : m ≤ 100) (h : GVp (fR ft n m) n m all o G1) (ho : o < n) {b : Nat} (hb : b < m) (hf : ft o b = true) (hng : ∀ x, x < o → G1 x ≠ nI b) (hag : ∀ x, x < o → G3 x = G1 x) (h3 : G3 o = nI b) : gOK m (o + 1) G3 ∧ mt (fR ft n m) (mpre (xR n m G3) (o + 1)) := by
  obtain ⟨g1, g2, _, _⟩ := h
  refine ⟨fun x hx => ?_, fun x y q => ?_, fun x y y' q q' => xR_un hm q.2 q'.2, fun x x' y q q' => ?_⟩
  · by_cases e : x = o
    · subst e; exact Or.inr ⟨b, hb, h3⟩
    · rw [hag x (by omega)]; exact g1 x (by omega)
  · obtain ⟨q1, q2⟩ := q
    by_cases e : x = o
    · subst e
      have : y = b := nI_j (by have := q2.2.1; omega) (by omega) (q2.2.2.symm.trans h3)
      subst this
      exact ⟨ho, hb, hf⟩
    · exact g2.1 x y ⟨by omega, (xR_lt hag (by omega)).mp q2⟩
  · obtain ⟨q1, q2⟩ := q
    obtain ⟨q1', q2'⟩ := q'
    by_cases e : x = o
    · by_cases e' : x' = o
      · rw [e, e']
      · have := q2'.2.2
        rw [hag x' (by omega), ← q2.2.2, e, h3] at this
        exact absurd this (hng x' (by omega))
    · by_cases e' : x' = o
      · have := q2.2.2
        rw [hag x (by omega), ← q2'.2.2, e', h3] at this
        exact absurd this (hng x (by omega))
      · exact g2.2.2 x x' y ⟨by omega, (xR_lt hag (by omega)).mp q2⟩ ⟨by omega, (xR_lt hag (by omega)).mp q2'⟩
theorem mext_lt {fit : mR} {n m all o b : Nat} {G1 G3 : Nat → Int32} (hag : ∀ x, x < o → G3 x = G1 x) : mext fit (xR n m G3) n all o b → mext fit (xR n m G1) n all o b := mext_congr (fun x y hx => xR_lt hag hx)
theorem GV_hit {ft : Nat → Nat → Bool} {n m all o : Nat} {G1 G3 : Nat → Int32} (hn : n ≤ 8) (hm : m ≤ 100) (h : GVp (fR ft n m) n m all o G1) (ho : o < n) {b : Nat} (hb : b < m) (hf : ft o b = true) (hng : ∀ x, x < o → G1 x ≠ nI b) (hag : ∀ x, x < o → G3 x = G1 x) (h3 : G3 o = nI b) (hnu : isnu (fR ft n m) (xR n m G3) (o + 1) n all) (hlow : ∀ b', b' < b → ¬ mext (fR ft n m) (xR n m G1) n all o b') : GVp (fR ft n m) n m all (o + 1) G3 := by
  obtain ⟨p1, p2⟩ := GV_pre hn hm h ho hb hf hng hag h3
  obtain ⟨R, r1, r2, r3, _⟩ := hnu
  refine ⟨p1, p2, ⟨R, mt_fit r1, r3, r2⟩, fun x hx b' hb' hext => ?_⟩
  by_cases e : x = o
  · subst e
    exact hlow b' (hb' b ⟨ho, hb, h3⟩) (mext_lt hag hext)
  · have hxo : x < o := by omega
    exact h.2.2.2 x hxo b' (fun b1 q => hb' b1 ((xR_lt hag hxo).mpr q)) (mext_lt (fun z hz => hag z (by omega)) hext)
theorem GV_miss {ft : Nat → Nat → Bool} {n m all o k : Nat} {G0 G1 G3 : Nat → Int32} (hm : m ≤ 100) {b : Nat} (ho : o < n) (hb : b < m) (hag : ∀ x, x < o → G3 x = G1 x) (h3 : G3 o = nI b) (hall : isnu (fR ft n m) (xR n m G0) 0 n all) (hnu : isnu (fR ft n m) (xR n m G3) (o + 1) n k) (hk : k ≠ all) : ¬ mext (fR ft n m) (xR n m G1) n all o b := fun ⟨N, n1, n2, n3, n4⟩ => by
  obtain ⟨R, r1, r2, r3, r4⟩ := hnu
  obtain ⟨R0, _, _, _, a4⟩ := hall
  rw [mfx_0] at a4
  have h1 := a4 R (mt_fit r1)
  have h2 := r4 N (mt_ext n1 (fun x y hx => by
    by_cases e : x = o
    · subst e
      constructor
      · intro q
        have : y = b := n1.2.1 _ _ _ q n4
        subst this
        exact ⟨ho, hb, h3⟩
      · intro q
        have : y = b := nI_j (by have := q.2.1; omega) (by omega) (q.2.2.symm.trans h3)
        subst this
        exact n4
    · exact (n3 x y (by omega)).trans (xR_lt hag (by omega)).symm))
  omega
theorem GV_none {ft : Nat → Nat → Bool} {n m all o : Nat} {G1 G3 : Nat → Int32} (hm : m ≤ 100) (h : GVp (fR ft n m) n m all o G1) (hag : ∀ x, x < o → G3 x = G1 x) (h3 : G3 o = -1) (hlow : ∀ b', b' < m → ¬ mext (fR ft n m) (xR n m G1) n all o b') : GVp (fR ft n m) n m all (o + 1) G3 := by
  obtain ⟨g1, g2, ⟨N, n1, n2, n3⟩, g4⟩ := h
  have hno : ∀ b, ¬ N o b := fun b q => hlow b (n1.1 o b q).2.1 ⟨N, n1, n2, n3, q⟩
  have hnx : ∀ y, ¬ xR n m G3 o y := fun y q => xR_no hm h3 ⟨y, q⟩
  refine ⟨fun x hx => ?_, ⟨fun x y q => ?_, fun x y y' q q' => xR_un hm q.2 q'.2, fun x x' y q q' => ?_⟩, ⟨N, n1, n2, fun x y hx => ?_⟩, fun x hx b' hb' hext => ?_⟩
  · by_cases e : x = o
    · subst e; exact Or.inl h3
    · rw [hag x (by omega)]; exact g1 x (by omega)
  · have e : x ≠ o := fun e => hnx y (by rw [← e]; exact q.2)
    have := q.1
    exact g2.1 x y ⟨by omega, (xR_lt hag (by omega)).mp q.2⟩
  · have e : x ≠ o := fun e => hnx y (by rw [← e]; exact q.2)
    have e' : x' ≠ o := fun e => hnx y (by rw [← e]; exact q'.2)
    have := q.1
    have := q'.1
    exact g2.2.2 x x' y ⟨by omega, (xR_lt hag (by omega)).mp q.2⟩ ⟨by omega, (xR_lt hag (by omega)).mp q'.2⟩
  · by_cases e : x = o
    · subst e
      exact ⟨fun q => absurd q (hno y), fun q => absurd q (hnx y)⟩
    · exact (n3 x y (by omega)).trans (xR_lt hag (by omega)).symm
  · by_cases e : x = o
    · subst e
      have hext := mext_lt hag hext
      obtain ⟨N2, w1, w2, w3, w4⟩ := hext
      exact hlow b' (w1.1 _ _ w4).2.1 ⟨N2, w1, w2, w3, w4⟩
    · have hxo : x < o := by omega
      exact g4 x hxo b' (fun b1 q => hb' b1 ((xR_lt hag hxo).mpr q)) (mext_lt (fun z hz => hag z (by omega)) hext)
theorem GV_can {ft : Nat → Nat → Bool} {n m all : Nat} {G0 G1 : Nat → Int32} (h : GVp (fR ft n m) n m all n G1) (hall : isnu (fR ft n m) (xR n m G0) 0 n all) : mcan (fR ft n m) (xR n m G1) n ∧ mc (xR n m G1) n = all := by
  obtain ⟨g1, g2, ⟨N, n1, n2, n3⟩, g4⟩ := h
  obtain ⟨R0, _, _, _, a4⟩ := hall
  rw [mfx_0] at a4
  have e : xR n m G1 = N := by
    funext x y
    refine propext ⟨fun q => (n3 x y q.1).mpr q, fun q => (n3 x y (n1.1 x y q).1).mp q⟩
  rw [e] at g4 ⊢
  rw [← n2] at g4 a4
  exact ⟨⟨n1, a4, g4⟩, n2⟩
set_option maxHeartbeats 4000000 in
set_option maxRecDepth 100000 in
theorem m_X12_giveAll (G : z_G) {g : Nat} {w0 w : z_w} {c : r_c} {l : r_l} {r : r_r} {Gv B A : Nat → Int32} (hR : r_p dM (TM g) w0 (MC c Gv B A) l r w) (na : Nat) (hc2 : c (100, 0) 2 = nI na) (hna : na ≤ 100) (no : Nat) (hco : c (100, 0) 5 = nI no) (hno : no ≤ 8) : z_M G yX12_giveAll cX12_giveAll 5 (some .int) 105 (0) (0) [vr (100, 0)] w (fun q w1 => ∃ all, all ≤ no ∧ isnu (fR (mft c) no na) (xR no na Gv) 0 no all ∧ q = some (vi (nI all)) ∧ ∃ G1 B1 A1, GVp (fR (mft c) no na) no na all no G1 ∧ r_p dM (TM g) w0 (MC c G1 B1 A1) l r w1) := by
  refine z_met ym_X12_giveAll (by decide) ⟨Nat.le_of_ble_eq_true rfl, Nat.le_of_ble_eq_true rfl⟩ (fun X hG hn hmc hms hin h hr => ?_)
  have he := hr.2.2.2.2.2.1
  refine z_aload_n h dX12_giveAll_0 rfl ?_
  refine z_iconst (v := 0) h dX12_giveAll_1 (by decide) ?_
  refine z_toe (y := nI 0) rfl ?_
  refine z_callV h dX12_giveAll_2 (fun _ _ q => z_okv_no he q) (fun _ _ _ t q => absurd q (he t)) (m_most2 _ hR na hc2 hna no hco hno 0 (Nat.zero_le _) (show gOK na 0 Gv from fun x hx => by omega) ⟨fun x y q => by have := q.1; omega, fun x y y2 q => by have := q.1; omega, fun x x2 y q => by have := q.1; omega⟩) ym_X12_most mlX12_310 im_X12_most (ci := 12) rfl se_X12_most icX12 rfl (r_p.ob hR (by first | assumption | exact Nat.le_of_ble_eq_true rfl) (by first | rfl | assumption | exact tx_2 (by first | assumption | omega) | exact tx_18 (by first | assumption | omega) | exact tx_19 (by first | assumption | omega) | exact tx_20 (by first | assumption | omega) | exact tx_27 (by first | assumption | omega) | exact tx_28 (by first | assumption | omega) | exact tx_30 (by first | assumption | omega) | exact tx_31 (by first | assumption | omega) | exact tx_32 (by first | assumption | omega) | exact tx_33 (by first | assumption | omega))) rfl (by decide) (Nat.le_of_ble_eq_true rfl) ?_
  rintro q1 w ⟨all, hall, hnu0, rfl, B0, A0, hR⟩
  refine z_istore_n h dX12_giveAll_5 (by rw [hn]; decide) ?_
  refine z_iconst (v := 0) h dX12_giveAll_6 (by decide) ?_
  refine z_istore_n h dX12_giveAll_7 (by rw [hn]; decide) ?_
  have loop_8 : ∀ (n_ : Nat) (o : Nat) (G1 B1 A1 : Nat → Int32) (w : z_w), r_p dM (TM g) w0 (MC c G1 B1 A1) l r w → GVp (fR (mft c) no na) no na all o G1 → o ≤ no → no + 1 ≤ o + n_ → z_V X 0 0 w 8 [(0, vr (100, 0)), (1, vi (nI all)), (2, vi (nI o))] [] := by
    intro n_
    induction n_ with
    | zero => intros; omega
    | succ n_ ih_8 =>
      intro o G1 B1 A1 w hR hGP ho hN
      refine z_iload_n h dX12_giveAll_8 rfl ?_
      refine z_aload_n h dX12_giveAll_9 rfl ?_
      refine y_geti h dX12_giveAll_10 hR flX12_300 (by first | assumption | exact Nat.le_of_ble_eq_true rfl) (by first | rfl | assumption | exact tx_2 (by first | assumption | omega) | exact tx_18 (by first | assumption | omega) | exact tx_19 (by first | assumption | omega) | exact tx_20 (by first | assumption | omega) | exact tx_27 (by first | assumption | omega) | exact tx_28 (by first | assumption | omega) | exact tx_30 (by first | assumption | omega) | exact tx_31 (by first | assumption | omega) | exact tx_32 (by first | assumption | omega) | exact tx_33 (by first | assumption | omega)) (by rfl) ?_
      rw [mc_ob, hco]
      refine z_icmp_ge h dX12_giveAll_13 102 (by decide) (fun c_1 => ?_) (fun c_1 => ?_)
      · skip
        have e1 : no ≤ o := (nI_leI (by omega) (by omega)).mp c_1
        refine z_iload_n h dX12_giveAll_102 rfl ?_
        exact z_iret h dX12_giveAll_103 hr (⟨all, hall, hnu0, rfl, G1, B1, A1, (show o = no by omega) ▸ hGP, hR⟩)
      · skip
        have e1 : ¬ no ≤ o := fun q => c_1 ((nI_leI (by omega) (by omega)).mpr q)
        have join_85 : ∀ (fl : Int32) (b : Nat) (G2 B2 A2 : Nat → Int32) (w : z_w), r_p dM (TM g) w0 (MC c G2 B2 A2) l r w → ((∀ x, x < o → G2 x = G1 x) ∧ ((fl = 0 ∧ ∀ b1, b1 < na → ¬ mext (fR (mft c) no na) (xR no na G1) no all o b1) ∨ (fl = 1 ∧ GVp (fR (mft c) no na) no na all (o + 1) G2))) → z_V X 0 0 w 85 [(0, vr (100, 0)), (1, vi (nI all)), (2, vi (nI o)), (3, vi fl), (4, vi (nI b))] [] := by
          intro fl b G2 B2 A2 w hR hd
          refine z_iload_n h dX12_giveAll_85 rfl ?_
          refine z_if_ne h dX12_giveAll_86 96 (by decide) (fun c_7 => ?_) (fun c_7 => ?_)
          · skip
            refine z_iinc (v := 1) h dX12_giveAll_96 rfl (by decide) (by rw [hn]; decide) ?_
            refine z_goto h dX12_giveAll_99 8 (by decide) ?_
            refine z_loc [(0, vr (100, 0)), (1, vi (nI all)), (2, vi (nI (o + 1)))] ⟨rfl, rfl, congrArg (fun z => some (vi z)) (z_up o), trivial⟩ ?_
            exact ih_8 (o + 1) _ _ _ w hR ((hd.2.resolve_left (fun q => c_7 q.1)).2) (by omega) (by omega)
          · skip
            refine z_aload_n h dX12_giveAll_89 rfl ?_
            refine y_getr h dX12_giveAll_90 hR flX12_157 (by first | assumption | exact Nat.le_of_ble_eq_true rfl) (by first | rfl | assumption | exact tx_2 (by first | assumption | omega) | exact tx_18 (by first | assumption | omega) | exact tx_19 (by first | assumption | omega) | exact tx_20 (by first | assumption | omega) | exact tx_27 (by first | assumption | omega) | exact tx_28 (by first | assumption | omega) | exact tx_30 (by first | assumption | omega) | exact tx_31 (by first | assumption | omega) | exact tx_32 (by first | assumption | omega) | exact tx_33 (by first | assumption | omega)) (by rfl) ?_
            refine z_iload_n h dX12_giveAll_93 rfl ?_
            refine z_iconst (v := -1) h dX12_giveAll_94 (by decide) ?_
            refine y_iast h dX12_giveAll_95 hR (by first | assumption | exact Nat.le_of_ble_eq_true rfl) (by first | rfl | assumption | exact tx_2 (by first | assumption | omega) | exact tx_18 (by first | assumption | omega) | exact tx_19 (by first | assumption | omega) | exact tx_20 (by first | assumption | omega) | exact tx_27 (by first | assumption | omega) | exact tx_28 (by first | assumption | omega) | exact tx_30 (by first | assumption | omega) | exact tx_31 (by first | assumption | omega) | exact tx_32 (by first | assumption | omega) | exact tx_33 (by first | assumption | omega)) (z_ixn (show o < 8 by omega) (by decide)) (fun w hR => ?_)
            refine z_iinc (v := 1) h dX12_giveAll_96 rfl (by decide) (by rw [hn]; decide) ?_
            refine z_goto h dX12_giveAll_99 8 (by decide) ?_
            refine z_loc [(0, vr (100, 0)), (1, vi (nI all)), (2, vi (nI (o + 1)))] ⟨rfl, rfl, congrArg (fun z => some (vi z)) (z_up o), trivial⟩ ?_
            exact ih_8 (o + 1) _ _ _ w (by rw [mc_sG] at hR; exact hR) (GV_none hna hGP (fun x hx => by rw [pk_un (show x ≠ o by omega)]; exact hd.1 x hx) pk_us ((hd.2.resolve_right (fun q => by rw [q.1] at c_7; exact absurd c_7 (by decide))).2)) (by omega) (by omega)
        refine z_iconst (v := 0) h dX12_giveAll_16 (by decide) ?_
        refine z_istore_n h dX12_giveAll_17 (by rw [hn]; decide) ?_
        refine z_iconst (v := 0) h dX12_giveAll_18 (by decide) ?_
        refine z_istore h dX12_giveAll_19 (by rw [hn]; decide) ?_
        have loop_21 : ∀ (k_ : Nat) (fl : Int32) (b : Nat) (G2 B2 A2 : Nat → Int32) (w : z_w), r_p dM (TM g) w0 (MC c G2 B2 A2) l r w → ((∀ x, x < o → G2 x = G1 x) ∧ ((fl = 0 ∧ ∀ b1, b1 < b → ¬ mext (fR (mft c) no na) (xR no na G1) no all o b1) ∨ (fl = 1 ∧ GVp (fR (mft c) no na) no na all (o + 1) G2))) → b ≤ na → na + 1 ≤ b + k_ → z_V X 0 0 w 21 [(0, vr (100, 0)), (1, vi (nI all)), (2, vi (nI o)), (3, vi fl), (4, vi (nI b))] [] := by
          intro k_
          induction k_ with
          | zero => intros; omega
          | succ k_ ih_21 =>
            intro fl b G2 B2 A2 w hR hd hb hN
            refine z_iload h dX12_giveAll_21 rfl ?_
            refine z_aload_n h dX12_giveAll_23 rfl ?_
            refine y_geti h dX12_giveAll_24 hR flX12_257 (by first | assumption | exact Nat.le_of_ble_eq_true rfl) (by first | rfl | assumption | exact tx_2 (by first | assumption | omega) | exact tx_18 (by first | assumption | omega) | exact tx_19 (by first | assumption | omega) | exact tx_20 (by first | assumption | omega) | exact tx_27 (by first | assumption | omega) | exact tx_28 (by first | assumption | omega) | exact tx_30 (by first | assumption | omega) | exact tx_31 (by first | assumption | omega) | exact tx_32 (by first | assumption | omega) | exact tx_33 (by first | assumption | omega)) (by rfl) ?_
            rw [mc_ob, hc2]
            refine z_icmp_ge h dX12_giveAll_27 85 (by decide) (fun c_2 => ?_) (fun c_2 => ?_)
            · skip
              have e1 : na ≤ b := (nI_leI (by omega) (by omega)).mp c_2
              exact join_85 fl b G2 B2 A2 w hR ⟨hd.1, hd.2.imp (fun q => ⟨q.1, fun b1 hb1 => q.2 b1 (by omega)⟩) id⟩
            · skip
              have e1 : ¬ na ≤ b := fun q => c_2 ((nI_leI (by omega) (by omega)).mpr q)
              refine z_iload_n h dX12_giveAll_30 rfl ?_
              refine z_if_ne h dX12_giveAll_31 85 (by decide) (fun c_3 => ?_) (fun c_3 => ?_)
              · skip
                exact join_85 fl b G2 B2 A2 w hR ⟨hd.1, Or.inr (hd.2.resolve_left (fun q => c_3 q.1))⟩
              · skip
                have hlow := (hd.2.resolve_right (fun q => by rw [q.1] at c_3; exact absurd c_3 (by decide))).2
                refine z_aload_n h dX12_giveAll_34 rfl ?_
                refine z_iload_n h dX12_giveAll_35 rfl ?_
                refine z_iload h dX12_giveAll_36 rfl ?_
                refine z_callV h dX12_giveAll_38 (fun _ _ q => z_okv_no he q) (fun _ _ _ t q => absurd q (he t)) (m_fits _ hR o b (by omega) (by omega)) ym_X12_fits mlX12_303 im_X12_fits (ci := 12) rfl se_X12_fits icX12 rfl (r_p.ob hR (by first | assumption | exact Nat.le_of_ble_eq_true rfl) (by first | rfl | assumption | exact tx_2 (by first | assumption | omega) | exact tx_18 (by first | assumption | omega) | exact tx_19 (by first | assumption | omega) | exact tx_20 (by first | assumption | omega) | exact tx_27 (by first | assumption | omega) | exact tx_28 (by first | assumption | omega) | exact tx_30 (by first | assumption | omega) | exact tx_31 (by first | assumption | omega) | exact tx_32 (by first | assumption | omega) | exact tx_33 (by first | assumption | omega))) rfl (by decide) (Nat.le_of_ble_eq_true rfl) ?_
                rintro q1 w1 ⟨rfl, hw1⟩
                have hw1 := hw1.symm; subst hw1
                refine z_if_eq h dX12_giveAll_41 79 (by decide) (fun c_4 => ?_) (fun c_4 => ?_)
                · skip
                  have hft : mft c o b = false := by
                    cases q : mft c o b with
                    | false => rfl
                    | true => exact absurd q (z_bf c_4)
                  refine z_iinc (v := 1) h dX12_giveAll_79 rfl (by decide) (by rw [hn]; decide) ?_
                  refine z_goto h dX12_giveAll_82 21 (by decide) ?_
                  refine z_loc [(0, vr (100, 0)), (1, vi (nI all)), (2, vi (nI o)), (3, vi (0)), (4, vi (nI (b + 1)))] ⟨rfl, rfl, rfl, congrArg (fun z => some (vi z)) c_3, congrArg (fun z => some (vi z)) (z_up b), trivial⟩ ?_
                  exact ih_21 0 (b + 1) G2 B2 A2 w hR ⟨hd.1, Or.inl ⟨rfl, fun b1 hb1 => by
                    by_cases e : b1 = b
                    · subst e; exact fun ⟨N, n1, n2, n3, n4⟩ => by
                        have := (n1.1 _ _ n4).2.2
                        rw [hft] at this; cases this
                    · exact hlow b1 (by omega)⟩⟩ (by omega) (by omega)
                · skip
                  have hft : mft c o b = true := z_bt c_4
                  refine z_aload_n h dX12_giveAll_44 rfl ?_
                  refine z_iload h dX12_giveAll_45 rfl ?_
                  refine z_iload_n h dX12_giveAll_47 rfl ?_
                  refine z_callV h dX12_giveAll_48 (fun _ _ q => z_okv_no he q) (fun _ _ _ t q => absurd q (he t)) (m_X12_isGiven _ hR (nI b) o (by omega)) ym_X12_isGiven mlX12_313 im_X12_isGiven (ci := 12) rfl se_X12_isGiven icX12 rfl (r_p.ob hR (by first | assumption | exact Nat.le_of_ble_eq_true rfl) (by first | rfl | assumption | exact tx_2 (by first | assumption | omega) | exact tx_18 (by first | assumption | omega) | exact tx_19 (by first | assumption | omega) | exact tx_20 (by first | assumption | omega) | exact tx_27 (by first | assumption | omega) | exact tx_28 (by first | assumption | omega) | exact tx_30 (by first | assumption | omega) | exact tx_31 (by first | assumption | omega) | exact tx_32 (by first | assumption | omega) | exact tx_33 (by first | assumption | omega))) rfl (by decide) (Nat.le_of_ble_eq_true rfl) ?_
                  rintro q1 w1 ⟨rfl, hw1⟩
                  have hw1 := hw1.symm; subst hw1
                  refine z_if_ne h dX12_giveAll_51 79 (by decide) (fun c_5 => ?_) (fun c_5 => ?_)
                  · skip
                    have hgv := gvn_iff.mp (z_bt c_5)
                    refine z_iinc (v := 1) h dX12_giveAll_79 rfl (by decide) (by rw [hn]; decide) ?_
                    refine z_goto h dX12_giveAll_82 21 (by decide) ?_
                    refine z_loc [(0, vr (100, 0)), (1, vi (nI all)), (2, vi (nI o)), (3, vi (0)), (4, vi (nI (b + 1)))] ⟨rfl, rfl, rfl, congrArg (fun z => some (vi z)) c_3, congrArg (fun z => some (vi z)) (z_up b), trivial⟩ ?_
                    exact ih_21 0 (b + 1) G2 B2 A2 w hR ⟨hd.1, Or.inl ⟨rfl, fun b1 hb1 => by
                      by_cases e : b1 = b
                      · subst e; exact fun ⟨N, n1, n2, n3, n4⟩ => by
                          obtain ⟨x, x1, x2⟩ := hgv
                          have q := n1.2.2 x o b1 ((n3 x b1 x1).mpr ⟨by omega, by omega, by rw [← hd.1 x x1]; exact x2⟩) n4
                          omega
                      · exact hlow b1 (by omega)⟩⟩ (by omega) (by omega)
                  · skip
                    have hgv : ∀ x, x < o → G1 x ≠ nI b := fun x hx q => z_bf c_5 (gvn_iff.mpr ⟨x, hx, by rw [hd.1 x hx]; exact q⟩)
                    refine z_aload_n h dX12_giveAll_54 rfl ?_
                    refine y_getr h dX12_giveAll_55 hR flX12_157 (by first | assumption | exact Nat.le_of_ble_eq_true rfl) (by first | rfl | assumption | exact tx_2 (by first | assumption | omega) | exact tx_18 (by first | assumption | omega) | exact tx_19 (by first | assumption | omega) | exact tx_20 (by first | assumption | omega) | exact tx_27 (by first | assumption | omega) | exact tx_28 (by first | assumption | omega) | exact tx_30 (by first | assumption | omega) | exact tx_31 (by first | assumption | omega) | exact tx_32 (by first | assumption | omega) | exact tx_33 (by first | assumption | omega)) (by rfl) ?_
                    refine z_iload_n h dX12_giveAll_58 rfl ?_
                    refine z_iload h dX12_giveAll_59 rfl ?_
                    refine y_iast h dX12_giveAll_61 hR (by first | assumption | exact Nat.le_of_ble_eq_true rfl) (by first | rfl | assumption | exact tx_2 (by first | assumption | omega) | exact tx_18 (by first | assumption | omega) | exact tx_19 (by first | assumption | omega) | exact tx_20 (by first | assumption | omega) | exact tx_27 (by first | assumption | omega) | exact tx_28 (by first | assumption | omega) | exact tx_30 (by first | assumption | omega) | exact tx_31 (by first | assumption | omega) | exact tx_32 (by first | assumption | omega) | exact tx_33 (by first | assumption | omega)) (z_ixn (show o < 8 by omega) (by decide)) (fun w hR => ?_)
                    rw [mc_sG] at hR
                    have hag3 : ∀ x, x < o → (upd G2 o (nI b)) x = G1 x := fun x hx => by rw [pk_un (show x ≠ o by omega)]; exact hd.1 x hx
                    obtain ⟨hok3, hpre3⟩ := GV_pre hno hna hGP (show o < no by omega) (show b < na by omega) hft hgv hag3 pk_us
                    refine z_aload_n h dX12_giveAll_62 rfl ?_
                    refine z_iload_n h dX12_giveAll_63 rfl ?_
                    refine z_iconst (v := 1) h dX12_giveAll_64 (by decide) ?_
                    refine z_iadd h dX12_giveAll_65 ?_
                    refine z_toe (y := nI (o + 1)) (z_up o) ?_
                    refine z_callV h dX12_giveAll_66 (fun _ _ q => z_okv_no he q) (fun _ _ _ t q => absurd q (he t)) (m_most2 _ hR na hc2 hna no hco hno (o + 1) (by omega) hok3 hpre3) ym_X12_most mlX12_310 im_X12_most (ci := 12) rfl se_X12_most icX12 rfl (r_p.ob hR (by first | assumption | exact Nat.le_of_ble_eq_true rfl) (by first | rfl | assumption | exact tx_2 (by first | assumption | omega) | exact tx_18 (by first | assumption | omega) | exact tx_19 (by first | assumption | omega) | exact tx_20 (by first | assumption | omega) | exact tx_27 (by first | assumption | omega) | exact tx_28 (by first | assumption | omega) | exact tx_30 (by first | assumption | omega) | exact tx_31 (by first | assumption | omega) | exact tx_32 (by first | assumption | omega) | exact tx_33 (by first | assumption | omega))) rfl (by decide) (Nat.le_of_ble_eq_true rfl) ?_
                    rintro q1 w ⟨k2, hk8, hnu2, rfl, B3, A3, hR⟩
                    refine z_iload_n h dX12_giveAll_69 rfl ?_
                    refine z_icmp_ne h dX12_giveAll_70 77 (by decide) (fun c_6 => ?_) (fun c_6 => ?_)
                    · skip
                      refine z_iconst (v := 0) h dX12_giveAll_77 (by decide) ?_
                      refine z_istore_n h dX12_giveAll_78 (by rw [hn]; decide) ?_
                      refine z_iinc (v := 1) h dX12_giveAll_79 rfl (by decide) (by rw [hn]; decide) ?_
                      refine z_goto h dX12_giveAll_82 21 (by decide) ?_
                      refine z_loc [(0, vr (100, 0)), (1, vi (nI all)), (2, vi (nI o)), (3, vi (0)), (4, vi (nI (b + 1)))] ⟨rfl, rfl, rfl, rfl, congrArg (fun z => some (vi z)) (z_up b), trivial⟩ ?_
                      exact ih_21 0 (b + 1) _ _ _ w hR ⟨hag3, Or.inl ⟨rfl, fun b1 hb1 => by
                        by_cases e : b1 = b
                        · subst e; exact GV_miss hna (by omega) (by omega) hag3 pk_us hnu0 hnu2 (fun q => c_6 (by rw [q]))
                        · exact hlow b1 (by omega)⟩⟩ (by omega) (by omega)
                    · skip
                      have hk2 : k2 = all := (nI_eq (by omega) (by omega)).mp c_6
                      refine z_iconst (v := 1) h dX12_giveAll_73 (by decide) ?_
                      refine z_goto h dX12_giveAll_74 78 (by decide) ?_
                      refine z_istore_n h dX12_giveAll_78 (by rw [hn]; decide) ?_
                      refine z_iinc (v := 1) h dX12_giveAll_79 rfl (by decide) (by rw [hn]; decide) ?_
                      refine z_goto h dX12_giveAll_82 21 (by decide) ?_
                      refine z_loc [(0, vr (100, 0)), (1, vi (nI all)), (2, vi (nI o)), (3, vi (1)), (4, vi (nI (b + 1)))] ⟨rfl, rfl, rfl, rfl, congrArg (fun z => some (vi z)) (z_up b), trivial⟩ ?_
                      exact ih_21 1 (b + 1) _ _ _ w hR ⟨hag3, Or.inr ⟨rfl, GV_hit hno hna hGP (by omega) (by omega) hft hgv hag3 pk_us (by rw [← hk2]; exact hnu2) hlow⟩⟩ (by omega) (by omega)
        exact z_loc [(0, vr (100, 0)), (1, vi (nI all)), (2, vi (nI o)), (3, vi 0), (4, vi (nI 0))] ⟨rfl, rfl, rfl, rfl, rfl, trivial⟩ (loop_21 (na + 1) 0 0 G1 B1 A1 w hR ⟨fun _ _ => rfl, Or.inl ⟨rfl, fun b1 hb1 => by omega⟩⟩ (by omega) (by omega))
  exact z_loc [(0, vr (100, 0)), (1, vi (nI all)), (2, vi (nI 0))] ⟨rfl, rfl, rfl, trivial⟩ (loop_8 (no + 1) 0 Gv B0 A0 w hR (GV_0 hnu0) (by omega) (by omega))
