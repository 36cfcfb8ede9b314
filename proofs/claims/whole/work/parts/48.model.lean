/-! the reference: met, want, count -/
theorem ex_nu {ft : Nat → Nat → Bool} {n m : Nat} (hn : n ≤ 8) (hm : m ≤ 100) (Gv : Nat → Int32) : ∃ k, k ≤ n ∧ isnu (fR ft n m) (xR n m Gv) 0 n k := by
  have := most_nu (ft := ft) (s := 0) (Gv := Gv) (B := fun _ => -1) (A := fun _ => 0) hn hm (Nat.zero_le n) (fun x hx => by omega) (fun y hy => rfl) ⟨fun x y q => by have := q.1; omega, fun x y y2 q => by have := q.1; omega, fun x x2 y q => by have := q.1; omega⟩
  exact ⟨_, this.2, this.1⟩
theorem pre_0 {fit G : mR} : mt fit (mpre G 0) := ⟨fun x y q => by have := q.1; omega, fun x y y2 q => by have := q.1; omega, fun x x2 y q => by have := q.1; omega⟩
theorem gOK_0 {m : Nat} {G : Nat → Int32} : gOK m 0 G := fun x hx => by omega
def chv (ft : Nat → Nat → Bool) (st b : Nat) : Nat → Bool
  | 0 => false
  | k + 1 => chv ft st b k || (st.testBit k && ft k b)
set_option maxHeartbeats 4000000 in
set_option maxRecDepth 100000 in
theorem m_X12_met (G : z_G) {g : Nat} {w0 w : z_w} {c : r_c} {l : r_l} {r : r_r} (hR : r_p dM (TM g) w0 c l r w) (na : Nat) (hc2 : c (100, 0) 2 = nI na) (hna : na ≤ 100) (no : Nat) (hco : c (100, 0) 5 = nI no) (hno : no ≤ 8) (x : Int32) : z_M G yX12_met cX12_met 2 (some .int) 106 (0) (0) [vr (100, 0), vi x] w (fun q w1 => if ix_ok x no then ∃ all G1 B1 A1, isnu (fR (mft c) no na) (xR no na (c (166, 0))) 0 no all ∧ GVp (fR (mft c) no na) no na all no G1 ∧ q = some (vi (G1 x.toNatClampNeg)) ∧ r_p dM (TM g) w0 (MC c G1 B1 A1) l r w1 else q = some (vi (-1)) ∧ w1 = w) := by
  refine z_met ym_X12_met (by decide) ⟨Nat.le_of_ble_eq_true rfl, Nat.le_of_ble_eq_true rfl⟩ (fun X hG hn hmc hms hin h hr => ?_)
  have he := hr.2.2.2.2.2.1
  refine z_iload_n h dX12_met_0 rfl ?_
  refine z_iconst (v := 0) h dX12_met_1 (by decide) ?_
  refine z_aload_n h dX12_met_2 rfl ?_
  refine y_geti h dX12_met_3 hR flX12_300 (by first | assumption | exact Nat.le_of_ble_eq_true rfl) (by first | rfl | assumption | exact tx_2 (by first | assumption | omega) | exact tx_18 (by first | assumption | omega) | exact tx_19 (by first | assumption | omega) | exact tx_20 (by first | assumption | omega) | exact tx_27 (by first | assumption | omega) | exact tx_28 (by first | assumption | omega) | exact tx_30 (by first | assumption | omega) | exact tx_31 (by first | assumption | omega) | exact tx_32 (by first | assumption | omega) | exact tx_33 (by first | assumption | omega)) (by rfl) ?_
  rw [hco]
  refine z_iconst (v := 1) h dX12_met_6 (by decide) ?_
  refine z_isub h dX12_met_7 ?_
  refine z_callS h dX12_met_8 (fun _ _ q => z_okv_no he q) (fun _ _ _ t q => absurd q (he t)) (m_X12_in _ _ _ _ _) ym_X12_in mlX12_169 sm_X12_in rfl (by decide) (Nat.le_of_ble_eq_true rfl) ?_
  rintro q1 w1 ⟨rfl, hw1⟩
  have hw1 := hw1.symm; subst hw1
  refine z_if_ne h dX12_met_11 16 (by decide) (fun c_1 => ?_) (fun c_1 => ?_)
  · skip
    rw [← mc_id (c := c)] at hR
    refine z_aload_n h dX12_met_16 rfl ?_
    refine z_callV h dX12_met_17 (fun _ _ q => z_okv_no he q) (fun _ _ _ t q => absurd q (he t)) (m_X12_giveAll _ hR na hc2 hna no hco hno) ym_X12_giveAll mlX12_316 im_X12_giveAll (ci := 12) rfl se_X12_giveAll icX12 rfl (r_p.ob hR (by first | assumption | exact Nat.le_of_ble_eq_true rfl) (by first | rfl | assumption | exact tx_2 (by first | assumption | omega) | exact tx_18 (by first | assumption | omega) | exact tx_19 (by first | assumption | omega) | exact tx_20 (by first | assumption | omega) | exact tx_27 (by first | assumption | omega) | exact tx_28 (by first | assumption | omega) | exact tx_30 (by first | assumption | omega) | exact tx_31 (by first | assumption | omega) | exact tx_32 (by first | assumption | omega) | exact tx_33 (by first | assumption | omega))) rfl (by decide) (Nat.le_of_ble_eq_true rfl) ?_
    rintro q1 w ⟨all, hall, hnu0, rfl, G1, B1, A1, hGP, hR⟩
    refine z_pop_i h dX12_met_20 ?_
    refine z_aload_n h dX12_met_21 rfl ?_
    refine y_getr h dX12_met_22 hR flX12_157 (by first | assumption | exact Nat.le_of_ble_eq_true rfl) (by first | rfl | assumption | exact tx_2 (by first | assumption | omega) | exact tx_18 (by first | assumption | omega) | exact tx_19 (by first | assumption | omega) | exact tx_20 (by first | assumption | omega) | exact tx_27 (by first | assumption | omega) | exact tx_28 (by first | assumption | omega) | exact tx_30 (by first | assumption | omega) | exact tx_31 (by first | assumption | omega) | exact tx_32 (by first | assumption | omega) | exact tx_33 (by first | assumption | omega)) (by rfl) ?_
    refine z_iload_n h dX12_met_25 rfl ?_
    have hix := (ix_in (n := no) (by omega)).mp (z_bt c_1)
    refine y_iald h dX12_met_26 hR (by first | assumption | exact Nat.le_of_ble_eq_true rfl) (by first | rfl | assumption | exact tx_2 (by first | assumption | omega) | exact tx_18 (by first | assumption | omega) | exact tx_19 (by first | assumption | omega) | exact tx_20 (by first | assumption | omega) | exact tx_27 (by first | assumption | omega) | exact tx_28 (by first | assumption | omega) | exact tx_30 (by first | assumption | omega) | exact tx_31 (by first | assumption | omega) | exact tx_32 (by first | assumption | omega) | exact tx_33 (by first | assumption | omega)) (z_ixe (ix_eq hix) (show x.toNatClampNeg < 8 by have := ix_lt hix (by omega); omega) (by decide)) ?_
    exact z_iret h dX12_met_27 hr (z_t hix ⟨all, G1, B1, A1, hnu0, hGP, z_e1 (by rw [mc_G]), hR⟩)
  · skip
    refine z_iconst (v := -1) h dX12_met_14 (by decide) ?_
    exact z_iret h dX12_met_15 hr (z_f (fun q => z_bf c_1 ((ix_in (n := no) (by omega)).mpr q)) ⟨rfl, rfl⟩)
set_option maxHeartbeats 4000000 in
set_option maxRecDepth 100000 in
theorem m_X12_couldHave (G : z_G) {g : Nat} {w0 w : z_w} {c : r_c} {l : r_l} {r : r_r} {Gv B A : Nat → Int32} (hR : r_p dM (TM g) w0 (MC c Gv B A) l r w) (na : Nat) (hc2 : c (100, 0) 2 = nI na) (hna : na ≤ 100) (no : Nat) (hco : c (100, 0) 5 = nI no) (hno : no ≤ 8) (st : Nat) (hst : st < 256) : z_M G yX12_couldHave cX12_couldHave 6 (some .int) 3 (0) (0) [vr (100, 0), vi (nI st)] w (fun q w1 => q = some (vi (nI (o_cnt (fun b => chv (mft c) st b no) na))) ∧ w1 = w) := by
  refine z_met ym_X12_couldHave (by decide) ⟨Nat.le_of_ble_eq_true rfl, Nat.le_of_ble_eq_true rfl⟩ (fun X hG hn hmc hms hin h hr => ?_)
  have he := hr.2.2.2.2.2.1
  refine z_iconst (v := 0) h dX12_couldHave_0 (by decide) ?_
  refine z_istore_n h dX12_couldHave_1 (by rw [hn]; decide) ?_
  refine z_iconst (v := 0) h dX12_couldHave_2 (by decide) ?_
  refine z_istore_n h dX12_couldHave_3 (by rw [hn]; decide) ?_
  have loop_4 : ∀ (n_ : Nat) (b : Nat), b ≤ na → na + 1 ≤ b + n_ → z_V X 0 0 w 4 [(0, vr (100, 0)), (1, vi (nI st)), (2, vi (nI (o_cnt (fun b => chv (mft c) st b no) b))), (3, vi (nI b))] [] := by
    intro n_
    induction n_ with
    | zero => intros; omega
    | succ n_ ih_4 =>
      intro b hb hN
      refine z_iload_n h dX12_couldHave_4 rfl ?_
      refine z_aload_n h dX12_couldHave_5 rfl ?_
      refine y_geti h dX12_couldHave_6 hR flX12_257 (by first | assumption | exact Nat.le_of_ble_eq_true rfl) (by first | rfl | assumption | exact tx_2 (by first | assumption | omega) | exact tx_18 (by first | assumption | omega) | exact tx_19 (by first | assumption | omega) | exact tx_20 (by first | assumption | omega) | exact tx_27 (by first | assumption | omega) | exact tx_28 (by first | assumption | omega) | exact tx_30 (by first | assumption | omega) | exact tx_31 (by first | assumption | omega) | exact tx_32 (by first | assumption | omega) | exact tx_33 (by first | assumption | omega)) (by rfl) ?_
      rw [mc_ob, hc2]
      refine z_icmp_ge h dX12_couldHave_9 84 (by decide) (fun c_1 => ?_) (fun c_1 => ?_)
      · skip
        have e1 : na ≤ b := (nI_leI (by omega) (by omega)).mp c_1
        refine z_iload_n h dX12_couldHave_84 rfl ?_
        exact z_iret h dX12_couldHave_85 hr (⟨z_e1 (by rw [show na = b by omega]), rfl⟩)
      · skip
        have e1 : ¬ na ≤ b := fun q => c_1 ((nI_leI (by omega) (by omega)).mpr q)
        refine z_iconst (v := 0) h dX12_couldHave_12 (by decide) ?_
        refine z_istore h dX12_couldHave_13 (by rw [hn]; decide) ?_
        refine z_iconst (v := 0) h dX12_couldHave_15 (by decide) ?_
        refine z_istore h dX12_couldHave_16 (by rw [hn]; decide) ?_
        have loop_18 : ∀ (k_ : Nat) (k : Nat), k ≤ no → no + 1 ≤ k + k_ → z_V X 0 0 w 18 [(0, vr (100, 0)), (1, vi (nI st)), (2, vi (nI (o_cnt (fun b => chv (mft c) st b no) b))), (3, vi (nI b)), (4, vi (z_b ((chv (mft c) st b k) = true))), (5, vi (nI k))] [] := by
          intro k_
          induction k_ with
          | zero => intros; omega
          | succ k_ ih_18 =>
            intro k hk hN
            refine z_iload h dX12_couldHave_18 rfl ?_
            refine z_aload_n h dX12_couldHave_20 rfl ?_
            refine y_geti h dX12_couldHave_21 hR flX12_300 (by first | assumption | exact Nat.le_of_ble_eq_true rfl) (by first | rfl | assumption | exact tx_2 (by first | assumption | omega) | exact tx_18 (by first | assumption | omega) | exact tx_19 (by first | assumption | omega) | exact tx_20 (by first | assumption | omega) | exact tx_27 (by first | assumption | omega) | exact tx_28 (by first | assumption | omega) | exact tx_30 (by first | assumption | omega) | exact tx_31 (by first | assumption | omega) | exact tx_32 (by first | assumption | omega) | exact tx_33 (by first | assumption | omega)) (by rfl) ?_
            rw [mc_ob, hco]
            refine z_icmp_ge h dX12_couldHave_24 65 (by decide) (fun c_2 => ?_) (fun c_2 => ?_)
            · skip
              have e1 : no ≤ k := (nI_leI (by omega) (by omega)).mp c_2
              refine z_iload_n h dX12_couldHave_65 rfl ?_
              refine z_iload h dX12_couldHave_66 rfl ?_
              refine z_if_eq h dX12_couldHave_68 75 (by decide) (fun c_6 => ?_) (fun c_6 => ?_)
              · skip
                refine z_iconst (v := 0) h dX12_couldHave_75 (by decide) ?_
                refine z_iadd h dX12_couldHave_76 ?_
                refine z_istore_n h dX12_couldHave_77 (by rw [hn]; decide) ?_
                refine z_iinc (v := 1) h dX12_couldHave_78 rfl (by decide) (by rw [hn]; decide) ?_
                refine z_goto h dX12_couldHave_81 4 (by decide) ?_
                refine z_loc [(0, vr (100, 0)), (1, vi (nI st)), (2, vi (nI (o_cnt (fun b => chv (mft c) st b no) (b + 1)))), (3, vi (nI (b + 1)))] ⟨rfl, rfl, by rw [o_cnt, if_neg (by rw [show no = k by omega]; exact z_bf c_6)]; exact congrArg (fun z => some (vi z)) (Int32.add_zero _), congrArg (fun z => some (vi z)) (z_up b), trivial⟩ ?_
                exact ih_4 (b + 1) (by omega) (by omega)
              · skip
                refine z_iconst (v := 1) h dX12_couldHave_71 (by decide) ?_
                refine z_goto h dX12_couldHave_72 76 (by decide) ?_
                refine z_iadd h dX12_couldHave_76 ?_
                refine z_istore_n h dX12_couldHave_77 (by rw [hn]; decide) ?_
                refine z_iinc (v := 1) h dX12_couldHave_78 rfl (by decide) (by rw [hn]; decide) ?_
                refine z_goto h dX12_couldHave_81 4 (by decide) ?_
                refine z_loc [(0, vr (100, 0)), (1, vi (nI st)), (2, vi (nI (o_cnt (fun b => chv (mft c) st b no) (b + 1)))), (3, vi (nI (b + 1)))] ⟨rfl, rfl, by rw [o_cnt, if_pos (by rw [show no = k by omega]; exact z_bt c_6)]; exact congrArg (fun z => some (vi z)) (z_up _), congrArg (fun z => some (vi z)) (z_up b), trivial⟩ ?_
                exact ih_4 (b + 1) (by omega) (by omega)
            · skip
              have e1 : ¬ no ≤ k := fun q => c_2 ((nI_leI (by omega) (by omega)).mpr q)
              refine z_iload h dX12_couldHave_27 rfl ?_
              refine z_if_ne h dX12_couldHave_29 52 (by decide) (fun c_3 => ?_) (fun c_3 => ?_)
              · skip
                refine z_iconst (v := 1) h dX12_couldHave_52 (by decide) ?_
                refine z_goto h dX12_couldHave_53 57 (by decide) ?_
                refine z_istore h dX12_couldHave_57 (by rw [hn]; decide) ?_
                refine z_iinc (v := 1) h dX12_couldHave_59 rfl (by decide) (by rw [hn]; decide) ?_
                refine z_goto h dX12_couldHave_62 18 (by decide) ?_
                refine z_loc [(0, vr (100, 0)), (1, vi (nI st)), (2, vi (nI (o_cnt (fun b => chv (mft c) st b no) b))), (3, vi (nI b)), (4, vi (z_b (chv (mft c) st b (k + 1) = true))), (5, vi (nI (k + 1)))] ⟨rfl, rfl, rfl, rfl, z_ret1 (by show (chv (mft c) st b k || (st.testBit k && mft c k b)) = true; rw [z_bt c_3]; rfl), congrArg (fun z => some (vi z)) (z_up k), trivial⟩ ?_
                exact ih_18 (k + 1) (by omega) (by omega)
              · skip
                refine z_iload_n h dX12_couldHave_32 rfl ?_
                refine z_iload h dX12_couldHave_33 rfl ?_
                refine z_ishr h dX12_couldHave_35 ?_
                refine z_iconst (v := 1) h dX12_couldHave_36 (by decide) ?_
                refine z_iand h dX12_couldHave_37 ?_
                refine z_toe (y := if st.testBit k = true then 1 else 0) (o_tb_ k (by omega) st hst) ?_
                refine z_iconst (v := 1) h dX12_couldHave_38 (by decide) ?_
                refine z_icmp_ne h dX12_couldHave_39 56 (by decide) (fun c_4 => ?_) (fun c_4 => ?_)
                · skip
                  have e4 : st.testBit k = false := by
                    cases q : st.testBit k with
                    | false => rfl
                    | true => rw [q] at c_4; exact absurd rfl c_4
                  refine z_iconst (v := 0) h dX12_couldHave_56 (by decide) ?_
                  refine z_istore h dX12_couldHave_57 (by rw [hn]; decide) ?_
                  refine z_iinc (v := 1) h dX12_couldHave_59 rfl (by decide) (by rw [hn]; decide) ?_
                  refine z_goto h dX12_couldHave_62 18 (by decide) ?_
                  refine z_loc [(0, vr (100, 0)), (1, vi (nI st)), (2, vi (nI (o_cnt (fun b => chv (mft c) st b no) b))), (3, vi (nI b)), (4, vi (z_b (chv (mft c) st b (k + 1) = true))), (5, vi (nI (k + 1)))] ⟨rfl, rfl, rfl, rfl, z_ret0 (by show ¬ (chv (mft c) st b k || (st.testBit k && mft c k b)) = true; rw [e4]; simpa using z_bf c_3), congrArg (fun z => some (vi z)) (z_up k), trivial⟩ ?_
                  exact ih_18 (k + 1) (by omega) (by omega)
                · skip
                  have e4 : st.testBit k = true := by
                    cases q : st.testBit k with
                    | true => rfl
                    | false => rw [q] at c_4; exact absurd c_4 (by decide)
                  refine z_aload_n h dX12_couldHave_42 rfl ?_
                  refine z_iload h dX12_couldHave_43 rfl ?_
                  refine z_iload_n h dX12_couldHave_45 rfl ?_
                  refine z_callV h dX12_couldHave_46 (fun _ _ q => z_okv_no he q) (fun _ _ _ t q => absurd q (he t)) (m_fits _ hR k b (by omega) (by omega)) ym_X12_fits mlX12_303 im_X12_fits (ci := 12) rfl se_X12_fits icX12 rfl (r_p.ob hR (by first | assumption | exact Nat.le_of_ble_eq_true rfl) (by first | rfl | assumption | exact tx_2 (by first | assumption | omega) | exact tx_18 (by first | assumption | omega) | exact tx_19 (by first | assumption | omega) | exact tx_20 (by first | assumption | omega) | exact tx_27 (by first | assumption | omega) | exact tx_28 (by first | assumption | omega) | exact tx_30 (by first | assumption | omega) | exact tx_31 (by first | assumption | omega) | exact tx_32 (by first | assumption | omega) | exact tx_33 (by first | assumption | omega))) rfl (by decide) (Nat.le_of_ble_eq_true rfl) ?_
                  rintro q1 w1 ⟨rfl, hw1⟩
                  have hw1 := hw1.symm; subst hw1
                  refine z_if_eq h dX12_couldHave_49 56 (by decide) (fun c_5 => ?_) (fun c_5 => ?_)
                  · skip
                    refine z_iconst (v := 0) h dX12_couldHave_56 (by decide) ?_
                    refine z_istore h dX12_couldHave_57 (by rw [hn]; decide) ?_
                    refine z_iinc (v := 1) h dX12_couldHave_59 rfl (by decide) (by rw [hn]; decide) ?_
                    refine z_goto h dX12_couldHave_62 18 (by decide) ?_
                    refine z_loc [(0, vr (100, 0)), (1, vi (nI st)), (2, vi (nI (o_cnt (fun b => chv (mft c) st b no) b))), (3, vi (nI b)), (4, vi (z_b (chv (mft c) st b (k + 1) = true))), (5, vi (nI (k + 1)))] ⟨rfl, rfl, rfl, rfl, z_ret0 (by show ¬ (chv (mft c) st b k || (st.testBit k && mft c k b)) = true; intro q; rw [Bool.or_eq_true, Bool.and_eq_true] at q; exact q.elim (z_bf c_3) (fun z => z_bf c_5 z.2)), congrArg (fun z => some (vi z)) (z_up k), trivial⟩ ?_
                    exact ih_18 (k + 1) (by omega) (by omega)
                  · skip
                    refine z_iconst (v := 1) h dX12_couldHave_52 (by decide) ?_
                    refine z_goto h dX12_couldHave_53 57 (by decide) ?_
                    refine z_istore h dX12_couldHave_57 (by rw [hn]; decide) ?_
                    refine z_iinc (v := 1) h dX12_couldHave_59 rfl (by decide) (by rw [hn]; decide) ?_
                    refine z_goto h dX12_couldHave_62 18 (by decide) ?_
                    refine z_loc [(0, vr (100, 0)), (1, vi (nI st)), (2, vi (nI (o_cnt (fun b => chv (mft c) st b no) b))), (3, vi (nI b)), (4, vi (z_b (chv (mft c) st b (k + 1) = true))), (5, vi (nI (k + 1)))] ⟨rfl, rfl, rfl, rfl, z_ret1 (by show (chv (mft c) st b k || (st.testBit k && mft c k b)) = true; rw [e4, z_bt c_5]; simp), congrArg (fun z => some (vi z)) (z_up k), trivial⟩ ?_
                    exact ih_18 (k + 1) (by omega) (by omega)
        exact z_loc [(0, vr (100, 0)), (1, vi (nI st)), (2, vi (nI (o_cnt (fun b => chv (mft c) st b no) b))), (3, vi (nI b)), (4, vi (z_b ((chv (mft c) st b 0) = true))), (5, vi (nI 0))] ⟨rfl, rfl, rfl, rfl, z_ret0 (by simp [chv]), rfl, trivial⟩ (loop_18 (no + 1) 0 (by omega) (by omega))
  exact z_loc [(0, vr (100, 0)), (1, vi (nI st)), (2, vi (nI 0)), (3, vi (nI 0))] ⟨rfl, rfl, rfl, rfl, trivial⟩ (loop_4 (na + 1) 0 (by omega) (by omega))
set_option maxHeartbeats 4000000 in
set_option maxRecDepth 100000 in
theorem m_X12_want (G : z_G) {g : Nat} {w0 w : z_w} {c : r_c} {l : r_l} {r : r_r} (hR : r_p dM (TM g) w0 c l r w) (na : Nat) (hc2 : c (100, 0) 2 = nI na) (hna : na ≤ 100) (no : Nat) (hco : c (100, 0) 5 = nI no) (hno : no ≤ 8) : z_M G yX12_want cX12_want 2 (some .int) 105 (0) (0) [vr (100, 0)] w (fun q w1 => ∃ k, k ≤ no ∧ isnu (fR (mft c) no na) (xR no na (c (166, 0))) 0 no k ∧ q = some (vi (if k = no then 0 else nI (o_fs (fun st => decide ((o_cnt (fun b => chv (mft c) st b no) na) < o_pc st)) (2 ^ no)))) ∧ ∃ B1 A1, r_p dM (TM g) w0 (MC c (c (166, 0)) B1 A1) l r w1) := by
  refine z_met ym_X12_want (by decide) ⟨Nat.le_of_ble_eq_true rfl, Nat.le_of_ble_eq_true rfl⟩ (fun X hG hn hmc hms hin h hr => ?_)
  have he := hr.2.2.2.2.2.1
  refine z_aload_n h dX12_want_0 rfl ?_
  rw [← mc_id (c := c)] at hR
  refine z_iconst (v := 0) h dX12_want_1 (by decide) ?_
  refine z_toe (y := nI 0) rfl ?_
  refine z_callV h dX12_want_2 (fun _ _ q => z_okv_no he q) (fun _ _ _ t q => absurd q (he t)) (m_most2 _ hR na hc2 hna no hco hno 0 (Nat.zero_le _) gOK_0 pre_0) ym_X12_most mlX12_310 im_X12_most (ci := 12) rfl se_X12_most icX12 rfl (r_p.ob hR (by first | assumption | exact Nat.le_of_ble_eq_true rfl) (by first | rfl | assumption | exact tx_2 (by first | assumption | omega) | exact tx_18 (by first | assumption | omega) | exact tx_19 (by first | assumption | omega) | exact tx_20 (by first | assumption | omega) | exact tx_27 (by first | assumption | omega) | exact tx_28 (by first | assumption | omega) | exact tx_30 (by first | assumption | omega) | exact tx_31 (by first | assumption | omega) | exact tx_32 (by first | assumption | omega) | exact tx_33 (by first | assumption | omega))) rfl (by decide) (Nat.le_of_ble_eq_true rfl) ?_
  rintro q1 w ⟨k1, hk1, hnu0, rfl, B1, A1, hR⟩
  refine z_aload_n h dX12_want_5 rfl ?_
  refine y_geti h dX12_want_6 hR flX12_300 (by first | assumption | exact Nat.le_of_ble_eq_true rfl) (by first | rfl | assumption | exact tx_2 (by first | assumption | omega) | exact tx_18 (by first | assumption | omega) | exact tx_19 (by first | assumption | omega) | exact tx_20 (by first | assumption | omega) | exact tx_27 (by first | assumption | omega) | exact tx_28 (by first | assumption | omega) | exact tx_30 (by first | assumption | omega) | exact tx_31 (by first | assumption | omega) | exact tx_32 (by first | assumption | omega) | exact tx_33 (by first | assumption | omega)) (by rfl) ?_
  rw [mc_ob, hco]
  refine z_icmp_ne h dX12_want_9 14 (by decide) (fun c_1 => ?_) (fun c_1 => ?_)
  · skip
    have f1 : k1 ≠ no := fun q => c_1 (by rw [q])
    refine z_iconst (v := 1) h dX12_want_14 (by decide) ?_
    refine z_istore_n h dX12_want_15 (by rw [hn]; decide) ?_
    have loop_16 : ∀ (n_ : Nat) (i : Nat), i ≤ 2 ^ no → i ≠ 0 → o_fs (fun st => decide ((o_cnt (fun b => chv (mft c) st b no) na) < o_pc st)) i = 0 → 2 ^ no + 1 ≤ i + n_ → z_V X 0 0 w 16 [(0, vr (100, 0)), (1, vi (nI i))] [] := by
      intro n_
      induction n_ with
      | zero => intros; omega
      | succ n_ ih_16 =>
        intro i hi h0 hf hN
        refine z_iload_n h dX12_want_16 rfl ?_
        refine z_iconst (v := 1) h dX12_want_17 (by decide) ?_
        refine z_aload_n h dX12_want_18 rfl ?_
        refine y_geti h dX12_want_19 hR flX12_300 (by first | assumption | exact Nat.le_of_ble_eq_true rfl) (by first | rfl | assumption | exact tx_2 (by first | assumption | omega) | exact tx_18 (by first | assumption | omega) | exact tx_19 (by first | assumption | omega) | exact tx_20 (by first | assumption | omega) | exact tx_27 (by first | assumption | omega) | exact tx_28 (by first | assumption | omega) | exact tx_30 (by first | assumption | omega) | exact tx_31 (by first | assumption | omega) | exact tx_32 (by first | assumption | omega) | exact tx_33 (by first | assumption | omega)) (by rfl) ?_
        rw [mc_ob, hco]
        refine z_ishl h dX12_want_22 ?_
        refine z_toe (y := nI (2 ^ no)) (o_sh_ no (by omega)) ?_
        have hp2 : 2 ^ no ≤ 256 := show 2 ^ no ≤ 2 ^ 8 from Nat.pow_le_pow_right (by decide) hno
        refine z_icmp_ge h dX12_want_23 46 (by decide) (fun c_2 => ?_) (fun c_2 => ?_)
        · skip
          have e1 : (2 ^ no) ≤ i := (nI_leI (by omega) (by omega)).mp c_2
          refine z_iconst (v := 0) h dX12_want_46 (by decide) ?_
          exact z_iret h dX12_want_47 hr (⟨k1, hk1, hnu0, z_e1 (by rw [if_neg f1, show 2 ^ no = i by omega, hf]; rfl), _, _, hR⟩)
        · skip
          have e1 : ¬ (2 ^ no) ≤ i := fun q => c_2 ((nI_leI (by omega) (by omega)).mpr q)
          refine z_iload_n h dX12_want_26 rfl ?_
          refine z_callS h dX12_want_27 (fun _ _ q => z_okv_no he q) (fun _ _ _ t q => absurd q (he t)) (m_J6_bitCount_0f7a4 _ _ (nI i)) ym_J6_bitCount_0f7a4 mlX12_319 sm_J6_bitCount_0f7a4 rfl (by decide) (Nat.le_of_ble_eq_true rfl) ?_
          rintro q1 w1 ⟨rfl, hw1⟩
          have hw1 := hw1.symm; subst hw1
          rw [o_jb_ i (by omega)]
          have hb1 : o_cnt (fun o => i.testBit o) 8 ≤ 8 := o_cnt_le _ 8
          have hb2 : o_pc i ≤ 8 := hb1
          have hb3 : o_cnt (fun b => chv (mft c) i b no) na ≤ na := o_cnt_le _ na
          refine z_aload_n h dX12_want_30 rfl ?_
          refine z_iload_n h dX12_want_31 rfl ?_
          refine z_callV h dX12_want_32 (fun _ _ q => z_okv_no he q) (fun _ _ _ t q => absurd q (he t)) (m_X12_couldHave _ hR na hc2 hna no hco hno i (by omega)) ym_X12_couldHave mlX12_324 im_X12_couldHave (ci := 12) rfl se_X12_couldHave icX12 rfl (r_p.ob hR (by first | assumption | exact Nat.le_of_ble_eq_true rfl) (by first | rfl | assumption | exact tx_2 (by first | assumption | omega) | exact tx_18 (by first | assumption | omega) | exact tx_19 (by first | assumption | omega) | exact tx_20 (by first | assumption | omega) | exact tx_27 (by first | assumption | omega) | exact tx_28 (by first | assumption | omega) | exact tx_30 (by first | assumption | omega) | exact tx_31 (by first | assumption | omega) | exact tx_32 (by first | assumption | omega) | exact tx_33 (by first | assumption | omega))) rfl (by decide) (Nat.le_of_ble_eq_true rfl) ?_
          rintro q1 w1 ⟨rfl, hw1⟩
          have hw1 := hw1.symm; subst hw1
          refine z_icmp_le h dX12_want_35 40 (by decide) (fun c_3 => ?_) (fun c_3 => ?_)
          · skip
            have e2 : o_pc i ≤ o_cnt (fun b => chv (mft c) i b no) na := (nI_leI (by omega) (by omega)).mp c_3
            refine z_iinc (v := 1) h dX12_want_40 rfl (by decide) (by rw [hn]; decide) ?_
            refine z_goto h dX12_want_43 16 (by decide) ?_
            refine z_loc [(0, vr (100, 0)), (1, vi (nI (i + 1)))] ⟨rfl, congrArg (fun z => some (vi z)) (z_up i), trivial⟩ ?_
            exact ih_16 (i + 1) (by omega) (by omega) (o_fs_nx hf (fun q => by have := of_decide_eq_true q; omega)) (by omega)
          · skip
            have e2 : ¬ o_pc i ≤ o_cnt (fun b => chv (mft c) i b no) na := fun q => c_3 ((nI_leI (by omega) (by omega)).mpr q)
            refine z_iload_n h dX12_want_38 rfl ?_
            exact z_iret h dX12_want_39 hr (⟨k1, hk1, hnu0, z_e1 (by rw [if_neg f1, o_fs_at hf h0 (decide_eq_true (by omega)) (n := 2 ^ no) (by omega)]), _, _, hR⟩)
    exact z_loc [(0, vr (100, 0)), (1, vi (nI 1))] ⟨rfl, rfl, trivial⟩ (loop_16 (2 ^ no + 1) 1 (Nat.one_le_two_pow) (by omega) rfl (by omega))
  · skip
    have e1 : k1 = no := (nI_eq (by omega) (by omega)).mp c_1
    refine z_iconst (v := 0) h dX12_want_12 (by decide) ?_
    exact z_iret h dX12_want_13 hr (⟨k1, hk1, hnu0, z_e1 (by rw [if_pos e1]), _, _, hR⟩)
set_option maxHeartbeats 4000000 in
set_option maxRecDepth 100000 in
theorem m_X12_count (G : z_G) {g : Nat} {w0 w : z_w} {c : r_c} {l : r_l} {r : r_r} (hR : r_p dM (TM g) w0 c l r w) (na : Nat) (hc2 : c (100, 0) 2 = nI na) (hna : na ≤ 100) (no : Nat) (hco : c (100, 0) 5 = nI no) (hno : no ≤ 8) (x : Int32) : z_M G yX12_count cX12_count 2 (some .int) 105 (0) (0) [vr (100, 0), vi x] w (fun q w1 => ∃ k, k ≤ no ∧ isnu (fR (mft c) no na) (xR no na (c (166, 0))) 0 no k ∧ q = some (vi (n_sel x [(0, c (100, 0) 0), (1, c (100, 0) 1), (2, c (100, 0) 2), (3, c (100, 0) 3), (4, c (100, 0) 4), (5, c (100, 0) 5), (6, nI k), (7, c (100, 0) 32), (8, z_sum (c (115, 0)) 8), (9, c (100, 0) 7)] (-1))) ∧ ∃ B1 A1, r_p dM (TM g) w0 (MC c (c (166, 0)) B1 A1) l r w1) := by
  refine z_met ym_X12_count (by decide) ⟨Nat.le_of_ble_eq_true rfl, Nat.le_of_ble_eq_true rfl⟩ (fun X hG hn hmc hms hin h hr => ?_)
  have he := hr.2.2.2.2.2.1
  obtain ⟨k0, hk0, hn0⟩ := ex_nu (ft := mft c) hno hna (c (166, 0))
  refine z_iload_n h dX12_count_0 rfl ?_
  by_cases s_1_0 : x = 0
  · skip
    refine z_tblIn h dX12_count_1 56 (off := 55) (by rw [s_1_0]; decide) (by rw [s_1_0]; decide) (by rw [s_1_0]; rfl) (by decide) ?_
    refine z_aload_n h dX12_count_56 rfl ?_
    refine y_geti h dX12_count_57 hR flX12_191 (by first | assumption | exact Nat.le_of_ble_eq_true rfl) (by first | rfl | assumption | exact tx_2 (by first | assumption | omega) | exact tx_18 (by first | assumption | omega) | exact tx_19 (by first | assumption | omega) | exact tx_20 (by first | assumption | omega) | exact tx_27 (by first | assumption | omega) | exact tx_28 (by first | assumption | omega) | exact tx_30 (by first | assumption | omega) | exact tx_31 (by first | assumption | omega) | exact tx_32 (by first | assumption | omega) | exact tx_33 (by first | assumption | omega)) (by rfl) ?_
    exact z_iret h dX12_count_60 hr (⟨k0, hk0, hn0, z_e1 (by rw [s_1_0]; rfl), _, _, by rw [mc_id]; exact hR⟩)
  by_cases s_1_1 : x = 1
  · skip
    refine z_tblIn h dX12_count_1 61 (off := 60) (by rw [s_1_1]; decide) (by rw [s_1_1]; decide) (by rw [s_1_1]; rfl) (by decide) ?_
    refine z_aload_n h dX12_count_61 rfl ?_
    refine y_geti h dX12_count_62 hR flX12_166 (by first | assumption | exact Nat.le_of_ble_eq_true rfl) (by first | rfl | assumption | exact tx_2 (by first | assumption | omega) | exact tx_18 (by first | assumption | omega) | exact tx_19 (by first | assumption | omega) | exact tx_20 (by first | assumption | omega) | exact tx_27 (by first | assumption | omega) | exact tx_28 (by first | assumption | omega) | exact tx_30 (by first | assumption | omega) | exact tx_31 (by first | assumption | omega) | exact tx_32 (by first | assumption | omega) | exact tx_33 (by first | assumption | omega)) (by rfl) ?_
    exact z_iret h dX12_count_65 hr (⟨k0, hk0, hn0, z_e1 (by rw [s_1_1]; rfl), _, _, by rw [mc_id]; exact hR⟩)
  by_cases s_1_2 : x = 2
  · skip
    refine z_tblIn h dX12_count_1 66 (off := 65) (by rw [s_1_2]; decide) (by rw [s_1_2]; decide) (by rw [s_1_2]; rfl) (by decide) ?_
    refine z_aload_n h dX12_count_66 rfl ?_
    refine y_geti h dX12_count_67 hR flX12_257 (by first | assumption | exact Nat.le_of_ble_eq_true rfl) (by first | rfl | assumption | exact tx_2 (by first | assumption | omega) | exact tx_18 (by first | assumption | omega) | exact tx_19 (by first | assumption | omega) | exact tx_20 (by first | assumption | omega) | exact tx_27 (by first | assumption | omega) | exact tx_28 (by first | assumption | omega) | exact tx_30 (by first | assumption | omega) | exact tx_31 (by first | assumption | omega) | exact tx_32 (by first | assumption | omega) | exact tx_33 (by first | assumption | omega)) (by rfl) ?_
    exact z_iret h dX12_count_70 hr (⟨k0, hk0, hn0, z_e1 (by rw [s_1_2]; rfl), _, _, by rw [mc_id]; exact hR⟩)
  by_cases s_1_3 : x = 3
  · skip
    refine z_tblIn h dX12_count_1 71 (off := 70) (by rw [s_1_3]; decide) (by rw [s_1_3]; decide) (by rw [s_1_3]; rfl) (by decide) ?_
    refine z_aload_n h dX12_count_71 rfl ?_
    refine y_geti h dX12_count_72 hR flX12_294 (by first | assumption | exact Nat.le_of_ble_eq_true rfl) (by first | rfl | assumption | exact tx_2 (by first | assumption | omega) | exact tx_18 (by first | assumption | omega) | exact tx_19 (by first | assumption | omega) | exact tx_20 (by first | assumption | omega) | exact tx_27 (by first | assumption | omega) | exact tx_28 (by first | assumption | omega) | exact tx_30 (by first | assumption | omega) | exact tx_31 (by first | assumption | omega) | exact tx_32 (by first | assumption | omega) | exact tx_33 (by first | assumption | omega)) (by rfl) ?_
    exact z_iret h dX12_count_75 hr (⟨k0, hk0, hn0, z_e1 (by rw [s_1_3]; rfl), _, _, by rw [mc_id]; exact hR⟩)
  by_cases s_1_4 : x = 4
  · skip
    refine z_tblIn h dX12_count_1 76 (off := 75) (by rw [s_1_4]; decide) (by rw [s_1_4]; decide) (by rw [s_1_4]; rfl) (by decide) ?_
    refine z_aload_n h dX12_count_76 rfl ?_
    refine y_geti h dX12_count_77 hR flX12_287 (by first | assumption | exact Nat.le_of_ble_eq_true rfl) (by first | rfl | assumption | exact tx_2 (by first | assumption | omega) | exact tx_18 (by first | assumption | omega) | exact tx_19 (by first | assumption | omega) | exact tx_20 (by first | assumption | omega) | exact tx_27 (by first | assumption | omega) | exact tx_28 (by first | assumption | omega) | exact tx_30 (by first | assumption | omega) | exact tx_31 (by first | assumption | omega) | exact tx_32 (by first | assumption | omega) | exact tx_33 (by first | assumption | omega)) (by rfl) ?_
    exact z_iret h dX12_count_80 hr (⟨k0, hk0, hn0, z_e1 (by rw [s_1_4]; rfl), _, _, by rw [mc_id]; exact hR⟩)
  by_cases s_1_5 : x = 5
  · skip
    refine z_tblIn h dX12_count_1 81 (off := 80) (by rw [s_1_5]; decide) (by rw [s_1_5]; decide) (by rw [s_1_5]; rfl) (by decide) ?_
    refine z_aload_n h dX12_count_81 rfl ?_
    refine y_geti h dX12_count_82 hR flX12_300 (by first | assumption | exact Nat.le_of_ble_eq_true rfl) (by first | rfl | assumption | exact tx_2 (by first | assumption | omega) | exact tx_18 (by first | assumption | omega) | exact tx_19 (by first | assumption | omega) | exact tx_20 (by first | assumption | omega) | exact tx_27 (by first | assumption | omega) | exact tx_28 (by first | assumption | omega) | exact tx_30 (by first | assumption | omega) | exact tx_31 (by first | assumption | omega) | exact tx_32 (by first | assumption | omega) | exact tx_33 (by first | assumption | omega)) (by rfl) ?_
    exact z_iret h dX12_count_85 hr (⟨k0, hk0, hn0, z_e1 (by rw [s_1_5]; rfl), _, _, by rw [mc_id]; exact hR⟩)
  by_cases s_1_6 : x = 6
  · skip
    refine z_tblIn h dX12_count_1 86 (off := 85) (by rw [s_1_6]; decide) (by rw [s_1_6]; decide) (by rw [s_1_6]; rfl) (by decide) ?_
    rw [← mc_id (c := c)] at hR
    refine z_aload_n h dX12_count_86 rfl ?_
    refine z_iconst (v := 0) h dX12_count_87 (by decide) ?_
    refine z_toe (y := nI 0) rfl ?_
    refine z_callV h dX12_count_88 (fun _ _ q => z_okv_no he q) (fun _ _ _ t q => absurd q (he t)) (m_most2 _ hR na hc2 hna no hco hno 0 (Nat.zero_le _) gOK_0 pre_0) ym_X12_most mlX12_310 im_X12_most (ci := 12) rfl se_X12_most icX12 rfl (r_p.ob hR (by first | assumption | exact Nat.le_of_ble_eq_true rfl) (by first | rfl | assumption | exact tx_2 (by first | assumption | omega) | exact tx_18 (by first | assumption | omega) | exact tx_19 (by first | assumption | omega) | exact tx_20 (by first | assumption | omega) | exact tx_27 (by first | assumption | omega) | exact tx_28 (by first | assumption | omega) | exact tx_30 (by first | assumption | omega) | exact tx_31 (by first | assumption | omega) | exact tx_32 (by first | assumption | omega) | exact tx_33 (by first | assumption | omega))) rfl (by decide) (Nat.le_of_ble_eq_true rfl) ?_
    rintro q1 w ⟨k1, hk1, hnu0, rfl, B1, A1, hR⟩
    exact z_iret h dX12_count_91 hr (⟨k1, hk1, hnu0, z_e1 (by rw [s_1_6]; rfl), _, _, hR⟩)
  by_cases s_1_7 : x = 7
  · skip
    refine z_tblIn h dX12_count_1 92 (off := 91) (by rw [s_1_7]; decide) (by rw [s_1_7]; decide) (by rw [s_1_7]; rfl) (by decide) ?_
    refine z_aload_n h dX12_count_92 rfl ?_
    refine y_geti h dX12_count_93 hR flX12_234 (by first | assumption | exact Nat.le_of_ble_eq_true rfl) (by first | rfl | assumption | exact tx_2 (by first | assumption | omega) | exact tx_18 (by first | assumption | omega) | exact tx_19 (by first | assumption | omega) | exact tx_20 (by first | assumption | omega) | exact tx_27 (by first | assumption | omega) | exact tx_28 (by first | assumption | omega) | exact tx_30 (by first | assumption | omega) | exact tx_31 (by first | assumption | omega) | exact tx_32 (by first | assumption | omega) | exact tx_33 (by first | assumption | omega)) (by rfl) ?_
    exact z_iret h dX12_count_96 hr (⟨k0, hk0, hn0, z_e1 (by rw [s_1_7]; rfl), _, _, by rw [mc_id]; exact hR⟩)
  by_cases s_1_8 : x = 8
  · skip
    refine z_tblIn h dX12_count_1 97 (off := 96) (by rw [s_1_8]; decide) (by rw [s_1_8]; decide) (by rw [s_1_8]; rfl) (by decide) ?_
    refine z_aload_n h dX12_count_97 rfl ?_
    refine y_getr h dX12_count_98 hR flX12_31 (by first | assumption | exact Nat.le_of_ble_eq_true rfl) (by first | rfl | assumption | exact tx_2 (by first | assumption | omega) | exact tx_18 (by first | assumption | omega) | exact tx_19 (by first | assumption | omega) | exact tx_20 (by first | assumption | omega) | exact tx_27 (by first | assumption | omega) | exact tx_28 (by first | assumption | omega) | exact tx_30 (by first | assumption | omega) | exact tx_31 (by first | assumption | omega) | exact tx_32 (by first | assumption | omega) | exact tx_33 (by first | assumption | omega)) (by rfl) ?_
    refine z_callS h dX12_count_101 (fun _ _ q => z_okv_no he q) (fun _ _ _ t q => absurd q (he t)) (m_X12_sum _ _ (115, 0) 8 (c (115, 0)) (hR.ia (Nat.le_of_ble_eq_true rfl) rfl) (by decide)) ym_X12_sum mlX12_195 sm_X12_sum rfl (by decide) (Nat.le_of_ble_eq_true rfl) ?_
    rintro q1 w1 ⟨rfl, hw1⟩
    have hw1 := hw1.symm; subst hw1
    exact z_iret h dX12_count_104 hr (⟨k0, hk0, hn0, z_e1 (by rw [s_1_8]; rfl), _, _, by rw [mc_id]; exact hR⟩)
  by_cases s_1_9 : x = 9
  · skip
    refine z_tblIn h dX12_count_1 105 (off := 104) (by rw [s_1_9]; decide) (by rw [s_1_9]; decide) (by rw [s_1_9]; rfl) (by decide) ?_
    refine z_aload_n h dX12_count_105 rfl ?_
    refine y_geti h dX12_count_106 hR flX12_264 (by first | assumption | exact Nat.le_of_ble_eq_true rfl) (by first | rfl | assumption | exact tx_2 (by first | assumption | omega) | exact tx_18 (by first | assumption | omega) | exact tx_19 (by first | assumption | omega) | exact tx_20 (by first | assumption | omega) | exact tx_27 (by first | assumption | omega) | exact tx_28 (by first | assumption | omega) | exact tx_30 (by first | assumption | omega) | exact tx_31 (by first | assumption | omega) | exact tx_32 (by first | assumption | omega) | exact tx_33 (by first | assumption | omega)) (by rfl) ?_
    exact z_iret h dX12_count_109 hr (⟨k0, hk0, hn0, z_e1 (by rw [s_1_9]; rfl), _, _, by rw [mc_id]; exact hR⟩)
  refine z_tblOut h dX12_count_1 110 (by have a0 := lv_neT s_1_0 (a := 0) (by decide); have a1 := lv_neT s_1_1 (a := 1) (by decide); have a2 := lv_neT s_1_2 (a := 2) (by decide); have a3 := lv_neT s_1_3 (a := 3) (by decide); have a4 := lv_neT s_1_4 (a := 4) (by decide); have a5 := lv_neT s_1_5 (a := 5) (by decide); have a6 := lv_neT s_1_6 (a := 6) (by decide); have a7 := lv_neT s_1_7 (a := 7) (by decide); have a8 := lv_neT s_1_8 (a := 8) (by decide); have a9 := lv_neT s_1_9 (a := 9) (by decide); omega) (by decide) ?_
  refine z_iconst (v := -1) h dX12_count_110 (by decide) ?_
  exact z_iret h dX12_count_111 hr (⟨k0, hk0, hn0, z_e1 (by simp only [n_sel, s_1_0, s_1_1, s_1_2, s_1_3, s_1_4, s_1_5, s_1_6, s_1_7, s_1_8, s_1_9, if_false]), _, _, by rw [mc_id]; exact hR⟩)
