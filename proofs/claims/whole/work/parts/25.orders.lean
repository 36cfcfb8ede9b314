/-! the class: orders, weighing and wanting -/
def o_bits (P : Nat → Bool) : Nat → Nat
  | 0 => 0
  | n + 1 => o_bits P n + if P n = true then 2 ^ n else 0
theorem o_bits_lt (P : Nat → Bool) : ∀ n, o_bits P n < 2 ^ n
  | 0 => by show 0 < 1; omega
  | n + 1 => by
    have := o_bits_lt P n
    show o_bits P n + (if P n = true then 2 ^ n else 0) < 2 ^ (n + 1)
    rw [Nat.pow_succ]
    split <;> omega
theorem o_bits_test (P : Nat → Bool) {o : Nat} : ∀ {n}, (o_bits P n).testBit o = (decide (o < n) && P o)
  | 0 => by show Nat.testBit 0 o = _; simp
  | n + 1 => by
    have hl := o_bits_lt P n
    have ih := o_bits_test P (o := o) (n := n)
    show (o_bits P n + if P n = true then 2 ^ n else 0).testBit o = _
    by_cases hp : P n = true
    · rw [if_pos hp]
      have := Nat.testBit_two_pow_mul_add 1 hl o
      rw [Nat.mul_one, Nat.add_comm] at this
      rw [this]
      by_cases h : o < n
      · rw [if_pos h, ih]; simp [h, Nat.lt_succ_of_lt h]
      · rw [if_neg h]
        by_cases e : o = n
        · subst e; simp [hp]
        · have : o - n = (o - n - 1) + 1 := by omega
          rw [this]
          simp [Nat.testBit_succ, show ¬ o < n + 1 by omega]
    · rw [if_neg hp, Nat.add_zero, ih]
      by_cases h : o < n
      · simp [h, Nat.lt_succ_of_lt h]
      · by_cases e : o = n
        · subst e; simp [hp]
        · simp [h, show ¬ o < n + 1 by omega]
theorem nI_and (a b : Nat) : nI a &&& nI b = nI (a &&& b) := by
  unfold nI
  apply Int32.toBitVec.inj
  rw [Int32.toBitVec_and, Int32.toBitVec_ofNat', Int32.toBitVec_ofNat', Int32.toBitVec_ofNat', BitVec.ofNat_and]
theorem o_or_ : ∀ o < 8, ∀ b < 2 ^ o, nI b ||| (1 <<< (nI o &&& 31)) = nI (b + 2 ^ o) := by decide +kernel
theorem o_tb_ : ∀ o < 8, ∀ b < 256, (nI b >>> (nI o &&& 31)) &&& 1 = if b.testBit o = true then 1 else 0 := by decide +kernel
theorem o_sh_ : ∀ o < 9, (1 : Int32) <<< (nI o &&& 31) = nI (2 ^ o) := by decide +kernel
def o_cnt (P : Nat → Bool) : Nat → Nat
  | 0 => 0
  | n + 1 => o_cnt P n + if P n = true then 1 else 0
theorem o_cnt_le (P : Nat → Bool) : ∀ n, o_cnt P n ≤ n
  | 0 => Nat.le_refl 0
  | n + 1 => by
    have := o_cnt_le P n
    show o_cnt P n + (if P n = true then 1 else 0) ≤ _
    split <;> omega
theorem o_cnt_mono (P : Nat → Bool) {i : Nat} : ∀ {n}, i ≤ n → o_cnt P i ≤ o_cnt P n
  | 0, h => by obtain rfl : i = 0 := by omega
               exact Nat.le_refl _
  | n + 1, h => by
    by_cases e : i = n + 1
    · subst e; exact Nat.le_refl _
    · have := o_cnt_mono P (i := i) (n := n) (by omega)
      show _ ≤ o_cnt P n + (if P n = true then 1 else 0)
      omega
def o_pc (s : Nat) : Nat := o_cnt (fun o => s.testBit o) 8
/-- the first of 1 .. n - 1 with P, else 0 -/
def o_fs (P : Nat → Bool) : Nat → Nat
  | 0 => 0
  | n + 1 => if o_fs P n ≠ 0 then o_fs P n else if n ≠ 0 ∧ P n = true then n else 0
theorem o_fs_at {P : Nat → Bool} {i : Nat} (h : o_fs P i = 0) (hi : i ≠ 0) (hp : P i = true) : ∀ {n}, i < n → o_fs P n = i
  | n + 1, hn => by
    rw [o_fs]
    by_cases e : i = n
    · subst e; rw [if_neg (by omega), if_pos ⟨hi, hp⟩]
    · rw [o_fs_at h hi hp (n := n) (by omega), if_pos hi]
theorem o_fs_nx {P : Nat → Bool} {i : Nat} (h : o_fs P i = 0) (hp : ¬ P i = true) : o_fs P (i + 1) = 0 := by
  rw [o_fs, if_neg (by omega), if_neg (fun q => hp q.2)]
/-- what fits -/
def o_so (c : r_c) (j : Nat) : Int32 := if 0 < c (18, j) 2 - c (18, j) 6 / 2 then c (18, j) 2 - c (18, j) 6 / 2 else 0
def o_fit (c : r_c) (so le : Int32) (o : Nat) : Bool := decide (so ≤ c (36, 0) o ∧ c (37, 0) o ≤ le)
def o_ad (c : r_c) (j o : Nat) : Bool := o_fit c (o_so c j) (c (18, j) 4) o
def o_cm (c : r_c) (no j : Nat) : Nat := o_bits (o_ad c j) no
def o_w (c : r_c) (no i : Nat) : Nat → Int32 := fun j => if j < i then nI (o_cm c no j) else c (39, 0) j
def o_wc (c : r_c) (no na i : Nat) : r_c := r_cf (r_cs c (35, 0) 9 (nI na)) (39, 0) (o_w c no i)
theorem o_wc_ne {c : r_c} {no na i : Nat} {t : z_T} (h0 : t ≠ (35, 0)) (h1 : t ≠ (39, 0)) : o_wc c no na i t = c t := by
  unfold o_wc; rw [r_cf_ne h1, r_cs, r_cf_ne h0]
theorem o_wc_up {c : r_c} {no na i : Nat} : r_cs (o_wc c no na i) (39, 0) i (nI (o_cm c no i)) = o_wc c no na (i + 1) := by
  unfold o_wc
  rw [r_cs, r_cf_self, r_cf_cf]
  congr 1
  funext j
  simp only [upd, o_w]
  by_cases e : j = i
  · subst e; simp
  · by_cases h : j < i
    · simp [e, h, Nat.lt_succ_of_lt h]
    · simp [e, h, show ¬ j < i + 1 by omega]
theorem o_wc_0 {c : r_c} {no na : Nat} : r_cs c (35, 0) 9 (nI na) = o_wc c no na 0 := by
  unfold o_wc
  have : o_w c no 0 = (r_cs c (35, 0) 9 (nI na)) (39, 0) := by
    funext j; rw [r_cs, r_cf_ne (by simp)]; simp [o_w]
  rw [this, r_cf_same]
set_option maxHeartbeats 4000000 in
set_option maxRecDepth 100000 in
theorem m_X5_ordersThatFit (G : z_G) {nb na np g : Nat} {w0 w : z_w} {c : r_c} {l : r_l} {r : r_r} (hR : r_p dX (TX nb na np g) w0 c l r w) (no : Nat) (hco : c (35, 0) 3 = nI no) (hno : no ≤ 8) (so le : Int32) : z_M G yX5_ordersThatFit cX5_ordersThatFit 5 (some .int) 1 (0) (0) [vr (35, 0), vi so, vi le] w (fun q w1 => q = some (vi (nI (o_bits (o_fit c so le) no))) ∧ w1 = w) := by
  refine z_met ym_X5_ordersThatFit (by decide) ⟨Nat.le_of_ble_eq_true rfl, Nat.le_of_ble_eq_true rfl⟩ (fun X hG hn hmc hms hin h hr => ?_)
  have he := hr.2.2.2.2.2.1
  refine z_iconst (v := 0) h dX5_ordersThatFit_0 (by decide) ?_
  refine z_istore_n h dX5_ordersThatFit_1 (by rw [hn]; decide) ?_
  refine z_iconst (v := 0) h dX5_ordersThatFit_2 (by decide) ?_
  refine z_istore h dX5_ordersThatFit_3 (by rw [hn]; decide) ?_
  have loop_5 : ∀ (n_ : Nat) (i : Nat), i ≤ no → no + 1 ≤ i + n_ → z_V X 0 0 w 5 [(0, vr (35, 0)), (1, vi so), (2, vi le), (3, vi (nI (o_bits (o_fit c so le) i))), (4, vi (nI i))] [] := by
    intro n_
    induction n_ with
    | zero => intros; omega
    | succ n_ ih_5 =>
      intro i hi hN
      refine z_iload h dX5_ordersThatFit_5 rfl ?_
      refine z_aload_n h dX5_ordersThatFit_7 rfl ?_
      refine y_geti h dX5_ordersThatFit_8 hR flX5_37 (by first | assumption | exact Nat.le_of_ble_eq_true rfl) (by first | rfl | assumption | exact tx_2 (by first | assumption | omega) | exact tx_18 (by first | assumption | omega) | exact tx_19 (by first | assumption | omega) | exact tx_20 (by first | assumption | omega) | exact tx_27 (by first | assumption | omega) | exact tx_28 (by first | assumption | omega) | exact tx_30 (by first | assumption | omega) | exact tx_31 (by first | assumption | omega) | exact tx_32 (by first | assumption | omega) | exact tx_33 (by first | assumption | omega)) (by rfl) ?_
      rw [hco]
      refine z_icmp_ge h dX5_ordersThatFit_11 56 (by decide) (fun c_1 => ?_) (fun c_1 => ?_)
      · skip
        have e1 : no ≤ i := (nI_leI (by omega) (by omega)).mp c_1
        have e2 : i = no := by omega
        subst e2
        refine z_iload_n h dX5_ordersThatFit_56 rfl ?_
        exact z_iret h dX5_ordersThatFit_57 hr (⟨rfl, rfl⟩)
      · skip
        have e1 : ¬ no ≤ i := fun q => c_1 ((nI_leI (by omega) (by omega)).mpr q)
        refine z_iload h dX5_ordersThatFit_14 rfl ?_
        refine z_bipush (v := 8) h dX5_ordersThatFit_16 (by decide) ?_
        refine z_icmp_ge h dX5_ordersThatFit_18 56 (by decide) (fun c_2 => ?_) (fun c_2 => ?_)
        · skip
          exact absurd ((nI_leI (a := 8) (by omega) (by omega)).mp c_2) (by omega)
        · skip
          refine z_iload_n h dX5_ordersThatFit_21 rfl ?_
          refine z_aload_n h dX5_ordersThatFit_22 rfl ?_
          refine y_getr h dX5_ordersThatFit_23 hR flX5_9 (by first | assumption | exact Nat.le_of_ble_eq_true rfl) (by first | rfl | assumption | exact tx_2 (by first | assumption | omega) | exact tx_18 (by first | assumption | omega) | exact tx_19 (by first | assumption | omega) | exact tx_20 (by first | assumption | omega) | exact tx_27 (by first | assumption | omega) | exact tx_28 (by first | assumption | omega) | exact tx_30 (by first | assumption | omega) | exact tx_31 (by first | assumption | omega) | exact tx_32 (by first | assumption | omega) | exact tx_33 (by first | assumption | omega)) (by rfl) ?_
          refine z_iload h dX5_ordersThatFit_26 rfl ?_
          refine y_iald h dX5_ordersThatFit_28 hR (by first | assumption | exact Nat.le_of_ble_eq_true rfl) (by first | rfl | assumption | exact tx_2 (by first | assumption | omega) | exact tx_18 (by first | assumption | omega) | exact tx_19 (by first | assumption | omega) | exact tx_20 (by first | assumption | omega) | exact tx_27 (by first | assumption | omega) | exact tx_28 (by first | assumption | omega) | exact tx_30 (by first | assumption | omega) | exact tx_31 (by first | assumption | omega) | exact tx_32 (by first | assumption | omega) | exact tx_33 (by first | assumption | omega)) (by first | assumption | exact z_ixn (by omega) (by omega)) ?_
          refine z_icmp_gt h dX5_ordersThatFit_29 50 (by decide) (fun c_3 => ?_) (fun c_3 => ?_)
          · skip
            refine z_iinc (v := 1) h dX5_ordersThatFit_50 rfl (by decide) (by rw [hn]; decide) ?_
            refine z_goto h dX5_ordersThatFit_53 5 (by decide) ?_
            refine z_loc [(0, vr (35, 0)), (1, vi so), (2, vi le), (3, vi (nI (o_bits (o_fit c so le) (i + 1)))), (4, vi (nI (i + 1)))] ⟨rfl, rfl, rfl, by rw [o_bits, if_neg (by simp only [o_fit]; intro q; have q2 := of_decide_eq_true q; exact absurd q2.1 (by simp only [z_lt, z_le, z_ie] at *; omega)), Nat.add_zero]; rfl, congrArg (fun z => some (vi z)) (z_up i), trivial⟩ ?_
            exact ih_5 (i + 1) (by omega) (by omega)
          · skip
            refine z_iload_n h dX5_ordersThatFit_32 rfl ?_
            refine z_aload_n h dX5_ordersThatFit_33 rfl ?_
            refine y_getr h dX5_ordersThatFit_34 hR flX5_15 (by first | assumption | exact Nat.le_of_ble_eq_true rfl) (by first | rfl | assumption | exact tx_2 (by first | assumption | omega) | exact tx_18 (by first | assumption | omega) | exact tx_19 (by first | assumption | omega) | exact tx_20 (by first | assumption | omega) | exact tx_27 (by first | assumption | omega) | exact tx_28 (by first | assumption | omega) | exact tx_30 (by first | assumption | omega) | exact tx_31 (by first | assumption | omega) | exact tx_32 (by first | assumption | omega) | exact tx_33 (by first | assumption | omega)) (by rfl) ?_
            refine z_iload h dX5_ordersThatFit_37 rfl ?_
            refine y_iald h dX5_ordersThatFit_39 hR (by first | assumption | exact Nat.le_of_ble_eq_true rfl) (by first | rfl | assumption | exact tx_2 (by first | assumption | omega) | exact tx_18 (by first | assumption | omega) | exact tx_19 (by first | assumption | omega) | exact tx_20 (by first | assumption | omega) | exact tx_27 (by first | assumption | omega) | exact tx_28 (by first | assumption | omega) | exact tx_30 (by first | assumption | omega) | exact tx_31 (by first | assumption | omega) | exact tx_32 (by first | assumption | omega) | exact tx_33 (by first | assumption | omega)) (by first | assumption | exact z_ixn (by omega) (by omega)) ?_
            refine z_icmp_lt h dX5_ordersThatFit_40 50 (by decide) (fun c_4 => ?_) (fun c_4 => ?_)
            · skip
              refine z_iinc (v := 1) h dX5_ordersThatFit_50 rfl (by decide) (by rw [hn]; decide) ?_
              refine z_goto h dX5_ordersThatFit_53 5 (by decide) ?_
              refine z_loc [(0, vr (35, 0)), (1, vi so), (2, vi le), (3, vi (nI (o_bits (o_fit c so le) (i + 1)))), (4, vi (nI (i + 1)))] ⟨rfl, rfl, rfl, by rw [o_bits, if_neg (by simp only [o_fit]; intro q; have q2 := of_decide_eq_true q; exact absurd q2.2 (by simp only [z_lt, z_le, z_ie] at *; omega)), Nat.add_zero]; rfl, congrArg (fun z => some (vi z)) (z_up i), trivial⟩ ?_
              exact ih_5 (i + 1) (by omega) (by omega)
            · skip
              refine z_iload_n h dX5_ordersThatFit_43 rfl ?_
              refine z_iconst (v := 1) h dX5_ordersThatFit_44 (by decide) ?_
              refine z_iload h dX5_ordersThatFit_45 rfl ?_
              refine z_ishl h dX5_ordersThatFit_47 ?_
              refine z_ior h dX5_ordersThatFit_48 ?_
              refine z_istore_n h dX5_ordersThatFit_49 (by rw [hn]; decide) ?_
              refine z_iinc (v := 1) h dX5_ordersThatFit_50 rfl (by decide) (by rw [hn]; decide) ?_
              refine z_goto h dX5_ordersThatFit_53 5 (by decide) ?_
              refine z_loc [(0, vr (35, 0)), (1, vi so), (2, vi le), (3, vi (nI (o_bits (o_fit c so le) (i + 1)))), (4, vi (nI (i + 1)))] ⟨rfl, rfl, rfl, by show some (vi (nI (o_bits _ i) ||| _)) = _; rw [o_or_ i (by omega) _ (o_bits_lt _ _)]; rw [o_bits, if_pos (by simp only [o_fit]; exact decide_eq_true ⟨by simp only [z_lt, z_le, z_ie] at *; omega, by simp only [z_lt, z_le, z_ie] at *; omega⟩)], congrArg (fun z => some (vi z)) (z_up i), trivial⟩ ?_
              exact ih_5 (i + 1) (by omega) (by omega)
  exact z_loc [(0, vr (35, 0)), (1, vi so), (2, vi le), (3, vi (nI (o_bits (o_fit c so le) 0))), (4, vi (nI 0))] ⟨rfl, rfl, rfl, rfl, rfl, trivial⟩ (loop_5 (no + 1) 0 (by omega) (by omega))
set_option maxHeartbeats 4000000 in
set_option maxRecDepth 100000 in
theorem m_X5_weigh (G : z_G) {nb na np g : Nat} {w0 w : z_w} {c : r_c} {l : r_l} {r : r_r} (hR : r_p dX (TX nb na np g) w0 c l r w) (no : Nat) (hco : c (35, 0) 3 = nI no) (hno : no ≤ 8) (hna : na ≤ 100) (hr17 : ∀ i, i < na → r (17, 0) i = some (18, i)) : z_M G yX5_weigh cX5_weigh 5 none 3 (0) (0) [vr (35, 0), vr (17, 0), vi (nI na)] w (fun q w1 => q = none ∧ r_p dX (TX nb na np g) w0 (o_wc c no na na) (l) (r) w1) := by
  refine z_met ym_X5_weigh (by decide) ⟨Nat.le_of_ble_eq_true rfl, Nat.le_of_ble_eq_true rfl⟩ (fun X hG hn hmc hms hin h hr => ?_)
  have he := hr.2.2.2.2.2.1
  refine z_aload_n h dX5_weigh_0 rfl ?_
  refine z_iload_n h dX5_weigh_1 rfl ?_
  refine z_aload_n h dX5_weigh_2 rfl ?_
  refine y_len h dX5_weigh_3 hR (by first | assumption | exact Nat.le_of_ble_eq_true rfl) (by first | rfl | assumption | exact tx_2 (by first | assumption | omega) | exact tx_18 (by first | assumption | omega) | exact tx_19 (by first | assumption | omega) | exact tx_20 (by first | assumption | omega) | exact tx_27 (by first | assumption | omega) | exact tx_28 (by first | assumption | omega) | exact tx_30 (by first | assumption | omega) | exact tx_31 (by first | assumption | omega) | exact tx_32 (by first | assumption | omega) | exact tx_33 (by first | assumption | omega)) (by rfl) ?_
  refine z_min h dX5_weigh_4 mlX5_41 sm_Mmin ic_Math co_Mmin (Nat.le_of_ble_eq_true rfl) ?_
  refine z_bipush (v := 100) h dX5_weigh_7 (by decide) ?_
  refine z_min h dX5_weigh_9 mlX5_41 sm_Mmin ic_Math co_Mmin (Nat.le_of_ble_eq_true rfl) ?_
  have e1 : ¬ nI 100 < nI na := fun q => by have := (nI_ltI (by omega) (by omega)).mp q; omega
  refine z_toe (y := nI na) (by show (if nI 100 < (if nI 100 < nI na then nI 100 else nI na) then nI 100 else (if nI 100 < nI na then nI 100 else nI na)) = nI na; rw [if_neg e1, if_neg e1]) ?_
  refine y_put h dX5_weigh_12 he hR flX5_47 rfl (by first | assumption | exact Nat.le_of_ble_eq_true rfl) (by first | rfl | assumption | exact tx_2 (by first | assumption | omega) | exact tx_18 (by first | assumption | omega) | exact tx_19 (by first | assumption | omega) | exact tx_20 (by first | assumption | omega) | exact tx_27 (by first | assumption | omega) | exact tx_28 (by first | assumption | omega) | exact tx_30 (by first | assumption | omega) | exact tx_31 (by first | assumption | omega) | exact tx_32 (by first | assumption | omega) | exact tx_33 (by first | assumption | omega)) (by rfl) (fun w hR => ?_)
  refine z_iconst (v := 0) h dX5_weigh_15 (by decide) ?_
  refine z_istore_n h dX5_weigh_16 (by rw [hn]; decide) ?_
  have loop_17 : ∀ (n_ : Nat) (i : Nat) (w : z_w), r_p dX (TX nb na np g) w0 (o_wc c no na i) l r w → i ≤ na → na + 1 ≤ i + n_ → z_V X 0 0 w 17 [(0, vr (35, 0)), (1, vr (17, 0)), (2, vi (nI na)), (3, vi (nI i))] [] := by
    intro n_
    induction n_ with
    | zero => intros; omega
    | succ n_ ih_17 =>
      intro i w hR hi hN
      refine z_iload_n h dX5_weigh_17 rfl ?_
      refine z_aload_n h dX5_weigh_18 rfl ?_
      refine y_geti h dX5_weigh_19 hR flX5_47 (by first | assumption | exact Nat.le_of_ble_eq_true rfl) (by first | rfl | assumption | exact tx_2 (by first | assumption | omega) | exact tx_18 (by first | assumption | omega) | exact tx_19 (by first | assumption | omega) | exact tx_20 (by first | assumption | omega) | exact tx_27 (by first | assumption | omega) | exact tx_28 (by first | assumption | omega) | exact tx_30 (by first | assumption | omega) | exact tx_31 (by first | assumption | omega) | exact tx_32 (by first | assumption | omega) | exact tx_33 (by first | assumption | omega)) (by rfl) ?_
      refine z_toe (y := nI na) (by show o_wc c no na i (35, 0) 9 = _; unfold o_wc; rw [r_cf_ne (by simp), r_cs, r_cf_self]; rfl) ?_
      refine z_icmp_ge h dX5_weigh_22 65 (by decide) (fun c_1 => ?_) (fun c_1 => ?_)
      · skip
        have e1 : na ≤ i := (nI_leI (by omega) (by omega)).mp c_1
        have e2 : i = na := by omega
        subst e2
        exact z_vret h dX5_weigh_65 hr (⟨rfl, hR⟩)
      · skip
        have e1 : ¬ na ≤ i := fun q => c_1 ((nI_leI (by omega) (by omega)).mpr q)
        refine z_aload_n h dX5_weigh_25 rfl ?_
        refine z_iload_n h dX5_weigh_26 rfl ?_
        refine y_aald h dX5_weigh_27 hR (by first | assumption | exact Nat.le_of_ble_eq_true rfl) (by first | rfl | assumption | exact tx_2 (by first | assumption | omega) | exact tx_18 (by first | assumption | omega) | exact tx_19 (by first | assumption | omega) | exact tx_20 (by first | assumption | omega) | exact tx_27 (by first | assumption | omega) | exact tx_28 (by first | assumption | omega) | exact tx_30 (by first | assumption | omega) | exact tx_31 (by first | assumption | omega) | exact tx_32 (by first | assumption | omega) | exact tx_33 (by first | assumption | omega)) rfl (z_ixn (show i < 100 by omega) (by decide)) (hr17 i (by omega)) ?_
        refine z_astore h dX5_weigh_28 (by rw [hn]; decide) ?_
        refine z_aload_n h dX5_weigh_30 rfl ?_
        refine y_getr h dX5_weigh_31 hR flX5_21 (by first | assumption | exact Nat.le_of_ble_eq_true rfl) (by first | rfl | assumption | exact tx_2 (by first | assumption | omega) | exact tx_18 (by first | assumption | omega) | exact tx_19 (by first | assumption | omega) | exact tx_20 (by first | assumption | omega) | exact tx_27 (by first | assumption | omega) | exact tx_28 (by first | assumption | omega) | exact tx_30 (by first | assumption | omega) | exact tx_31 (by first | assumption | omega) | exact tx_32 (by first | assumption | omega) | exact tx_33 (by first | assumption | omega)) (by rfl) ?_
        refine z_iload_n h dX5_weigh_34 rfl ?_
        refine z_aload h dX5_weigh_35 rfl ?_
        refine z_ifnonnull h dX5_weigh_37 44 (by decide) ?_
        refine z_aload_n h dX5_weigh_44 rfl ?_
        refine z_aload h dX5_weigh_45 rfl ?_
        refine z_callV h dX5_weigh_47 (fun _ _ q => z_okv_no he q) (fun _ _ _ t q => absurd q (he t)) (y_X0_sortNow _ hR i (by omega)) ym_X0_sortNow mlX5_50 im_X0_sortNow (ci := 0) rfl se_X0_sortNow icX0 rfl (r_p.ob hR (Nat.le_of_ble_eq_true rfl) (tx_18 (by omega))) rfl (by decide) (Nat.le_of_ble_eq_true rfl) ?_
        rintro q1 w1 ⟨rfl, hw1⟩
        have hw1 := hw1.symm; subst hw1
        refine z_toe (y := o_so c i) (by rw [o_wc_ne (by simp) (by simp)]; rfl) ?_
        refine z_aload h dX5_weigh_50 rfl ?_
        refine y_geti h dX5_weigh_52 hR flX5_56 (by first | assumption | exact Nat.le_of_ble_eq_true rfl) (tx_18 (by omega)) (by rfl) ?_
        refine z_toe (y := c (18, i) 4) (by rw [o_wc_ne (by simp) (by simp)]) ?_
        refine z_callV h dX5_weigh_55 (fun _ _ q => z_okv_no he q) (fun _ _ _ t q => absurd q (he t)) (m_X5_ordersThatFit _ hR no (by unfold o_wc; rw [r_cf_ne (by simp), r_cs, r_cf_self]; exact hco) hno (o_so c i) (c (18, i) 4)) ym_X5_ordersThatFit mlX5_59 im_X5_ordersThatFit (ci := 5) rfl se_X5_ordersThatFit icX5 rfl (r_p.ob hR (by first | assumption | exact Nat.le_of_ble_eq_true rfl) (by first | rfl | assumption | exact tx_2 (by first | assumption | omega) | exact tx_18 (by first | assumption | omega) | exact tx_19 (by first | assumption | omega) | exact tx_20 (by first | assumption | omega) | exact tx_27 (by first | assumption | omega) | exact tx_28 (by first | assumption | omega) | exact tx_30 (by first | assumption | omega) | exact tx_31 (by first | assumption | omega) | exact tx_32 (by first | assumption | omega) | exact tx_33 (by first | assumption | omega))) rfl (by decide) (Nat.le_of_ble_eq_true rfl) ?_
        rintro q1 w1 ⟨rfl, hw1⟩
        have hw1 := hw1.symm; subst hw1
        have e : o_fit (o_wc c no na i) (o_so c i) (c (18, i) 4) = o_ad c i := by unfold o_fit o_ad; funext o; rw [o_wc_ne (by simp) (by simp), o_wc_ne (by simp) (by simp)]; rfl
        rw [e]
        refine z_toe (y := nI (o_cm c no i)) rfl ?_
        refine y_iast h dX5_weigh_58 hR (by first | assumption | exact Nat.le_of_ble_eq_true rfl) (by first | rfl | assumption | exact tx_2 (by first | assumption | omega) | exact tx_18 (by first | assumption | omega) | exact tx_19 (by first | assumption | omega) | exact tx_20 (by first | assumption | omega) | exact tx_27 (by first | assumption | omega) | exact tx_28 (by first | assumption | omega) | exact tx_30 (by first | assumption | omega) | exact tx_31 (by first | assumption | omega) | exact tx_32 (by first | assumption | omega) | exact tx_33 (by first | assumption | omega)) (z_ixn (show i < 100 by omega) (by decide)) (fun w hR => ?_)
        refine z_iinc (v := 1) h dX5_weigh_59 rfl (by decide) (by rw [hn]; decide) ?_
        refine z_goto h dX5_weigh_62 17 (by decide) ?_
        refine z_loc [(0, vr (35, 0)), (1, vr (17, 0)), (2, vi (nI na)), (3, vi (nI (i + 1)))] ⟨rfl, rfl, rfl, congrArg (fun z => some (vi z)) (z_up i), trivial⟩ ?_
        exact ih_17 (i + 1) w (by rw [← o_wc_up]; exact hR) (by omega) (by omega)
  rw [o_wc_0 (no := no)] at hR
  exact z_loc [(0, vr (35, 0)), (1, vr (17, 0)), (2, vi (nI na)), (3, vi (nI 0))] ⟨rfl, rfl, rfl, rfl, trivial⟩ (loop_17 (na + 1) 0 w hR (by omega) (by omega))
set_option maxHeartbeats 4000000 in
set_option maxRecDepth 100000 in
theorem m_X5_metCount (G : z_G) {nb na np g : Nat} {w0 w : z_w} {c : r_c} {l : r_l} {r : r_r} (hR : r_p dX (TX nb na np g) w0 c l r w) (no : Nat) (hco : c (35, 0) 3 = nI no) (hno : no ≤ 8) : z_M G yX5_metCount cX5_metCount 3 (some .int) 1 (0) (0) [vr (35, 0)] w (fun q w1 => q = some (vi (nI (o_cnt (fun o => decide (¬ c (38, 0) o = -1)) no))) ∧ w1 = w) := by
  refine z_met ym_X5_metCount (by decide) ⟨Nat.le_of_ble_eq_true rfl, Nat.le_of_ble_eq_true rfl⟩ (fun X hG hn hmc hms hin h hr => ?_)
  have he := hr.2.2.2.2.2.1
  refine z_iconst (v := 0) h dX5_metCount_0 (by decide) ?_
  refine z_istore_n h dX5_metCount_1 (by rw [hn]; decide) ?_
  refine z_iconst (v := 0) h dX5_metCount_2 (by decide) ?_
  refine z_istore_n h dX5_metCount_3 (by rw [hn]; decide) ?_
  have loop_4 : ∀ (n_ : Nat) (i : Nat), i ≤ no → no + 1 ≤ i + n_ → z_V X 0 0 w 4 [(0, vr (35, 0)), (1, vi (nI (o_cnt (fun o => decide (¬ c (38, 0) o = -1)) i))), (2, vi (nI i))] [] := by
    intro n_
    induction n_ with
    | zero => intros; omega
    | succ n_ ih_4 =>
      intro i hi hN
      refine z_iload_n h dX5_metCount_4 rfl ?_
      refine z_aload_n h dX5_metCount_5 rfl ?_
      refine y_geti h dX5_metCount_6 hR flX5_37 (by first | assumption | exact Nat.le_of_ble_eq_true rfl) (by first | rfl | assumption | exact tx_2 (by first | assumption | omega) | exact tx_18 (by first | assumption | omega) | exact tx_19 (by first | assumption | omega) | exact tx_20 (by first | assumption | omega) | exact tx_27 (by first | assumption | omega) | exact tx_28 (by first | assumption | omega) | exact tx_30 (by first | assumption | omega) | exact tx_31 (by first | assumption | omega) | exact tx_32 (by first | assumption | omega) | exact tx_33 (by first | assumption | omega)) (by rfl) ?_
      rw [hco]
      refine z_icmp_ge h dX5_metCount_9 37 (by decide) (fun c_1 => ?_) (fun c_1 => ?_)
      · skip
        have e1 : no ≤ i := (nI_leI (by omega) (by omega)).mp c_1
        have e2 : i = no := by omega
        subst e2
        refine z_iload_n h dX5_metCount_37 rfl ?_
        exact z_iret h dX5_metCount_38 hr (⟨rfl, rfl⟩)
      · skip
        have e1 : ¬ no ≤ i := fun q => c_1 ((nI_leI (by omega) (by omega)).mpr q)
        refine z_iload_n h dX5_metCount_12 rfl ?_
        refine z_bipush (v := 8) h dX5_metCount_13 (by decide) ?_
        refine z_icmp_ge h dX5_metCount_15 37 (by decide) (fun c_2 => ?_) (fun c_2 => ?_)
        · skip
          exact absurd ((nI_leI (a := 8) (by omega) (by omega)).mp c_2) (by omega)
        · skip
          refine z_aload_n h dX5_metCount_18 rfl ?_
          refine y_getr h dX5_metCount_19 hR flX5_18 (by first | assumption | exact Nat.le_of_ble_eq_true rfl) (by first | rfl | assumption | exact tx_2 (by first | assumption | omega) | exact tx_18 (by first | assumption | omega) | exact tx_19 (by first | assumption | omega) | exact tx_20 (by first | assumption | omega) | exact tx_27 (by first | assumption | omega) | exact tx_28 (by first | assumption | omega) | exact tx_30 (by first | assumption | omega) | exact tx_31 (by first | assumption | omega) | exact tx_32 (by first | assumption | omega) | exact tx_33 (by first | assumption | omega)) (by rfl) ?_
          refine z_iload_n h dX5_metCount_22 rfl ?_
          refine y_iald h dX5_metCount_23 hR (by first | assumption | exact Nat.le_of_ble_eq_true rfl) (by first | rfl | assumption | exact tx_2 (by first | assumption | omega) | exact tx_18 (by first | assumption | omega) | exact tx_19 (by first | assumption | omega) | exact tx_20 (by first | assumption | omega) | exact tx_27 (by first | assumption | omega) | exact tx_28 (by first | assumption | omega) | exact tx_30 (by first | assumption | omega) | exact tx_31 (by first | assumption | omega) | exact tx_32 (by first | assumption | omega) | exact tx_33 (by first | assumption | omega)) (by first | assumption | exact z_ixn (by omega) (by omega)) ?_
          refine z_iconst (v := -1) h dX5_metCount_24 (by decide) ?_
          refine z_icmp_eq h dX5_metCount_25 31 (by decide) (fun c_3 => ?_) (fun c_3 => ?_)
          · skip
            refine z_iinc (v := 1) h dX5_metCount_31 rfl (by decide) (by rw [hn]; decide) ?_
            refine z_goto h dX5_metCount_34 4 (by decide) ?_
            refine z_loc [(0, vr (35, 0)), (1, vi (nI (o_cnt (fun o => decide (¬ c (38, 0) o = -1)) (i + 1)))), (2, vi (nI (i + 1)))] ⟨rfl, by rw [show o_cnt (fun o => decide (¬ c (38, 0) o = -1)) (i + 1) = o_cnt (fun o => decide (¬ c (38, 0) o = -1)) i from by rw [o_cnt, if_neg (fun q => absurd c_3 (of_decide_eq_true q))]; rfl]; rfl, congrArg (fun z => some (vi z)) (z_up i), trivial⟩ ?_
            exact ih_4 (i + 1) (by omega) (by omega)
          · skip
            refine z_iinc (v := 1) h dX5_metCount_28 rfl (by decide) (by rw [hn]; decide) ?_
            refine z_iinc (v := 1) h dX5_metCount_31 rfl (by decide) (by rw [hn]; decide) ?_
            refine z_goto h dX5_metCount_34 4 (by decide) ?_
            refine z_loc [(0, vr (35, 0)), (1, vi (nI (o_cnt (fun o => decide (¬ c (38, 0) o = -1)) (i + 1)))), (2, vi (nI (i + 1)))] ⟨rfl, by rw [show o_cnt (fun o => decide (¬ c (38, 0) o = -1)) (i + 1) = o_cnt (fun o => decide (¬ c (38, 0) o = -1)) i + 1 from by rw [o_cnt, if_pos (decide_eq_true c_3)]]; exact congrArg (fun z => some (vi z)) (z_up _), congrArg (fun z => some (vi z)) (z_up i), trivial⟩ ?_
            exact ih_4 (i + 1) (by omega) (by omega)
  exact z_loc [(0, vr (35, 0)), (1, vi (nI (o_cnt (fun o => decide (¬ c (38, 0) o = -1)) 0))), (2, vi (nI 0))] ⟨rfl, rfl, rfl, trivial⟩ (loop_4 (no + 1) 0 (by omega) (by omega))
theorem nI_eq0 {a : Nat} (h : a < 2 ^ 31) : nI a = 0 ↔ a = 0 := nI_eq (b := 0) (by omega) (by omega)
set_option maxHeartbeats 4000000 in
set_option maxRecDepth 100000 in
theorem m_X5_barsFor (G : z_G) {nb na np g : Nat} {w0 w : z_w} {c : r_c} {l : r_l} {r : r_r} (hR : r_p dX (TX nb na np g) w0 c l r w) (cm : Nat → Nat) (hc9 : c (35, 0) 9 = nI na) (hna : na ≤ 100) (hcm : ∀ j, j < na → c (39, 0) j = nI (cm j)) (hcm2 : ∀ j, j < na → cm j < 256) (s : Nat) : z_M G yX5_barsFor cX5_barsFor 4 (some .int) 1 (0) (0) [vr (35, 0), vi (nI s)] w (fun q w1 => q = some (vi (nI (min 8 (o_cnt (fun j => decide (¬ cm j &&& s = 0)) na)))) ∧ w1 = w) := by
  refine z_met ym_X5_barsFor (by decide) ⟨Nat.le_of_ble_eq_true rfl, Nat.le_of_ble_eq_true rfl⟩ (fun X hG hn hmc hms hin h hr => ?_)
  have he := hr.2.2.2.2.2.1
  refine z_iconst (v := 0) h dX5_barsFor_0 (by decide) ?_
  refine z_istore_n h dX5_barsFor_1 (by rw [hn]; decide) ?_
  refine z_iconst (v := 0) h dX5_barsFor_2 (by decide) ?_
  refine z_istore_n h dX5_barsFor_3 (by rw [hn]; decide) ?_
  have loop_4 : ∀ (n_ : Nat) (i : Nat), o_cnt (fun j => decide (¬ cm j &&& s = 0)) i ≤ 8 → i ≤ na → na + 1 ≤ i + n_ → z_V X 0 0 w 4 [(0, vr (35, 0)), (1, vi (nI s)), (2, vi (nI (o_cnt (fun j => decide (¬ cm j &&& s = 0)) i))), (3, vi (nI i))] [] := by
    intro n_
    induction n_ with
    | zero => intros; omega
    | succ n_ ih_4 =>
      intro i h8 hi hN
      refine z_iload_n h dX5_barsFor_4 rfl ?_
      refine z_aload_n h dX5_barsFor_5 rfl ?_
      refine y_geti h dX5_barsFor_6 hR flX5_47 (by first | assumption | exact Nat.le_of_ble_eq_true rfl) (by first | rfl | assumption | exact tx_2 (by first | assumption | omega) | exact tx_18 (by first | assumption | omega) | exact tx_19 (by first | assumption | omega) | exact tx_20 (by first | assumption | omega) | exact tx_27 (by first | assumption | omega) | exact tx_28 (by first | assumption | omega) | exact tx_30 (by first | assumption | omega) | exact tx_31 (by first | assumption | omega) | exact tx_32 (by first | assumption | omega) | exact tx_33 (by first | assumption | omega)) (by rfl) ?_
      rw [hc9]
      refine z_icmp_ge h dX5_barsFor_9 38 (by decide) (fun c_1 => ?_) (fun c_1 => ?_)
      · skip
        have e1 : na ≤ i := (nI_leI (by omega) (by omega)).mp c_1
        have e2 : i = na := by omega
        subst e2
        refine z_iload_n h dX5_barsFor_38 rfl ?_
        exact z_iret h dX5_barsFor_39 hr (⟨z_e1 (by rw [show min 8 _ = _ from Nat.min_eq_right h8]), rfl⟩)
      · skip
        have e1 : ¬ na ≤ i := fun q => c_1 ((nI_leI (by omega) (by omega)).mpr q)
        refine z_iload_n h dX5_barsFor_12 rfl ?_
        refine z_bipush (v := 8) h dX5_barsFor_13 (by decide) ?_
        refine z_icmp_ge h dX5_barsFor_15 38 (by decide) (fun c_2 => ?_) (fun c_2 => ?_)
        · skip
          have e2 : 8 ≤ o_cnt (fun j => decide (¬ cm j &&& s = 0)) i := (nI_leI (a := 8) (by omega) (by omega)).mp c_2
          refine z_iload_n h dX5_barsFor_38 rfl ?_
          exact z_iret h dX5_barsFor_39 hr (⟨z_e1 (by have := o_cnt_mono (fun j => decide (¬ cm j &&& s = 0)) hi; rw [show min 8 (o_cnt (fun j => decide (¬ cm j &&& s = 0)) na) = 8 from Nat.min_eq_left (by omega), show o_cnt (fun j => decide (¬ cm j &&& s = 0)) i = 8 by omega]), rfl⟩)
        · skip
          have e2 : ¬ 8 ≤ o_cnt (fun j => decide (¬ cm j &&& s = 0)) i := fun q => c_2 ((nI_leI (a := 8) (by omega) (by omega)).mpr q)
          refine z_aload_n h dX5_barsFor_18 rfl ?_
          refine y_getr h dX5_barsFor_19 hR flX5_21 (by first | assumption | exact Nat.le_of_ble_eq_true rfl) (by first | rfl | assumption | exact tx_2 (by first | assumption | omega) | exact tx_18 (by first | assumption | omega) | exact tx_19 (by first | assumption | omega) | exact tx_20 (by first | assumption | omega) | exact tx_27 (by first | assumption | omega) | exact tx_28 (by first | assumption | omega) | exact tx_30 (by first | assumption | omega) | exact tx_31 (by first | assumption | omega) | exact tx_32 (by first | assumption | omega) | exact tx_33 (by first | assumption | omega)) (by rfl) ?_
          refine z_iload_n h dX5_barsFor_22 rfl ?_
          refine y_iald h dX5_barsFor_23 hR (by first | assumption | exact Nat.le_of_ble_eq_true rfl) (by first | rfl | assumption | exact tx_2 (by first | assumption | omega) | exact tx_18 (by first | assumption | omega) | exact tx_19 (by first | assumption | omega) | exact tx_20 (by first | assumption | omega) | exact tx_27 (by first | assumption | omega) | exact tx_28 (by first | assumption | omega) | exact tx_30 (by first | assumption | omega) | exact tx_31 (by first | assumption | omega) | exact tx_32 (by first | assumption | omega) | exact tx_33 (by first | assumption | omega)) (z_ixn (show i < 100 by omega) (by decide)) ?_
          rw [hcm i (by omega)]
          refine z_iload_n h dX5_barsFor_24 rfl ?_
          refine z_iand h dX5_barsFor_25 ?_
          rw [nI_and]
          refine z_if_eq h dX5_barsFor_26 32 (by decide) (fun c_3 => ?_) (fun c_3 => ?_)
          · skip
            refine z_iinc (v := 1) h dX5_barsFor_32 rfl (by decide) (by rw [hn]; decide) ?_
            refine z_goto h dX5_barsFor_35 4 (by decide) ?_
            refine z_loc [(0, vr (35, 0)), (1, vi (nI s)), (2, vi (nI (o_cnt (fun j => decide (¬ cm j &&& s = 0)) (i + 1)))), (3, vi (nI (i + 1)))] ⟨rfl, rfl, by rw [show o_cnt (fun j => decide (¬ cm j &&& s = 0)) (i + 1) = o_cnt (fun j => decide (¬ cm j &&& s = 0)) i from by rw [o_cnt, if_neg (fun q => absurd (show cm i &&& s = 0 from (nI_eq0 (Nat.lt_of_le_of_lt Nat.and_le_left (Nat.lt_trans (hcm2 i (by omega)) (by decide)))).mp c_3) (of_decide_eq_true q))]; rfl]; rfl, congrArg (fun z => some (vi z)) (z_up i), trivial⟩ ?_
            exact ih_4 (i + 1) (by rw [o_cnt]; split <;> omega) (by omega) (by omega)
          · skip
            refine z_iinc (v := 1) h dX5_barsFor_29 rfl (by decide) (by rw [hn]; decide) ?_
            refine z_iinc (v := 1) h dX5_barsFor_32 rfl (by decide) (by rw [hn]; decide) ?_
            refine z_goto h dX5_barsFor_35 4 (by decide) ?_
            refine z_loc [(0, vr (35, 0)), (1, vi (nI s)), (2, vi (nI (o_cnt (fun j => decide (¬ cm j &&& s = 0)) (i + 1)))), (3, vi (nI (i + 1)))] ⟨rfl, rfl, by rw [show o_cnt (fun j => decide (¬ cm j &&& s = 0)) (i + 1) = o_cnt (fun j => decide (¬ cm j &&& s = 0)) i + 1 from by rw [o_cnt, if_pos (decide_eq_true (show ¬ (cm i &&& s = 0) from fun e => c_3 (by rw [e]; rfl)))]]; exact congrArg (fun z => some (vi z)) (z_up _), congrArg (fun z => some (vi z)) (z_up i), trivial⟩ ?_
            exact ih_4 (i + 1) (by rw [o_cnt]; split <;> omega) (by omega) (by omega)
  exact z_loc [(0, vr (35, 0)), (1, vi (nI s)), (2, vi (nI (o_cnt (fun j => decide (¬ cm j &&& s = 0)) 0))), (3, vi (nI 0))] ⟨rfl, rfl, rfl, rfl, trivial⟩ (loop_4 (na + 1) 0 (Nat.zero_le _) (by omega) (by omega))
def o_b1 (x : Int32) : Int32 := x - (((x).toUInt32 >>> (Int32.toUInt32 1 &&& Int32.toUInt32 31)).toInt32 &&& 1431655765)
def o_b2 (x : Int32) : Int32 := (x &&& 858993459) + (((x).toUInt32 >>> (Int32.toUInt32 2 &&& Int32.toUInt32 31)).toInt32 &&& 858993459)
def o_b3 (x : Int32) : Int32 := (x + ((x).toUInt32 >>> (Int32.toUInt32 4 &&& Int32.toUInt32 31)).toInt32) &&& 252645135
def o_b4 (x : Int32) : Int32 := x + ((x).toUInt32 >>> (Int32.toUInt32 8 &&& Int32.toUInt32 31)).toInt32
def o_b5 (x : Int32) : Int32 := x + ((x).toUInt32 >>> (Int32.toUInt32 16 &&& Int32.toUInt32 31)).toInt32
def o_jb (x : Int32) : Int32 := o_b5 (o_b4 (o_b3 (o_b2 (o_b1 x)))) &&& 63
theorem o_jb_ : ∀ s < 256, o_jb (nI s) = nI (o_pc s) := by decide +kernel
set_option maxHeartbeats 4000000 in
set_option maxRecDepth 100000 in
theorem m_J6_bitCount_0f7a4 (G : z_G) (w : z_w) (x : Int32) : z_M G yJ6_bitCount_0f7a4 cJ6_bitCount_0f7a4 1 (some .int) 1 (0) (0) [vi x] w (fun q w1 => q = some (vi (o_jb x)) ∧ w1 = w) := by
  refine z_met ym_J6_bitCount_0f7a4 (by decide) ⟨Nat.le_of_ble_eq_true rfl, Nat.le_of_ble_eq_true rfl⟩ (fun X hG hn hmc hms hin h hr => ?_)
  have he := hr.2.2.2.2.2.1
  refine z_iload_n h dJ6_bitCount_0f7a4_0 rfl ?_
  refine z_iload_n h dJ6_bitCount_0f7a4_1 rfl ?_
  refine z_iconst (v := 1) h dJ6_bitCount_0f7a4_2 (by decide) ?_
  refine z_iushr h dJ6_bitCount_0f7a4_3 rfl ?_
  refine z_ldcw h dJ6_bitCount_0f7a4_4 kcJ6_265 ?_
  refine z_iand h dJ6_bitCount_0f7a4_7 ?_
  refine z_isub h dJ6_bitCount_0f7a4_8 ?_
  refine z_toe (y := o_b1 x) rfl ?_
  refine z_istore_n h dJ6_bitCount_0f7a4_9 (by rw [hn]; decide) ?_
  refine z_iload_n h dJ6_bitCount_0f7a4_10 rfl ?_
  refine z_ldcw h dJ6_bitCount_0f7a4_11 kcJ6_266 ?_
  refine z_iand h dJ6_bitCount_0f7a4_14 ?_
  refine z_iload_n h dJ6_bitCount_0f7a4_15 rfl ?_
  refine z_iconst (v := 2) h dJ6_bitCount_0f7a4_16 (by decide) ?_
  refine z_iushr h dJ6_bitCount_0f7a4_17 rfl ?_
  refine z_ldcw h dJ6_bitCount_0f7a4_18 kcJ6_266 ?_
  refine z_iand h dJ6_bitCount_0f7a4_21 ?_
  refine z_iadd h dJ6_bitCount_0f7a4_22 ?_
  refine z_toe (y := o_b2 (o_b1 x)) rfl ?_
  refine z_istore_n h dJ6_bitCount_0f7a4_23 (by rw [hn]; decide) ?_
  refine z_iload_n h dJ6_bitCount_0f7a4_24 rfl ?_
  refine z_iload_n h dJ6_bitCount_0f7a4_25 rfl ?_
  refine z_iconst (v := 4) h dJ6_bitCount_0f7a4_26 (by decide) ?_
  refine z_iushr h dJ6_bitCount_0f7a4_27 rfl ?_
  refine z_iadd h dJ6_bitCount_0f7a4_28 ?_
  refine z_ldcw h dJ6_bitCount_0f7a4_29 kcJ6_267 ?_
  refine z_iand h dJ6_bitCount_0f7a4_32 ?_
  refine z_toe (y := o_b3 (o_b2 (o_b1 x))) rfl ?_
  refine z_istore_n h dJ6_bitCount_0f7a4_33 (by rw [hn]; decide) ?_
  refine z_iload_n h dJ6_bitCount_0f7a4_34 rfl ?_
  refine z_iload_n h dJ6_bitCount_0f7a4_35 rfl ?_
  refine z_bipush (v := 8) h dJ6_bitCount_0f7a4_36 (by decide) ?_
  refine z_iushr h dJ6_bitCount_0f7a4_38 rfl ?_
  refine z_iadd h dJ6_bitCount_0f7a4_39 ?_
  refine z_toe (y := o_b4 (o_b3 (o_b2 (o_b1 x)))) rfl ?_
  refine z_istore_n h dJ6_bitCount_0f7a4_40 (by rw [hn]; decide) ?_
  refine z_iload_n h dJ6_bitCount_0f7a4_41 rfl ?_
  refine z_iload_n h dJ6_bitCount_0f7a4_42 rfl ?_
  refine z_bipush (v := 16) h dJ6_bitCount_0f7a4_43 (by decide) ?_
  refine z_iushr h dJ6_bitCount_0f7a4_45 rfl ?_
  refine z_iadd h dJ6_bitCount_0f7a4_46 ?_
  refine z_toe (y := o_b5 (o_b4 (o_b3 (o_b2 (o_b1 x))))) rfl ?_
  refine z_istore_n h dJ6_bitCount_0f7a4_47 (by rw [hn]; decide) ?_
  refine z_iload_n h dJ6_bitCount_0f7a4_48 rfl ?_
  refine z_bipush (v := 63) h dJ6_bitCount_0f7a4_49 (by decide) ?_
  refine z_iand h dJ6_bitCount_0f7a4_51 ?_
  exact z_iret h dJ6_bitCount_0f7a4_52 hr (⟨rfl, rfl⟩)
set_option maxHeartbeats 4000000 in
set_option maxRecDepth 100000 in
theorem m_X5_leastWanting (G : z_G) {nb na np g : Nat} {w0 w : z_w} {c : r_c} {l : r_l} {r : r_r} (hR : r_p dX (TX nb na np g) w0 c l r w) (no : Nat) (hco : c (35, 0) 3 = nI no) (hno : no ≤ 8) (cm : Nat → Nat) (hc9 : c (35, 0) 9 = nI na) (hna : na ≤ 100) (hcm : ∀ j, j < na → c (39, 0) j = nI (cm j)) (hcm2 : ∀ j, j < na → cm j < 256) : z_M G yX5_leastWanting cX5_leastWanting 2 (some .int) 2 (0) (0) [vr (35, 0)] w (fun q w1 => q = some (vi (nI (o_fs (fun s => decide (min 8 (o_cnt (fun j => decide (¬ cm j &&& s = 0)) na) < o_pc s)) (2 ^ no)))) ∧ w1 = w) := by
  refine z_met ym_X5_leastWanting (by decide) ⟨Nat.le_of_ble_eq_true rfl, Nat.le_of_ble_eq_true rfl⟩ (fun X hG hn hmc hms hin h hr => ?_)
  have he := hr.2.2.2.2.2.1
  refine z_iconst (v := 1) h dX5_leastWanting_0 (by decide) ?_
  refine z_istore_n h dX5_leastWanting_1 (by rw [hn]; decide) ?_
  have loop_2 : ∀ (n_ : Nat) (i : Nat), i ≤ 2 ^ no → i ≠ 0 → o_fs (fun s => decide (min 8 (o_cnt (fun j => decide (¬ cm j &&& s = 0)) na) < o_pc s)) i = 0 → 2 ^ no + 1 ≤ i + n_ → z_V X 0 0 w 2 [(0, vr (35, 0)), (1, vi (nI i))] [] := by
    intro n_
    induction n_ with
    | zero => intros; omega
    | succ n_ ih_2 =>
      intro i hi h0 hf hN
      refine z_iload_n h dX5_leastWanting_2 rfl ?_
      refine z_iconst (v := 1) h dX5_leastWanting_3 (by decide) ?_
      refine z_aload_n h dX5_leastWanting_4 rfl ?_
      refine y_geti h dX5_leastWanting_5 hR flX5_37 (by first | assumption | exact Nat.le_of_ble_eq_true rfl) (by first | rfl | assumption | exact tx_2 (by first | assumption | omega) | exact tx_18 (by first | assumption | omega) | exact tx_19 (by first | assumption | omega) | exact tx_20 (by first | assumption | omega) | exact tx_27 (by first | assumption | omega) | exact tx_28 (by first | assumption | omega) | exact tx_30 (by first | assumption | omega) | exact tx_31 (by first | assumption | omega) | exact tx_32 (by first | assumption | omega) | exact tx_33 (by first | assumption | omega)) (by rfl) ?_
      refine z_bipush (v := 8) h dX5_leastWanting_8 (by decide) ?_
      refine z_min h dX5_leastWanting_10 mlX5_41 sm_Mmin ic_Math co_Mmin (Nat.le_of_ble_eq_true rfl) ?_
      have e8 : ¬ nI 8 < nI no := fun q => by have := (nI_ltI (by omega) (by omega)).mp q; omega
      refine z_toe (y := nI no) (by show (if nI 8 < c (35, 0) 3 then nI 8 else c (35, 0) 3) = nI no; rw [hco, if_neg e8]) ?_
      refine z_ishl h dX5_leastWanting_13 ?_
      refine z_toe (y := nI (2 ^ no)) (o_sh_ no (by omega)) ?_
      have hp2 : 2 ^ no ≤ 256 := show 2 ^ no ≤ 2 ^ 8 from Nat.pow_le_pow_right (by decide) hno
      refine z_icmp_ge h dX5_leastWanting_14 37 (by decide) (fun c_1 => ?_) (fun c_1 => ?_)
      · skip
        have e1 : (2 ^ no) ≤ i := (nI_leI (by omega) (by omega)).mp c_1
        have e2 : i = (2 ^ no) := by omega
        subst e2
        refine z_iconst (v := 0) h dX5_leastWanting_37 (by decide) ?_
        exact z_iret h dX5_leastWanting_38 hr (⟨z_e1 (by first | rw [hf]; rfl | (rw [← e2, hf]; rfl) | (rw [e2] at hf; rw [hf]; rfl)), rfl⟩)
      · skip
        have e1 : ¬ (2 ^ no) ≤ i := fun q => c_1 ((nI_leI (by omega) (by omega)).mpr q)
        refine z_aload_n h dX5_leastWanting_17 rfl ?_
        refine z_iload_n h dX5_leastWanting_18 rfl ?_
        refine z_callV h dX5_leastWanting_19 (fun _ _ q => z_okv_no he q) (fun _ _ _ t q => absurd q (he t)) (m_X5_barsFor _ hR cm hc9 hna hcm hcm2 i) ym_X5_barsFor mlX5_90 im_X5_barsFor (ci := 5) rfl se_X5_barsFor icX5 rfl (r_p.ob hR (by first | assumption | exact Nat.le_of_ble_eq_true rfl) (by first | rfl | assumption | exact tx_2 (by first | assumption | omega) | exact tx_18 (by first | assumption | omega) | exact tx_19 (by first | assumption | omega) | exact tx_20 (by first | assumption | omega) | exact tx_27 (by first | assumption | omega) | exact tx_28 (by first | assumption | omega) | exact tx_30 (by first | assumption | omega) | exact tx_31 (by first | assumption | omega) | exact tx_32 (by first | assumption | omega) | exact tx_33 (by first | assumption | omega))) rfl (by decide) (Nat.le_of_ble_eq_true rfl) ?_
        rintro q1 w1 ⟨rfl, hw1⟩
        have hw1 := hw1.symm; subst hw1
        refine z_iload_n h dX5_leastWanting_22 rfl ?_
        refine z_callS h dX5_leastWanting_23 (fun _ _ q => z_okv_no he q) (fun _ _ _ t q => absurd q (he t)) (m_J6_bitCount_0f7a4 _ _ (nI i)) ym_J6_bitCount_0f7a4 mlX5_94 sm_J6_bitCount_0f7a4 rfl (by decide) (Nat.le_of_ble_eq_true rfl) ?_
        rintro q1 w1 ⟨rfl, hw1⟩
        have hw1 := hw1.symm; subst hw1
        rw [o_jb_ i (by omega)]
        have hb1 : o_cnt (fun o => i.testBit o) 8 ≤ 8 := o_cnt_le _ 8
        have hb2 : o_pc i ≤ 8 := hb1
        refine z_icmp_ge h dX5_leastWanting_26 31 (by decide) (fun c_2 => ?_) (fun c_2 => ?_)
        · skip
          have e2 : o_pc i ≤ min 8 (o_cnt (fun j => decide (¬ cm j &&& i = 0)) na) := (nI_leI (by omega) (by omega)).mp c_2
          refine z_iinc (v := 1) h dX5_leastWanting_31 rfl (by decide) (by rw [hn]; decide) ?_
          refine z_goto h dX5_leastWanting_34 2 (by decide) ?_
          refine z_loc [(0, vr (35, 0)), (1, vi (nI (i + 1)))] ⟨rfl, congrArg (fun z => some (vi z)) (z_up i), trivial⟩ ?_
          exact ih_2 (i + 1) (by omega) (by omega) (o_fs_nx hf (fun q => by have := of_decide_eq_true q; omega)) (by omega)
        · skip
          have e2 : ¬ o_pc i ≤ min 8 (o_cnt (fun j => decide (¬ cm j &&& i = 0)) na) := fun q => c_2 ((nI_leI (by omega) (by omega)).mpr q)
          refine z_iload_n h dX5_leastWanting_29 rfl ?_
          exact z_iret h dX5_leastWanting_30 hr (⟨z_e1 (by rw [o_fs_at hf h0 (decide_eq_true (by omega)) (n := 2 ^ no) (by omega)]), rfl⟩)
  exact z_loc [(0, vr (35, 0)), (1, vi (nI 1))] ⟨rfl, rfl, trivial⟩ (loop_2 (2 ^ no + 1) 1 (Nat.one_le_two_pow) (by omega) rfl (by omega))
