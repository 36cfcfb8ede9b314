/-! the class: parting -/
theorem f_fill {G : z_G} {dom : z_T → Prop} {T : z_T → Option r_sh} {w0 w : z_w} {c : r_c} {l : r_l} {r : r_r} (hR : r_p dom T w0 c l r w) {t : z_T} {n : Nat} (v : Int32) (hD : dom t) (hT : T t = some (s_i n)) (hn : n < 2 ^ 31) : z_M G yJ7_fill_53178 cJ7_fill_53178 4 none 1 0 0 [vr t, vi v] w (fun q w1 => q = none ∧ r_p dom T w0 (r_cf c t (fun _ => v)) l r w1) :=
  (m_J7_fill_53178 G w t n (c t) v (hR.at hD hT) hn).imp (fun _ _ ⟨a, b⟩ => ⟨a, by rw [b]; exact hR.seti hD hT _⟩)
theorem p_gb_1 (f : Nat → Int) : p_gb f 1 = 0 := if_neg (show ¬ f 0 < f 0 by omega)
theorem z_cmp_le {a b : Int64} : lg_cmp a b ≤ 0 ↔ a.toInt ≤ b.toInt := (lg_cmp_le a b).trans Int64.le_iff_toInt_le
set_option maxHeartbeats 4000000 in
set_option maxRecDepth 100000 in
theorem m_X6_greatestRest (G : z_G) {nb na np g : Nat} {w0 w : z_w} {c : r_c} {l : r_l} {r : r_r} (hR : r_p dX (TX nb na np g) w0 c l r w) (n : Nat) (f : Nat → Int) (h1 : 1 ≤ n) (h2 : n ≤ 12) (hl : ∀ i, i < n → (l (46, 0) i).toInt = f i) : z_M G yX6_greatestRest cX6_greatestRest 4 (some .int) 1 (0) (0) [vr (44, 0), vi (nI n)] w (fun q w1 => q = some (vi (nI (p_gb f n))) ∧ w1 = w) := by
  refine z_met ym_X6_greatestRest (by decide) ⟨Nat.le_of_ble_eq_true rfl, Nat.le_of_ble_eq_true rfl⟩ (fun X hG hn hmc hms hin h hr => ?_)
  have he := hr.2.2.2.2.2.1
  refine z_iconst (v := 0) h dX6_greatestRest_0 (by decide) ?_
  refine z_istore_n h dX6_greatestRest_1 (by rw [hn]; decide) ?_
  refine z_iconst (v := 1) h dX6_greatestRest_2 (by decide) ?_
  refine z_istore_n h dX6_greatestRest_3 (by rw [hn]; decide) ?_
  have loop_4 : ∀ (n_ : Nat) (i : Nat), 1 ≤ i → i ≤ n → n + 1 ≤ i + n_ → z_V X 0 0 w 4 [(0, vr (44, 0)), (1, vi (nI n)), (2, vi (nI (p_gb f i))), (3, vi (nI i))] [] := by
    intro n_
    induction n_ with
    | zero => intros; omega
    | succ n_ ih_4 =>
      intro i h1 hi hN
      have hgb := p_gb_lt (f := f) (show 0 < i by omega)
      refine z_iload_n h dX6_greatestRest_4 rfl ?_
      refine z_iload_n h dX6_greatestRest_5 rfl ?_
      refine z_icmp_ge h dX6_greatestRest_6 33 (by decide) (fun c_1 => ?_) (fun c_1 => ?_)
      · skip
        have e1 : n ≤ i := (nI_leI (by omega) (by omega)).mp c_1
        have e2 : i = n := by omega
        subst e2
        refine z_iload_n h dX6_greatestRest_33 rfl ?_
        exact z_iret h dX6_greatestRest_34 hr (⟨rfl, rfl⟩)
      · skip
        have e1 : ¬ n ≤ i := fun q => c_1 ((nI_leI (by omega) (by omega)).mpr q)
        refine z_aload_n h dX6_greatestRest_9 rfl ?_
        refine y_getr h dX6_greatestRest_10 hR flX6_15 (by first | assumption | exact Nat.le_of_ble_eq_true rfl) (by first | rfl | assumption | exact tx_2 (by first | assumption | omega) | exact tx_18 (by first | assumption | omega) | exact tx_19 (by first | assumption | omega) | exact tx_20 (by first | assumption | omega) | exact tx_27 (by first | assumption | omega) | exact tx_28 (by first | assumption | omega) | exact tx_30 (by first | assumption | omega) | exact tx_31 (by first | assumption | omega) | exact tx_32 (by first | assumption | omega) | exact tx_33 (by first | assumption | omega)) (by rfl) ?_
        refine z_iload_n h dX6_greatestRest_13 rfl ?_
        refine y_lald h dX6_greatestRest_14 hR (by first | assumption | exact Nat.le_of_ble_eq_true rfl) (by first | rfl | assumption | exact tx_2 (by first | assumption | omega) | exact tx_18 (by first | assumption | omega) | exact tx_19 (by first | assumption | omega) | exact tx_20 (by first | assumption | omega) | exact tx_27 (by first | assumption | omega) | exact tx_28 (by first | assumption | omega) | exact tx_30 (by first | assumption | omega) | exact tx_31 (by first | assumption | omega) | exact tx_32 (by first | assumption | omega) | exact tx_33 (by first | assumption | omega)) (by first | assumption | exact z_ixn (by omega) (by omega)) ?_
        refine z_aload_n h dX6_greatestRest_15 rfl ?_
        refine y_getr h dX6_greatestRest_16 hR flX6_15 (by first | assumption | exact Nat.le_of_ble_eq_true rfl) (by first | rfl | assumption | exact tx_2 (by first | assumption | omega) | exact tx_18 (by first | assumption | omega) | exact tx_19 (by first | assumption | omega) | exact tx_20 (by first | assumption | omega) | exact tx_27 (by first | assumption | omega) | exact tx_28 (by first | assumption | omega) | exact tx_30 (by first | assumption | omega) | exact tx_31 (by first | assumption | omega) | exact tx_32 (by first | assumption | omega) | exact tx_33 (by first | assumption | omega)) (by rfl) ?_
        refine z_iload_n h dX6_greatestRest_19 rfl ?_
        refine y_lald h dX6_greatestRest_20 hR (by first | assumption | exact Nat.le_of_ble_eq_true rfl) (by first | rfl | assumption | exact tx_2 (by first | assumption | omega) | exact tx_18 (by first | assumption | omega) | exact tx_19 (by first | assumption | omega) | exact tx_20 (by first | assumption | omega) | exact tx_27 (by first | assumption | omega) | exact tx_28 (by first | assumption | omega) | exact tx_30 (by first | assumption | omega) | exact tx_31 (by first | assumption | omega) | exact tx_32 (by first | assumption | omega) | exact tx_33 (by first | assumption | omega)) (by first | assumption | exact z_ixn (by omega) (by omega)) ?_
        refine z_lcmp h dX6_greatestRest_21 ?_
        refine z_if_le h dX6_greatestRest_22 27 (by decide) (fun c_2 => ?_) (fun c_2 => ?_)
        · skip
          have c_3 : ¬ f (p_gb f i) < f i := by rw [z_cmp_le, hl i (by omega), hl _ (by omega)] at c_2; omega
          refine z_iinc (v := 1) h dX6_greatestRest_27 rfl (by decide) (by rw [hn]; decide) ?_
          refine z_goto h dX6_greatestRest_30 4 (by decide) ?_
          refine z_loc [(0, vr (44, 0)), (1, vi (nI n)), (2, vi (nI (p_gb f (i + 1)))), (3, vi (nI (i + 1)))] ⟨rfl, rfl, congrArg (fun z => some (vi (nI z))) (if_neg c_3 |>.symm), congrArg (fun z => some (vi z)) (z_up i), trivial⟩ ?_
          exact ih_4 (i + 1) (by omega) (by omega) (by omega)
        · skip
          have c_3 : f (p_gb f i) < f i := by rw [z_cmp_le, hl i (by omega), hl _ (by omega)] at c_2; omega
          refine z_iload_n h dX6_greatestRest_25 rfl ?_
          refine z_istore_n h dX6_greatestRest_26 (by rw [hn]; decide) ?_
          refine z_iinc (v := 1) h dX6_greatestRest_27 rfl (by decide) (by rw [hn]; decide) ?_
          refine z_goto h dX6_greatestRest_30 4 (by decide) ?_
          refine z_loc [(0, vr (44, 0)), (1, vi (nI n)), (2, vi (nI (p_gb f (i + 1)))), (3, vi (nI (i + 1)))] ⟨rfl, rfl, congrArg (fun z => some (vi (nI z))) ((if_pos c_3).symm), congrArg (fun z => some (vi z)) (z_up i), trivial⟩ ?_
          exact ih_4 (i + 1) (by omega) (by omega) (by omega)
  exact z_loc [(0, vr (44, 0)), (1, vi (nI n)), (2, vi (nI (p_gb f 1))), (3, vi (nI 1))] ⟨rfl, rfl, congrArg (fun z => some (vi (nI z))) (p_gb_1 f).symm, rfl, trivial⟩ (loop_4 (n + 1) 1 (by omega) (by omega) (by omega))
set_option maxHeartbeats 4000000 in
set_option maxRecDepth 100000 in
theorem m_X6_giveAllToFirst (G : z_G) {nb na np g : Nat} {w0 w : z_w} {c : r_c} {l : r_l} {r : r_r} (hR : r_p dX (TX nb na np g) w0 c l r w) (x : Int32) : z_M G yX6_giveAllToFirst cX6_giveAllToFirst 2 none 2 (0) (0) [vr (44, 0), vi x] w (fun q w1 => q = none ∧ r_p dX (TX nb na np g) w0 (r_cf c (45, 0) (upd (fun _ => 0) 0 x)) (l) (r) w1) := by
  refine z_met ym_X6_giveAllToFirst (by decide) ⟨Nat.le_of_ble_eq_true rfl, Nat.le_of_ble_eq_true rfl⟩ (fun X hG hn hmc hms hin h hr => ?_)
  have he := hr.2.2.2.2.2.1
  refine z_aload_n h dX6_giveAllToFirst_0 rfl ?_
  refine y_getr h dX6_giveAllToFirst_1 hR flX6_9 (by first | assumption | exact Nat.le_of_ble_eq_true rfl) (by first | rfl | assumption | exact tx_2 (by first | assumption | omega) | exact tx_18 (by first | assumption | omega) | exact tx_19 (by first | assumption | omega) | exact tx_20 (by first | assumption | omega) | exact tx_27 (by first | assumption | omega) | exact tx_28 (by first | assumption | omega) | exact tx_30 (by first | assumption | omega) | exact tx_31 (by first | assumption | omega) | exact tx_32 (by first | assumption | omega) | exact tx_33 (by first | assumption | omega)) (by rfl) ?_
  refine z_iconst (v := 0) h dX6_giveAllToFirst_4 (by decide) ?_
  refine z_callS h dX6_giveAllToFirst_5 (fun _ _ q => z_okv_no he q) (fun _ _ _ t q => absurd q (he t)) (f_fill hR 0 (Nat.le_of_ble_eq_true rfl) rfl (by decide)) ym_J7_fill_53178 mlX6_19 sm_J7_fill_53178 rfl (by decide) (Nat.le_of_ble_eq_true rfl) ?_
  rintro q1 w ⟨rfl, hR⟩
  refine z_aload_n h dX6_giveAllToFirst_8 rfl ?_
  refine y_getr h dX6_giveAllToFirst_9 hR flX6_9 (by first | assumption | exact Nat.le_of_ble_eq_true rfl) (by first | rfl | assumption | exact tx_2 (by first | assumption | omega) | exact tx_18 (by first | assumption | omega) | exact tx_19 (by first | assumption | omega) | exact tx_20 (by first | assumption | omega) | exact tx_27 (by first | assumption | omega) | exact tx_28 (by first | assumption | omega) | exact tx_30 (by first | assumption | omega) | exact tx_31 (by first | assumption | omega) | exact tx_32 (by first | assumption | omega) | exact tx_33 (by first | assumption | omega)) (by rfl) ?_
  refine z_iconst (v := 0) h dX6_giveAllToFirst_12 (by decide) ?_
  refine z_iload_n h dX6_giveAllToFirst_13 rfl ?_
  refine y_iast h dX6_giveAllToFirst_14 hR (by first | assumption | exact Nat.le_of_ble_eq_true rfl) (by first | rfl | assumption | exact tx_2 (by first | assumption | omega) | exact tx_18 (by first | assumption | omega) | exact tx_19 (by first | assumption | omega) | exact tx_20 (by first | assumption | omega) | exact tx_27 (by first | assumption | omega) | exact tx_28 (by first | assumption | omega) | exact tx_30 (by first | assumption | omega) | exact tx_31 (by first | assumption | omega) | exact tx_32 (by first | assumption | omega) | exact tx_33 (by first | assumption | omega)) (z_ixn (j := 0) (by omega) (by omega)) (fun w hR => ?_)
  exact z_vret h dX6_giveAllToFirst_15 hr (⟨rfl, by simp only [r_cs, r_cf_self, r_cf_cf] at hR; exact hR⟩)
theorem z_upd_g {g : Nat → Int32} {i : Nat} {z : Int32} : upd (fun k => if k < i then g k else z) i (g i) = fun k => if k < i + 1 then g k else z := by
  funext k
  simp only [upd]
  by_cases h : k = i
  · subst h; simp
  · by_cases h2 : k < i
    · simp [h, h2, show k < i + 1 by omega]
    · simp [h, h2, show ¬ k < i + 1 by omega]
theorem p_sm_mono {f : Nat → Nat} : ∀ {n i : Nat}, i ≤ n → p_sm f i ≤ p_sm f n
  | 0, i, h => by rw [show i = 0 by omega]; exact Nat.le_refl _
  | n + 1, i, h => by
    by_cases e : i = n + 1
    · rw [e]; exact Nat.le_refl _
    · have := p_sm_mono (f := f) (show i ≤ n by omega)
      show p_sm f i ≤ p_sm f n + f n
      omega
theorem p_sm_bd {f : Nat → Nat} {b : Nat} : ∀ {n : Nat}, (∀ i, i < n → f i ≤ b) → p_sm f n ≤ n * b
  | 0, _ => by show 0 ≤ _; omega
  | n + 1, h => by
    have := p_sm_bd (f := f) (b := b) (n := n) (fun i hi => h i (by omega))
    have := h n (by omega)
    show p_sm f n + f n ≤ _
    rw [Nat.succ_mul]
    omega
theorem z_lN0 : (0 : Int64) = lN 0 := rfl
theorem z_cmp_gt0 {n : Nat} (h : n < 2 ^ 63) : (0 : Int32) < lg_cmp (lN n) 0 ↔ 0 < n := by
  rw [← Int32.not_le, lg_cmp_le, z_lN0, pk_lLE h (by decide)]
  omega
theorem z_lNne {n : Nat} (h0 : 0 < n) (h : n < 2 ^ 63) : ¬ lN n = 0 := fun q => by
  have := (pk_lEQ (a := n) (b := 0) h (by decide)).mp q
  omega
theorem z_lN_toInt {n : Nat} (h : n < 2 ^ 63) : (lN n).toInt = (n : Int) := pk_lT h
set_option maxHeartbeats 4000000 in
set_option maxRecDepth 100000 in
theorem m_X6_divide (G : z_G) {nb na np g : Nat} {w0 w : z_w} {c : r_c} {l : r_l} {r : r_r} (hR : r_p dX (TX nb na np g) w0 c l r w) (t : z_T) (n N : Nat) (m : Nat → Nat) (hD : dX t) (hT : TX nb na np g t = some (s_i n)) (ht : z_eq t (45, 0) = false) (h1 : 1 ≤ n) (h2 : n ≤ 12) (hN : N < 2 ^ 22) (hm : ∀ i, i < n → m i < 2 ^ 31 ∧ c t i = nI (m i)) : z_M G yX6_divide cX6_divide 10 (some .boolean) 2 (0) (0) [vr (44, 0), vi (nI N), vr t] w (fun q w1 => ∃ lf, if p_sm m n = 0 then q = some (vi 0) ∧ r_p dX (TX nb na np g) w0 (r_cf c (45, 0) (fun _ => 0)) (l) (r) w1 else q = some (vi 1) ∧ r_p dX (TX nb na np g) w0 (r_cf c (45, 0) (fun i => if i < n then nI (part N m n i) else 0)) (r_cf l (46, 0) lf) (r) w1) := by
  refine z_met ym_X6_divide (by decide) ⟨Nat.le_of_ble_eq_true rfl, Nat.le_of_ble_eq_true rfl⟩ (fun X hG hn hmc hms hin h hr => ?_)
  have he := hr.2.2.2.2.2.1
  have htn : t ≠ (45, 0) := fun e => by rw [e] at ht; exact absurd ht (by decide)
  have hsb : p_sm m n < 2 ^ 40 := by
    have h5 := p_sm_bd (f := m) (b := 2 ^ 31) (n := n) (fun i hi => Nat.le_of_lt (hm i hi).1)
    have h6 : n * 2 ^ 31 ≤ 12 * 2 ^ 31 := Nat.mul_le_mul_right _ h2
    omega
  refine z_aload_n h dX6_divide_0 rfl ?_
  refine y_getr h dX6_divide_1 hR flX6_9 (by first | assumption | exact Nat.le_of_ble_eq_true rfl) (by first | rfl | assumption | exact tx_2 (by first | assumption | omega) | exact tx_18 (by first | assumption | omega) | exact tx_19 (by first | assumption | omega) | exact tx_20 (by first | assumption | omega) | exact tx_27 (by first | assumption | omega) | exact tx_28 (by first | assumption | omega) | exact tx_30 (by first | assumption | omega) | exact tx_31 (by first | assumption | omega) | exact tx_32 (by first | assumption | omega) | exact tx_33 (by first | assumption | omega)) (by rfl) ?_
  refine z_iconst (v := 0) h dX6_divide_4 (by decide) ?_
  refine z_callS h dX6_divide_5 (fun _ _ q => z_okv_no he q) (fun _ _ _ t q => absurd q (he t)) (f_fill hR 0 (Nat.le_of_ble_eq_true rfl) rfl (by decide)) ym_J7_fill_53178 mlX6_19 sm_J7_fill_53178 rfl (by decide) (Nat.le_of_ble_eq_true rfl) ?_
  rintro q1 w ⟨rfl, hR⟩
  refine z_aload_n h dX6_divide_8 rfl ?_
  refine y_len h dX6_divide_9 hR (by first | assumption | exact Nat.le_of_ble_eq_true rfl) (by first | rfl | assumption | exact tx_2 (by first | assumption | omega) | exact tx_18 (by first | assumption | omega) | exact tx_19 (by first | assumption | omega) | exact tx_20 (by first | assumption | omega) | exact tx_27 (by first | assumption | omega) | exact tx_28 (by first | assumption | omega) | exact tx_30 (by first | assumption | omega) | exact tx_31 (by first | assumption | omega) | exact tx_32 (by first | assumption | omega) | exact tx_33 (by first | assumption | omega)) (by rfl) ?_
  refine z_aload_n h dX6_divide_10 rfl ?_
  refine y_getr h dX6_divide_11 hR flX6_9 (by first | assumption | exact Nat.le_of_ble_eq_true rfl) (by first | rfl | assumption | exact tx_2 (by first | assumption | omega) | exact tx_18 (by first | assumption | omega) | exact tx_19 (by first | assumption | omega) | exact tx_20 (by first | assumption | omega) | exact tx_27 (by first | assumption | omega) | exact tx_28 (by first | assumption | omega) | exact tx_30 (by first | assumption | omega) | exact tx_31 (by first | assumption | omega) | exact tx_32 (by first | assumption | omega) | exact tx_33 (by first | assumption | omega)) (by rfl) ?_
  refine y_len h dX6_divide_14 hR (by first | assumption | exact Nat.le_of_ble_eq_true rfl) (by first | rfl | assumption | exact tx_2 (by first | assumption | omega) | exact tx_18 (by first | assumption | omega) | exact tx_19 (by first | assumption | omega) | exact tx_20 (by first | assumption | omega) | exact tx_27 (by first | assumption | omega) | exact tx_28 (by first | assumption | omega) | exact tx_30 (by first | assumption | omega) | exact tx_31 (by first | assumption | omega) | exact tx_32 (by first | assumption | omega) | exact tx_33 (by first | assumption | omega)) (by rfl) ?_
  refine z_min h dX6_divide_15 mlX6_25 sm_Mmin ic_Math co_Mmin (Nat.le_of_ble_eq_true rfl) ?_
  refine z_toe (y := nI n) (if_neg (fun q => by have := (nI_ltI (a := 12) (by omega) (by omega)).mp q; omega)) ?_
  refine z_istore_n h dX6_divide_18 (by rw [hn]; decide) ?_
  refine z_lconst (v := 0) h dX6_divide_19 (by decide) ?_
  refine z_lstore h dX6_divide_20 (by rw [hn]; decide) ?_
  refine z_iconst (v := 0) h dX6_divide_22 (by decide) ?_
  refine z_istore h dX6_divide_23 (by rw [hn]; decide) ?_
  have loop_25 : ∀ (n_ : Nat) (i : Nat), i ≤ n → n + 1 ≤ i + n_ → z_V X 0 0 w 25 [(0, vr (44, 0)), (1, vi (nI N)), (2, vr t), (3, vi (nI n)), (4, vl (lN (p_sm m i))), (6, vi (nI i))] [] := by
    intro n_
    induction n_ with
    | zero => intros; omega
    | succ n_ ih_25 =>
      intro i hi hN2
      refine z_iload h dX6_divide_25 rfl ?_
      refine z_iload_n h dX6_divide_27 rfl ?_
      refine z_icmp_ge h dX6_divide_28 47 (by decide) (fun c_1 => ?_) (fun c_1 => ?_)
      · skip
        have e1 : n ≤ i := (nI_leI (by omega) (by omega)).mp c_1
        have e2 : i = n := by omega
        clear ih_25 hN2
        subst i
        refine z_lload h dX6_divide_47 rfl ?_
        refine z_lconst (v := 0) h dX6_divide_49 (by decide) ?_
        refine z_lcmp h dX6_divide_50 ?_
        refine z_if_gt h dX6_divide_51 56 (by decide) (fun c_4 => ?_) (fun c_4 => ?_)
        · skip
          have hS : 0 < p_sm m n := (z_cmp_gt0 (by omega)).mp c_4
          refine z_iload_n h dX6_divide_56 rfl ?_
          refine z_istore h dX6_divide_57 (by rw [hn]; decide) ?_
          refine z_iconst (v := 0) h dX6_divide_59 (by decide) ?_
          refine z_istore h dX6_divide_60 (by rw [hn]; decide) ?_
          have loop_62 : ∀ (n_ : Nat) (i : Nat) (lf : Nat → Int64) (w1 : z_w), i ≤ n → n + 1 ≤ i + n_ → (∀ k, k < i → (lf k).toInt = (p_r N m (p_sm m n) k : Int)) → r_p dX (TX nb na np g) w0 (r_cf c (45, 0) (fun k => if k < i then nI (p_q N m (p_sm m n) k) else 0)) (r_cf l (46, 0) lf) (r) w1 → z_V X 0 0 w1 62 [(0, vr (44, 0)), (1, vi (nI N)), (2, vr t), (3, vi (nI n)), (4, vl (lN (p_sm m n))), (6, vi (nI (N - p_sm (p_q N m (p_sm m n)) i))), (7, vi (nI i))] [] := by
            intro n_
            induction n_ with
            | zero => intros; omega
            | succ n_ ih_62 =>
              intro i lf w hi hN2 hlf hR
              have hql := p_qle (N := N) hS
              refine z_iload h dX6_divide_62 rfl ?_
              refine z_iload_n h dX6_divide_64 rfl ?_
              refine z_icmp_ge h dX6_divide_65 121 (by decide) (fun c_5 => ?_) (fun c_5 => ?_)
              · skip
                have e1 : n ≤ i := (nI_leI (by omega) (by omega)).mp c_5
                have e2 : i = n := by omega
                clear ih_62 hN2
                subst i
                refine z_iconst (v := 0) h dX6_divide_121 (by decide) ?_
                refine z_istore h dX6_divide_122 (by rw [hn]; decide) ?_
                have loop_124 : ∀ (n_ : Nat) (k : Nat) (lf : Nat → Int64) (w1 : z_w), k ≤ p_lf N m n → p_lf N m n + 1 ≤ k + n_ → (∀ i, i < n → (lf i).toInt = p_val N m (p_sm m n) (p_g N m (p_sm m n) n k) i) → r_p dX (TX nb na np g) w0 (r_cf c (45, 0) (fun i => if i < n then nI (p_q N m (p_sm m n) i + if p_g N m (p_sm m n) n k i = true then 1 else 0) else 0)) (r_cf l (46, 0) lf) (r) w1 → z_V X 0 0 w1 124 [(0, vr (44, 0)), (1, vi (nI N)), (2, vr t), (3, vi (nI n)), (4, vl (lN (p_sm m n))), (6, vi (nI (p_lf N m n))), (7, vi (nI k))] [] := by
                  intro n_
                  induction n_ with
                  | zero => intros; omega
                  | succ n_ ih_124 =>
                    intro k lf w hk hN2 hlf hR
                    have hpos := p_pos (N := N) hS
                    have hlfl : p_lf N m n < n := hpos.2
                    refine z_iload h dX6_divide_124 rfl ?_
                    refine z_iload h dX6_divide_126 rfl ?_
                    refine z_icmp_ge h dX6_divide_128 171 (by decide) (fun c_6 => ?_) (fun c_6 => ?_)
                    · skip
                      have e1 : p_lf N m n ≤ k := (nI_leI (by omega) (by omega)).mp c_6
                      have e2 : k = p_lf N m n := by omega
                      clear ih_124 hN2
                      subst k
                      refine z_iconst (v := 1) h dX6_divide_171 (by decide) ?_
                      exact z_zret h dX6_divide_172 hr rfl (⟨lf, z_f (by omega) ⟨rfl, hR⟩⟩)
                    · skip
                      have e1 : ¬ p_lf N m n ≤ k := fun q => c_6 ((nI_leI (by omega) (by omega)).mpr q)
                      obtain ⟨hc1, hc2⟩ := p_rounds (N := N) hS k hk
                      obtain ⟨i0, hi0, hg0, hr0⟩ := p_more (g := p_g N m (p_sm m n) n k) (r := p_r N m (p_sm m n)) (n := n) (by omega)
                      have hjn := p_gb_lt (f := p_val N m (p_sm m n) (p_g N m (p_sm m n) n k)) (show 0 < n by omega)
                      have hgj : p_g N m (p_sm m n) n k (p_gb (p_val N m (p_sm m n) (p_g N m (p_sm m n) n k)) n) = false := by
                        have hmax := p_gb_max (f := p_val N m (p_sm m n) (p_g N m (p_sm m n) n k)) hi0
                        cases e : p_g N m (p_sm m n) n k (p_gb (p_val N m (p_sm m n) (p_g N m (p_sm m n) n k)) n) with
                        | false => rfl
                        | true =>
                          have e5 : p_val N m (p_sm m n) (p_g N m (p_sm m n) n k) (p_gb (p_val N m (p_sm m n) (p_g N m (p_sm m n) n k)) n) = -1 := by
                            show (if p_g N m (p_sm m n) n k _ = true then (-1 : Int) else _) = -1
                            rw [e]; rfl
                          have e6 : p_val N m (p_sm m n) (p_g N m (p_sm m n) n k) i0 = (p_r N m (p_sm m n) i0 : Int) := by
                            show (if p_g N m (p_sm m n) n k i0 = true then (-1 : Int) else _) = _
                            rw [hg0]; rfl
                          rw [e5, e6] at hmax
                          omega
                      have hstep : upd (fun i => if i < n then nI (p_q N m (p_sm m n) i + if p_g N m (p_sm m n) n k i = true then 1 else 0) else 0) (p_gb (p_val N m (p_sm m n) (p_g N m (p_sm m n) n k)) n) ((fun i => if i < n then nI (p_q N m (p_sm m n) i + if p_g N m (p_sm m n) n k i = true then 1 else 0) else 0) (p_gb (p_val N m (p_sm m n) (p_g N m (p_sm m n) n k)) n) + 1) = (fun i => if i < n then nI (p_q N m (p_sm m n) i + if p_g N m (p_sm m n) n (k + 1) i = true then 1 else 0) else 0) := by
                        funext i
                        by_cases e : i = p_gb (p_val N m (p_sm m n) (p_g N m (p_sm m n) n k)) n
                        · rw [← e] at hgj hjn ⊢
                          rw [pk_us]
                          have e2 : p_g N m (p_sm m n) n (k + 1) i = true := by show (decide (i = _) || _) = true; rw [← e]; simp
                          simp only [hjn, if_true, hgj, e2, if_pos]
                          rw [z_up]
                          simp
                        · rw [pk_un e]
                          have e2 : p_g N m (p_sm m n) n (k + 1) i = p_g N m (p_sm m n) n k i := by
                            show (decide (i = p_gb (p_val N m (p_sm m n) (p_g N m (p_sm m n) n k)) n) || p_g N m (p_sm m n) n k i) = _
                            rw [decide_eq_false e]; rfl
                          simp only [e2]
                      refine z_iload h dX6_divide_131 rfl ?_
                      refine z_iload_n h dX6_divide_133 rfl ?_
                      refine z_icmp_ge h dX6_divide_134 171 (by decide) (fun c_7 => ?_) (fun c_7 => ?_)
                      · skip
                        exact absurd ((nI_leI (by omega) (by omega)).mp c_7) (by omega)
                      · skip
                        refine z_aload_n h dX6_divide_137 rfl ?_
                        refine z_iload_n h dX6_divide_138 rfl ?_
                        refine z_callV h dX6_divide_139 (fun _ _ q => z_okv_no he q) (fun _ _ _ t q => absurd q (he t)) (m_X6_greatestRest _ hR n (p_val N m (p_sm m n) (p_g N m (p_sm m n) n k)) h1 h2 (fun i hi => by rw [r_cf_self]; exact hlf i hi)) ym_X6_greatestRest mlX6_31 im_X6_greatestRest (ci := 6) rfl se_X6_greatestRest icX6 rfl (r_p.ob hR (by first | assumption | exact Nat.le_of_ble_eq_true rfl) (by first | rfl | assumption | exact tx_2 (by first | assumption | omega) | exact tx_18 (by first | assumption | omega) | exact tx_19 (by first | assumption | omega) | exact tx_20 (by first | assumption | omega) | exact tx_27 (by first | assumption | omega) | exact tx_28 (by first | assumption | omega) | exact tx_30 (by first | assumption | omega) | exact tx_31 (by first | assumption | omega) | exact tx_32 (by first | assumption | omega) | exact tx_33 (by first | assumption | omega))) rfl (by decide) (Nat.le_of_ble_eq_true rfl) ?_
                        rintro q1 w1 ⟨rfl, rfl⟩
                        refine z_istore h dX6_divide_142 (by rw [hn]; decide) ?_
                        refine z_aload_n h dX6_divide_144 rfl ?_
                        refine y_getr h dX6_divide_145 hR flX6_9 (by first | assumption | exact Nat.le_of_ble_eq_true rfl) (by first | rfl | assumption | exact tx_2 (by first | assumption | omega) | exact tx_18 (by first | assumption | omega) | exact tx_19 (by first | assumption | omega) | exact tx_20 (by first | assumption | omega) | exact tx_27 (by first | assumption | omega) | exact tx_28 (by first | assumption | omega) | exact tx_30 (by first | assumption | omega) | exact tx_31 (by first | assumption | omega) | exact tx_32 (by first | assumption | omega) | exact tx_33 (by first | assumption | omega)) (by rfl) ?_
                        refine z_iload h dX6_divide_148 rfl ?_
                        refine z_dup2_ir h dX6_divide_150 ?_
                        refine y_iald h dX6_divide_151 hR (by first | assumption | exact Nat.le_of_ble_eq_true rfl) (by first | rfl | assumption | exact tx_2 (by first | assumption | omega) | exact tx_18 (by first | assumption | omega) | exact tx_19 (by first | assumption | omega) | exact tx_20 (by first | assumption | omega) | exact tx_27 (by first | assumption | omega) | exact tx_28 (by first | assumption | omega) | exact tx_30 (by first | assumption | omega) | exact tx_31 (by first | assumption | omega) | exact tx_32 (by first | assumption | omega) | exact tx_33 (by first | assumption | omega)) (by first | assumption | exact z_ixn (by omega) (by omega)) ?_
                        refine z_iconst (v := 1) h dX6_divide_152 (by decide) ?_
                        refine z_iadd h dX6_divide_153 ?_
                        refine y_iast h dX6_divide_154 hR (by first | assumption | exact Nat.le_of_ble_eq_true rfl) (by first | rfl | assumption | exact tx_2 (by first | assumption | omega) | exact tx_18 (by first | assumption | omega) | exact tx_19 (by first | assumption | omega) | exact tx_20 (by first | assumption | omega) | exact tx_27 (by first | assumption | omega) | exact tx_28 (by first | assumption | omega) | exact tx_30 (by first | assumption | omega) | exact tx_31 (by first | assumption | omega) | exact tx_32 (by first | assumption | omega) | exact tx_33 (by first | assumption | omega)) (by first | assumption | exact z_ixn (by omega) (by omega)) (fun w hR => ?_)
                        refine z_aload_n h dX6_divide_155 rfl ?_
                        refine y_getr h dX6_divide_156 hR flX6_15 (by first | assumption | exact Nat.le_of_ble_eq_true rfl) (by first | rfl | assumption | exact tx_2 (by first | assumption | omega) | exact tx_18 (by first | assumption | omega) | exact tx_19 (by first | assumption | omega) | exact tx_20 (by first | assumption | omega) | exact tx_27 (by first | assumption | omega) | exact tx_28 (by first | assumption | omega) | exact tx_30 (by first | assumption | omega) | exact tx_31 (by first | assumption | omega) | exact tx_32 (by first | assumption | omega) | exact tx_33 (by first | assumption | omega)) (by rfl) ?_
                        refine z_iload h dX6_divide_159 rfl ?_
                        refine z_ldc2 h dX6_divide_161 klX6_35 ?_
                        refine y_last h dX6_divide_164 hR (by first | assumption | exact Nat.le_of_ble_eq_true rfl) (by first | rfl | assumption | exact tx_2 (by first | assumption | omega) | exact tx_18 (by first | assumption | omega) | exact tx_19 (by first | assumption | omega) | exact tx_20 (by first | assumption | omega) | exact tx_27 (by first | assumption | omega) | exact tx_28 (by first | assumption | omega) | exact tx_30 (by first | assumption | omega) | exact tx_31 (by first | assumption | omega) | exact tx_32 (by first | assumption | omega) | exact tx_33 (by first | assumption | omega)) (by first | assumption | exact z_ixn (by omega) (by omega)) (fun w hR => ?_)
                        refine z_iinc (v := 1) h dX6_divide_165 rfl (by decide) (by rw [hn]; decide) ?_
                        refine z_goto h dX6_divide_168 124 (by decide) ?_
                        simp only [r_cs, r_cf_self, r_cf_cf] at hR
                        rw [show upd (fun i => if i < n then nI (p_q N m (p_sm m n) i + if p_g N m (p_sm m n) n k i = true then 1 else 0) else 0) (p_gb (p_val N m (p_sm m n) (p_g N m (p_sm m n) n k)) n) ((fun i => if i < n then nI (p_q N m (p_sm m n) i + if p_g N m (p_sm m n) n k i = true then 1 else 0) else 0) (p_gb (p_val N m (p_sm m n) (p_g N m (p_sm m n) n k)) n) + 1) = (fun i => if i < n then nI (p_q N m (p_sm m n) i + if p_g N m (p_sm m n) n (k + 1) i = true then 1 else 0) else 0) from hstep] at hR
                        refine z_loc [(0, vr (44, 0)), (1, vi (nI N)), (2, vr t), (3, vi (nI n)), (4, vl (lN (p_sm m n))), (6, vi (nI (p_lf N m n))), (7, vi (nI (k + 1)))] ⟨rfl, rfl, rfl, rfl, rfl, rfl, congrArg (fun z => some (vi z)) (z_up k), trivial⟩ ?_
                        exact ih_124 (k + 1) _ _ (by omega) (by omega) (fun i hi => by
                          by_cases e : i = p_gb (p_val N m (p_sm m n) (p_g N m (p_sm m n) n k)) n
                          · rw [← e, pk_uLs]
                            show (-1 : Int64).toInt = (if p_g N m (p_sm m n) n (k + 1) i = true then -1 else _)
                            rw [if_pos (by show (decide (i = _) || _) = true; rw [← e]; simp)]
                            rfl
                          · rw [pk_uLn e, hlf i hi]
                            unfold p_val
                            have e2 : p_g N m (p_sm m n) n (k + 1) i = p_g N m (p_sm m n) n k i := by
                              show (decide (i = p_gb (p_val N m (p_sm m n) (p_g N m (p_sm m n) n k)) n) || p_g N m (p_sm m n) n k i) = _
                              rw [decide_eq_false e]; rfl
                            rw [e2]) hR
                have hR0 : r_p dX (TX nb na np g) w0 (r_cf c (45, 0) (fun i => if i < n then nI (p_q N m (p_sm m n) i + if p_g N m (p_sm m n) n 0 i = true then 1 else 0) else 0)) (r_cf l (46, 0) lf) (r) w := hR
                exact z_loc [(0, vr (44, 0)), (1, vi (nI N)), (2, vr t), (3, vi (nI n)), (4, vl (lN (p_sm m n))), (6, vi (nI (p_lf N m n))), (7, vi (nI 0))] ⟨rfl, rfl, rfl, rfl, rfl, rfl, rfl, trivial⟩ (loop_124 (p_lf N m n + 1) 0 _ _ (by omega) (by omega) (fun i hi => hlf i hi) hR0)
              · skip
                have e1 : ¬ n ≤ i := fun q => c_5 ((nI_leI (by omega) (by omega)).mpr q)
                have hmi := hm i (by omega)
                have hpr : N * m i < 2 ^ 62 := Nat.lt_of_le_of_lt (Nat.mul_le_mul (Nat.le_of_lt hN) (Nat.le_of_lt hmi.1)) (by decide)
                refine z_iload_n h dX6_divide_68 rfl ?_
                refine z_i2l h dX6_divide_69 ?_
                refine z_aload_n h dX6_divide_70 rfl ?_
                refine z_iload h dX6_divide_71 rfl ?_
                refine y_iald h dX6_divide_73 hR (by first | assumption | exact Nat.le_of_ble_eq_true rfl) (by first | rfl | assumption | exact tx_2 (by first | assumption | omega) | exact tx_18 (by first | assumption | omega) | exact tx_19 (by first | assumption | omega) | exact tx_20 (by first | assumption | omega) | exact tx_27 (by first | assumption | omega) | exact tx_28 (by first | assumption | omega) | exact tx_30 (by first | assumption | omega) | exact tx_31 (by first | assumption | omega) | exact tx_32 (by first | assumption | omega) | exact tx_33 (by first | assumption | omega)) (by first | assumption | exact z_ixn (by omega) (by omega)) ?_
                refine z_i2l h dX6_divide_74 ?_
                refine z_lmul h dX6_divide_75 ?_
                refine z_tole (y := lN (N * m i)) (by rw [r_cf_ne htn, hmi.2, nI_l (by omega), nI_l hmi.1, lN_mul]) ?_
                refine z_lstore h dX6_divide_76 (by rw [hn]; decide) ?_
                refine z_aload_n h dX6_divide_78 rfl ?_
                refine y_getr h dX6_divide_79 hR flX6_9 (by first | assumption | exact Nat.le_of_ble_eq_true rfl) (by first | rfl | assumption | exact tx_2 (by first | assumption | omega) | exact tx_18 (by first | assumption | omega) | exact tx_19 (by first | assumption | omega) | exact tx_20 (by first | assumption | omega) | exact tx_27 (by first | assumption | omega) | exact tx_28 (by first | assumption | omega) | exact tx_30 (by first | assumption | omega) | exact tx_31 (by first | assumption | omega) | exact tx_32 (by first | assumption | omega) | exact tx_33 (by first | assumption | omega)) (by rfl) ?_
                refine z_iload h dX6_divide_82 rfl ?_
                refine z_lload h dX6_divide_84 rfl ?_
                refine z_lload h dX6_divide_86 rfl ?_
                refine z_ldiv h dX6_divide_88 (z_lNne hS (by omega)) ?_
                refine z_l2i h dX6_divide_89 ?_
                refine z_toe (y := nI (p_q N m (p_sm m n) i)) (by rw [pk_lDiv (by omega) hS (by omega), lN_i]; rfl) ?_
                refine y_iast h dX6_divide_90 hR (by first | assumption | exact Nat.le_of_ble_eq_true rfl) (by first | rfl | assumption | exact tx_2 (by first | assumption | omega) | exact tx_18 (by first | assumption | omega) | exact tx_19 (by first | assumption | omega) | exact tx_20 (by first | assumption | omega) | exact tx_27 (by first | assumption | omega) | exact tx_28 (by first | assumption | omega) | exact tx_30 (by first | assumption | omega) | exact tx_31 (by first | assumption | omega) | exact tx_32 (by first | assumption | omega) | exact tx_33 (by first | assumption | omega)) (by first | assumption | exact z_ixn (by omega) (by omega)) (fun w hR => ?_)
                refine z_aload_n h dX6_divide_91 rfl ?_
                refine y_getr h dX6_divide_92 hR flX6_15 (by first | assumption | exact Nat.le_of_ble_eq_true rfl) (by first | rfl | assumption | exact tx_2 (by first | assumption | omega) | exact tx_18 (by first | assumption | omega) | exact tx_19 (by first | assumption | omega) | exact tx_20 (by first | assumption | omega) | exact tx_27 (by first | assumption | omega) | exact tx_28 (by first | assumption | omega) | exact tx_30 (by first | assumption | omega) | exact tx_31 (by first | assumption | omega) | exact tx_32 (by first | assumption | omega) | exact tx_33 (by first | assumption | omega)) (by rfl) ?_
                refine z_iload h dX6_divide_95 rfl ?_
                refine z_lload h dX6_divide_97 rfl ?_
                refine z_lload h dX6_divide_99 rfl ?_
                refine z_lrem h dX6_divide_101 (z_lNne hS (by omega)) ?_
                refine z_tole (y := lN (p_r N m (p_sm m n) i)) (by rw [pk_lRem (by omega) hS (by omega)]; rfl) ?_
                refine y_last h dX6_divide_102 hR (by first | assumption | exact Nat.le_of_ble_eq_true rfl) (by first | rfl | assumption | exact tx_2 (by first | assumption | omega) | exact tx_18 (by first | assumption | omega) | exact tx_19 (by first | assumption | omega) | exact tx_20 (by first | assumption | omega) | exact tx_27 (by first | assumption | omega) | exact tx_28 (by first | assumption | omega) | exact tx_30 (by first | assumption | omega) | exact tx_31 (by first | assumption | omega) | exact tx_32 (by first | assumption | omega) | exact tx_33 (by first | assumption | omega)) (by first | assumption | exact z_ixn (by omega) (by omega)) (fun w hR => ?_)
                refine z_iload h dX6_divide_103 rfl ?_
                refine z_aload_n h dX6_divide_105 rfl ?_
                refine y_getr h dX6_divide_106 hR flX6_9 (by first | assumption | exact Nat.le_of_ble_eq_true rfl) (by first | rfl | assumption | exact tx_2 (by first | assumption | omega) | exact tx_18 (by first | assumption | omega) | exact tx_19 (by first | assumption | omega) | exact tx_20 (by first | assumption | omega) | exact tx_27 (by first | assumption | omega) | exact tx_28 (by first | assumption | omega) | exact tx_30 (by first | assumption | omega) | exact tx_31 (by first | assumption | omega) | exact tx_32 (by first | assumption | omega) | exact tx_33 (by first | assumption | omega)) (by rfl) ?_
                refine z_iload h dX6_divide_109 rfl ?_
                refine y_iald h dX6_divide_111 hR (by first | assumption | exact Nat.le_of_ble_eq_true rfl) (by first | rfl | assumption | exact tx_2 (by first | assumption | omega) | exact tx_18 (by first | assumption | omega) | exact tx_19 (by first | assumption | omega) | exact tx_20 (by first | assumption | omega) | exact tx_27 (by first | assumption | omega) | exact tx_28 (by first | assumption | omega) | exact tx_30 (by first | assumption | omega) | exact tx_31 (by first | assumption | omega) | exact tx_32 (by first | assumption | omega) | exact tx_33 (by first | assumption | omega)) (by first | assumption | exact z_ixn (by omega) (by omega)) ?_
                refine z_isub h dX6_divide_112 ?_
                refine z_istore h dX6_divide_113 (by rw [hn]; decide) ?_
                refine z_iinc (v := 1) h dX6_divide_115 rfl (by decide) (by rw [hn]; decide) ?_
                refine z_goto h dX6_divide_118 62 (by decide) ?_
                simp only [r_cs, r_cf_self, r_cf_cf] at hR
                rw [z_upd_g (g := fun k => nI (p_q N m (p_sm m n) k))] at hR
                refine z_loc [(0, vr (44, 0)), (1, vi (nI N)), (2, vr t), (3, vi (nI n)), (4, vl (lN (p_sm m n))), (6, vi (nI (N - p_sm (p_q N m (p_sm m n)) (i + 1)))), (7, vi (nI (i + 1)))] ⟨rfl, rfl, rfl, rfl, rfl, congrArg (fun z => some (vi z)) ?_, congrArg (fun z => some (vi z)) (z_up i), trivial⟩ ?_
                · simp only [r_cs, r_cf_self, pk_us]
                  rw [pk_sub (by have h5 := p_sm_mono (f := p_q N m (p_sm m n)) (show i + 1 ≤ n by omega); have h6 : p_sm (p_q N m (p_sm m n)) (i + 1) = p_sm (p_q N m (p_sm m n)) i + p_q N m (p_sm m n) i := rfl; omega), Nat.sub_sub]; rfl
                exact ih_62 (i + 1) _ _ (by omega) (by omega) (fun k hk => by
                  by_cases e : k = i
                  · subst e; rw [pk_uLs, z_lN_toInt (by have := p_rlt (N := N) hS k; omega)]
                  · rw [pk_uLn e]; exact hlf k (by omega)) hR
          have hR0 : r_p dX (TX nb na np g) w0 (r_cf c (45, 0) (fun k => if k < 0 then nI (p_q N m (p_sm m n) k) else 0)) (r_cf l (46, 0) (l (46, 0))) (r) w := by
            rw [r_cf_same]
            exact hR
          exact z_loc [(0, vr (44, 0)), (1, vi (nI N)), (2, vr t), (3, vi (nI n)), (4, vl (lN (p_sm m n))), (6, vi (nI (N - p_sm (p_q N m (p_sm m n)) 0))), (7, vi (nI 0))] ⟨rfl, rfl, rfl, rfl, rfl, rfl, rfl, trivial⟩ (loop_62 (n + 1) 0 _ _ (by omega) (by omega) (fun k hk => absurd hk (Nat.not_lt_zero k)) hR0)
        · skip
          have hS : p_sm m n = 0 := by have := mt (z_cmp_gt0 (n := p_sm m n) (by omega)).mpr c_4; omega
          refine z_iconst (v := 0) h dX6_divide_54 (by decide) ?_
          exact z_zret h dX6_divide_55 hr rfl (⟨fun _ => 0, z_t hS ⟨rfl, hR⟩⟩)
      · skip
        have e1 : ¬ n ≤ i := fun q => c_1 ((nI_leI (by omega) (by omega)).mpr q)
        refine z_lload h dX6_divide_31 rfl ?_
        refine z_aload_n h dX6_divide_33 rfl ?_
        refine z_iload h dX6_divide_34 rfl ?_
        refine y_iald h dX6_divide_36 hR (by first | assumption | exact Nat.le_of_ble_eq_true rfl) (by first | rfl | assumption | exact tx_2 (by first | assumption | omega) | exact tx_18 (by first | assumption | omega) | exact tx_19 (by first | assumption | omega) | exact tx_20 (by first | assumption | omega) | exact tx_27 (by first | assumption | omega) | exact tx_28 (by first | assumption | omega) | exact tx_30 (by first | assumption | omega) | exact tx_31 (by first | assumption | omega) | exact tx_32 (by first | assumption | omega) | exact tx_33 (by first | assumption | omega)) (by first | assumption | exact z_ixn (by omega) (by omega)) ?_
        refine z_i2l h dX6_divide_37 ?_
        refine z_ladd h dX6_divide_38 ?_
        refine z_lstore h dX6_divide_39 (by rw [hn]; decide) ?_
        refine z_iinc (v := 1) h dX6_divide_41 rfl (by decide) (by rw [hn]; decide) ?_
        refine z_goto h dX6_divide_44 25 (by decide) ?_
        refine z_loc [(0, vr (44, 0)), (1, vi (nI N)), (2, vr t), (3, vi (nI n)), (4, vl (lN (p_sm m (i + 1)))), (6, vi (nI (i + 1)))] ⟨rfl, rfl, rfl, rfl, congrArg (fun z => some (vl z)) ?_, congrArg (fun z => some (vi z)) (z_up i), trivial⟩ ?_
        · rw [r_cf_ne htn, (hm i (by omega)).2, nI_l (hm i (by omega)).1, lN_add]; rfl
        exact ih_25 (i + 1) (by omega) (by omega)
  exact z_loc [(0, vr (44, 0)), (1, vi (nI N)), (2, vr t), (3, vi (nI n)), (4, vl 0), (6, vi 0)] ⟨rfl, rfl, rfl, rfl, rfl, rfl, trivial⟩ (loop_25 (n + 1) 0 (by omega) (by omega))
def ptt (N : Nat) (m : Nat → Nat) (n i : Nat) : Nat := if p_sm m n = 0 then 0 else part N m n i
theorem r_cf_mid {α : Type} {a : z_T → α} {t u : z_T} {f f' g : α} (h : z_eq u t = false) : r_cf (r_cf (r_cf a t f) u g) t f' = r_cf (r_cf a t f') u g := by
  rw [r_cf_comm h, r_cf_cf, r_cf_comm]
  cases e : z_eq t u with
  | false => rfl
  | true => rw [z_eq_iff.mp e, z_eq_self] at h; cases h
theorem z_neq {a b : z_T} (h : z_eq a b = false) : a ≠ b := fun e => by rw [e, z_eq_self] at h; cases h
theorem z_upd_h {g f : Nat → Int32} {i : Nat} {x : Int32} (hx : x = g i) : upd (fun k => if k < i then g k else f k) i x = fun k => if k < i + 1 then g k else f k := by
  subst hx
  funext k
  simp only [upd]
  by_cases h : k = i
  · subst h; simp
  · by_cases h2 : k < i
    · simp [h, h2, show k < i + 1 by omega]
    · simp [h, h2, show ¬ k < i + 1 by omega]
set_option maxHeartbeats 4000000 in
set_option maxRecDepth 100000 in
theorem m_X6_carry (G : z_G) {nb na np g : Nat} {w0 w : z_w} {c : r_c} {l : r_l} {r : r_r} (hR : r_p dX (TX nb na np g) w0 c l r w) (tf tt : z_T) (n N : Nat) (m : Nat → Nat) (hDf : dX tf) (hTf : TX nb na np g tf = some (s_i n)) (hDt : dX tt) (hTt : TX nb na np g tt = some (s_i n)) (hf5 : z_eq tf (45, 0) = false) (ht5 : z_eq tt (45, 0) = false) (hft : z_eq tf tt = false) (h1 : 1 ≤ n) (h2 : n ≤ 12) (hN : N < 2 ^ 22) (hm : ∀ i, i < n → m i < 2 ^ 31 ∧ c tf i = nI (m i)) : z_M G yX6_carry cX6_carry 5 none 3 (0) (0) [vr (44, 0), vi (nI N), vr tf, vr tt] w (fun q w1 => q = none ∧ ∃ sf lf, r_p dX (TX nb na np g) w0 (r_cf (r_cf (r_cf c (45, 0) sf) tf (fun k => c tf k - nI (ptt N m n k))) tt (fun k => c tt k + nI (ptt N m n k))) (r_cf l (46, 0) lf) (r) w1) := by
  refine z_met ym_X6_carry (by decide) ⟨Nat.le_of_ble_eq_true rfl, Nat.le_of_ble_eq_true rfl⟩ (fun X hG hn hmc hms hin h hr => ?_)
  have he := hr.2.2.2.2.2.1
  have nf5 := z_neq hf5
  have nt5 := z_neq ht5
  have nft := z_neq hft
  have ntf : tt ≠ tf := Ne.symm nft
  have n5f : (45, 0) ≠ tf := Ne.symm nf5
  have n5t : (45, 0) ≠ tt := Ne.symm nt5
  refine z_aload_n h dX6_carry_0 rfl ?_
  refine z_iload_n h dX6_carry_1 rfl ?_
  refine z_aload_n h dX6_carry_2 rfl ?_
  refine z_callV h dX6_carry_3 (fun _ _ q => z_okv_no he q) (fun _ _ _ t q => absurd q (he t)) (m_X6_divide _ hR tf n N m hDf hTf hf5 h1 h2 hN hm) ym_X6_divide mlX6_37 im_X6_divide (ci := 6) rfl se_X6_divide icX6 rfl (r_p.ob hR (by first | assumption | exact Nat.le_of_ble_eq_true rfl) (by first | rfl | assumption | exact tx_2 (by first | assumption | omega) | exact tx_18 (by first | assumption | omega) | exact tx_19 (by first | assumption | omega) | exact tx_20 (by first | assumption | omega) | exact tx_27 (by first | assumption | omega) | exact tx_28 (by first | assumption | omega) | exact tx_30 (by first | assumption | omega) | exact tx_31 (by first | assumption | omega) | exact tx_32 (by first | assumption | omega) | exact tx_33 (by first | assumption | omega))) rfl (by decide) (Nat.le_of_ble_eq_true rfl) ?_
  rintro q1 w ⟨lf0, hq⟩
  obtain ⟨x, sf, lf, hx, hsf, hR⟩ : ∃ x sf lf, q1 = some (vi x) ∧ (∀ i, i < n → sf i = nI (ptt N m n i)) ∧ r_p dX (TX nb na np g) w0 (r_cf c (45, 0) sf) (r_cf l (46, 0) lf) (r) w := by
    by_cases hS : p_sm m n = 0
    · rw [if_pos hS] at hq
      refine ⟨0, fun _ => 0, l (46, 0), hq.1, fun i _ => ?_, by rw [r_cf_same]; exact hq.2⟩
      unfold ptt
      rw [if_pos hS]
      rfl
    · rw [if_neg hS] at hq
      refine ⟨1, _, lf0, hq.1, fun i hi => ?_, hq.2⟩
      unfold ptt
      rw [if_neg hS, if_pos hi]
  subst hx
  refine z_pop_i h dX6_carry_6 ?_
  refine z_iconst (v := 0) h dX6_carry_7 (by decide) ?_
  refine z_istore h dX6_carry_8 (by rw [hn]; decide) ?_
  have loop_10 : ∀ (n_ : Nat) (i : Nat) (w1 : z_w), i ≤ n → n + 1 ≤ i + n_ → r_p dX (TX nb na np g) w0 (r_cf (r_cf (r_cf c (45, 0) sf) tf (fun k => if k < i then c tf k - nI (ptt N m n k) else c tf k)) tt (fun k => if k < i then c tt k + nI (ptt N m n k) else c tt k)) (r_cf l (46, 0) lf) (r) w1 → z_V X 0 0 w1 10 [(0, vr (44, 0)), (1, vi (nI N)), (2, vr tf), (3, vr tt), (4, vi (nI i))] [] := by
    intro n_
    induction n_ with
    | zero => intros; omega
    | succ n_ ih_10 =>
      intro i w hi hN2 hR
      refine z_iload h dX6_carry_10 rfl ?_
      refine z_aload_n h dX6_carry_12 rfl ?_
      refine y_len h dX6_carry_13 hR (by first | assumption | exact Nat.le_of_ble_eq_true rfl) (by first | rfl | assumption | exact tx_2 (by first | assumption | omega) | exact tx_18 (by first | assumption | omega) | exact tx_19 (by first | assumption | omega) | exact tx_20 (by first | assumption | omega) | exact tx_27 (by first | assumption | omega) | exact tx_28 (by first | assumption | omega) | exact tx_30 (by first | assumption | omega) | exact tx_31 (by first | assumption | omega) | exact tx_32 (by first | assumption | omega) | exact tx_33 (by first | assumption | omega)) (by rfl) ?_
      refine z_icmp_ge h dX6_carry_14 68 (by decide) (fun c_1 => ?_) (fun c_1 => ?_)
      · skip
        have e1 : n ≤ i := (nI_leI (by omega) (by omega)).mp c_1
        have e2 : i = n := by omega
        subst e2
        refine y_cong (f := fun k => c tf k - nI (ptt N m i k)) hR hDf hTf (fun j hj => by rw [r_cf_ne nft, r_cf_self]; simp [hj]) (fun w hR => ?_)
        refine y_cong (f := fun k => c tt k + nI (ptt N m i k)) hR hDt hTt (fun j hj => by rw [r_cf_ne ntf, r_cf_self]; simp [hj]) (fun w hR => ?_)
        rw [r_cf_mid (z_eq_ne ntf), r_cf_cf] at hR
        exact z_vret h dX6_carry_68 hr (⟨rfl, sf, lf, hR⟩)
      · skip
        have e1 : ¬ n ≤ i := fun q => c_1 ((nI_leI (by omega) (by omega)).mpr q)
        refine z_iload h dX6_carry_17 rfl ?_
        refine z_aload_n h dX6_carry_19 rfl ?_
        refine y_len h dX6_carry_20 hR (by first | assumption | exact Nat.le_of_ble_eq_true rfl) (by first | rfl | assumption | exact tx_2 (by first | assumption | omega) | exact tx_18 (by first | assumption | omega) | exact tx_19 (by first | assumption | omega) | exact tx_20 (by first | assumption | omega) | exact tx_27 (by first | assumption | omega) | exact tx_28 (by first | assumption | omega) | exact tx_30 (by first | assumption | omega) | exact tx_31 (by first | assumption | omega) | exact tx_32 (by first | assumption | omega) | exact tx_33 (by first | assumption | omega)) (by rfl) ?_
        refine z_icmp_ge h dX6_carry_21 68 (by decide) (fun c_2 => ?_) (fun c_2 => ?_)
        · skip
          exact absurd ((nI_leI (by omega) (by omega)).mp c_2) (by omega)
        · skip
          refine z_iload h dX6_carry_24 rfl ?_
          refine z_aload_n h dX6_carry_26 rfl ?_
          refine y_getr h dX6_carry_27 hR flX6_9 (by first | assumption | exact Nat.le_of_ble_eq_true rfl) (by first | rfl | assumption | exact tx_2 (by first | assumption | omega) | exact tx_18 (by first | assumption | omega) | exact tx_19 (by first | assumption | omega) | exact tx_20 (by first | assumption | omega) | exact tx_27 (by first | assumption | omega) | exact tx_28 (by first | assumption | omega) | exact tx_30 (by first | assumption | omega) | exact tx_31 (by first | assumption | omega) | exact tx_32 (by first | assumption | omega) | exact tx_33 (by first | assumption | omega)) (by rfl) ?_
          refine y_len h dX6_carry_30 hR (by first | assumption | exact Nat.le_of_ble_eq_true rfl) (by first | rfl | assumption | exact tx_2 (by first | assumption | omega) | exact tx_18 (by first | assumption | omega) | exact tx_19 (by first | assumption | omega) | exact tx_20 (by first | assumption | omega) | exact tx_27 (by first | assumption | omega) | exact tx_28 (by first | assumption | omega) | exact tx_30 (by first | assumption | omega) | exact tx_31 (by first | assumption | omega) | exact tx_32 (by first | assumption | omega) | exact tx_33 (by first | assumption | omega)) (by rfl) ?_
          refine z_icmp_ge h dX6_carry_31 68 (by decide) (fun c_3 => ?_) (fun c_3 => ?_)
          · skip
            exact absurd ((nI_leI (by omega) (by omega)).mp c_3) (by omega)
          · skip
            refine z_aload_n h dX6_carry_34 rfl ?_
            refine z_iload h dX6_carry_35 rfl ?_
            refine z_dup2_ir h dX6_carry_37 ?_
            refine y_iald h dX6_carry_38 hR (by first | assumption | exact Nat.le_of_ble_eq_true rfl) (by first | rfl | assumption | exact tx_2 (by first | assumption | omega) | exact tx_18 (by first | assumption | omega) | exact tx_19 (by first | assumption | omega) | exact tx_20 (by first | assumption | omega) | exact tx_27 (by first | assumption | omega) | exact tx_28 (by first | assumption | omega) | exact tx_30 (by first | assumption | omega) | exact tx_31 (by first | assumption | omega) | exact tx_32 (by first | assumption | omega) | exact tx_33 (by first | assumption | omega)) (by first | assumption | exact z_ixn (by omega) (by omega)) ?_
            refine z_aload_n h dX6_carry_39 rfl ?_
            refine y_getr h dX6_carry_40 hR flX6_9 (by first | assumption | exact Nat.le_of_ble_eq_true rfl) (by first | rfl | assumption | exact tx_2 (by first | assumption | omega) | exact tx_18 (by first | assumption | omega) | exact tx_19 (by first | assumption | omega) | exact tx_20 (by first | assumption | omega) | exact tx_27 (by first | assumption | omega) | exact tx_28 (by first | assumption | omega) | exact tx_30 (by first | assumption | omega) | exact tx_31 (by first | assumption | omega) | exact tx_32 (by first | assumption | omega) | exact tx_33 (by first | assumption | omega)) (by rfl) ?_
            refine z_iload h dX6_carry_43 rfl ?_
            refine y_iald h dX6_carry_45 hR (by first | assumption | exact Nat.le_of_ble_eq_true rfl) (by first | rfl | assumption | exact tx_2 (by first | assumption | omega) | exact tx_18 (by first | assumption | omega) | exact tx_19 (by first | assumption | omega) | exact tx_20 (by first | assumption | omega) | exact tx_27 (by first | assumption | omega) | exact tx_28 (by first | assumption | omega) | exact tx_30 (by first | assumption | omega) | exact tx_31 (by first | assumption | omega) | exact tx_32 (by first | assumption | omega) | exact tx_33 (by first | assumption | omega)) (by first | assumption | exact z_ixn (by omega) (by omega)) ?_
            refine z_isub h dX6_carry_46 ?_
            refine y_iast h dX6_carry_47 hR (by first | assumption | exact Nat.le_of_ble_eq_true rfl) (by first | rfl | assumption | exact tx_2 (by first | assumption | omega) | exact tx_18 (by first | assumption | omega) | exact tx_19 (by first | assumption | omega) | exact tx_20 (by first | assumption | omega) | exact tx_27 (by first | assumption | omega) | exact tx_28 (by first | assumption | omega) | exact tx_30 (by first | assumption | omega) | exact tx_31 (by first | assumption | omega) | exact tx_32 (by first | assumption | omega) | exact tx_33 (by first | assumption | omega)) (by first | assumption | exact z_ixn (by omega) (by omega)) (fun w hR => ?_)
            refine z_aload_n h dX6_carry_48 rfl ?_
            refine z_iload h dX6_carry_49 rfl ?_
            refine z_dup2_ir h dX6_carry_51 ?_
            refine y_iald h dX6_carry_52 hR (by first | assumption | exact Nat.le_of_ble_eq_true rfl) (by first | rfl | assumption | exact tx_2 (by first | assumption | omega) | exact tx_18 (by first | assumption | omega) | exact tx_19 (by first | assumption | omega) | exact tx_20 (by first | assumption | omega) | exact tx_27 (by first | assumption | omega) | exact tx_28 (by first | assumption | omega) | exact tx_30 (by first | assumption | omega) | exact tx_31 (by first | assumption | omega) | exact tx_32 (by first | assumption | omega) | exact tx_33 (by first | assumption | omega)) (by first | assumption | exact z_ixn (by omega) (by omega)) ?_
            refine z_aload_n h dX6_carry_53 rfl ?_
            refine y_getr h dX6_carry_54 hR flX6_9 (by first | assumption | exact Nat.le_of_ble_eq_true rfl) (by first | rfl | assumption | exact tx_2 (by first | assumption | omega) | exact tx_18 (by first | assumption | omega) | exact tx_19 (by first | assumption | omega) | exact tx_20 (by first | assumption | omega) | exact tx_27 (by first | assumption | omega) | exact tx_28 (by first | assumption | omega) | exact tx_30 (by first | assumption | omega) | exact tx_31 (by first | assumption | omega) | exact tx_32 (by first | assumption | omega) | exact tx_33 (by first | assumption | omega)) (by rfl) ?_
            refine z_iload h dX6_carry_57 rfl ?_
            refine y_iald h dX6_carry_59 hR (by first | assumption | exact Nat.le_of_ble_eq_true rfl) (by first | rfl | assumption | exact tx_2 (by first | assumption | omega) | exact tx_18 (by first | assumption | omega) | exact tx_19 (by first | assumption | omega) | exact tx_20 (by first | assumption | omega) | exact tx_27 (by first | assumption | omega) | exact tx_28 (by first | assumption | omega) | exact tx_30 (by first | assumption | omega) | exact tx_31 (by first | assumption | omega) | exact tx_32 (by first | assumption | omega) | exact tx_33 (by first | assumption | omega)) (by first | assumption | exact z_ixn (by omega) (by omega)) ?_
            refine z_iadd h dX6_carry_60 ?_
            refine y_iast h dX6_carry_61 hR (by first | assumption | exact Nat.le_of_ble_eq_true rfl) (by first | rfl | assumption | exact tx_2 (by first | assumption | omega) | exact tx_18 (by first | assumption | omega) | exact tx_19 (by first | assumption | omega) | exact tx_20 (by first | assumption | omega) | exact tx_27 (by first | assumption | omega) | exact tx_28 (by first | assumption | omega) | exact tx_30 (by first | assumption | omega) | exact tx_31 (by first | assumption | omega) | exact tx_32 (by first | assumption | omega) | exact tx_33 (by first | assumption | omega)) (by first | assumption | exact z_ixn (by omega) (by omega)) (fun w hR => ?_)
            refine z_iinc (v := 1) h dX6_carry_62 rfl (by decide) (by rw [hn]; decide) ?_
            refine z_goto h dX6_carry_65 10 (by decide) ?_
            simp only [r_cs, r_cf_self, r_cf_ne nft, r_cf_ne nf5, r_cf_ne nt5, r_cf_ne ntf, r_cf_ne n5f, r_cf_ne n5t] at hR
            rw [r_cf_mid (z_eq_ne ntf), r_cf_cf, z_upd_h (g := fun k => c tf k - nI (ptt N m n k)) (by rw [hsf i (by omega)]; simp), z_upd_h (g := fun k => c tt k + nI (ptt N m n k)) (by rw [hsf i (by omega)]; simp)] at hR
            refine z_loc [(0, vr (44, 0)), (1, vi (nI N)), (2, vr tf), (3, vr tt), (4, vi (nI (i + 1)))] ⟨rfl, rfl, rfl, rfl, congrArg (fun z => some (vi z)) (z_up i), trivial⟩ ?_
            exact ih_10 (i + 1) _ (by omega) (by omega) hR
  have hR0 : r_p dX (TX nb na np g) w0 (r_cf (r_cf (r_cf c (45, 0) sf) tf (fun k => if k < 0 then c tf k - nI (ptt N m n k) else c tf k)) tt (fun k => if k < 0 then c tt k + nI (ptt N m n k) else c tt k)) (r_cf l (46, 0) lf) (r) w := by
    have e1 : (fun k => if k < 0 then c tf k - nI (ptt N m n k) else c tf k) = (r_cf c (45, 0) sf) tf := by rw [r_cf_ne nf5]; funext k; simp
    have e2 : (fun k => if k < 0 then c tt k + nI (ptt N m n k) else c tt k) = (r_cf c (45, 0) sf) tt := by rw [r_cf_ne nt5]; funext k; simp
    rw [e1, e2, r_cf_same, r_cf_same]
    exact hR
  exact z_loc [(0, vr (44, 0)), (1, vi (nI N)), (2, vr tf), (3, vr tt), (4, vi (nI 0))] ⟨rfl, rfl, rfl, rfl, rfl, trivial⟩ (loop_10 (n + 1) 0 _ (by omega) (by omega) hR0)
