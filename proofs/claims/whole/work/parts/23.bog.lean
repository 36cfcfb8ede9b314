/-! the class: bog, order, the tape -/
/-- a byte of a word, with k whole bytes below it -/
def t_pc (x : Int32) (k : Nat) : Int32 := (x.toUInt32 >>> ((nI (8 * k)).toUInt32 &&& Int32.toUInt32 31)).toInt32 &&& 255
/-- the bytes of the k low pieces that are not 0, the highest first -/
def t_rs (x : Int32) : Nat → List Int32
  | 0 => []
  | k + 1 => if t_pc x k = 0 then t_rs x k else t_pc x k :: t_rs x k
def tp_ws (f : Nat → Int32) (n : Nat) : List Int32 → Nat → Int32
  | [] => f
  | p :: r => tp_ws (upd f n p) (n + 1) r
theorem t_rs_len (x : Int32) (k : Nat) : (t_rs x k).length ≤ k := by
  induction k with
  | zero => exact Nat.le_refl _
  | succ k ih =>
    rw [t_rs]
    split
    · omega
    · rw [List.length_cons]; omega
theorem t_sh (k : Nat) : nI (8 * (k + 1)) - 8 = nI (8 * k) := by
  have h : nI (8 * (k + 1)) = nI (8 * k) + 8 := by rw [show 8 * (k + 1) = 8 * k + 8 by omega, show (8 : Int32) = nI 8 from rfl, nI_add]
  rw [h, Int32.add_sub_cancel]
theorem t_sh' (k : Nat) : nI (8 * k) + -8 = nI (8 * k) - 8 := by
  rw [Int32.sub_eq_add_neg]
/-- the next state -/
def t_ad (s b : Int32) : Int32 := if b = 58 then 9 else if 48 ≤ b ∧ b ≤ 57 then s + 1 else 12
def t_af (s b : Int32) : Int32 :=
  if b = 32 then (if 2 < s ∧ s ≤ 7 then 8 else s)
  else if s = 0 ∨ s = 11 then (if b = 104 ∨ b = 109 ∨ b = 99 ∨ b = 111 then 1 else 12)
  else if s = 1 then (if b = 61 ∨ b = 60 ∨ b = 62 then 2 else 12)
  else if s = 2 then (if 48 ≤ b ∧ b ≤ 57 then 3 else 12)
  else if s = 7 ∨ s = 8 then (if b = 58 then 9 else 12)
  else if s = 9 then (if 48 ≤ b ∧ b ≤ 57 then 10 else 12)
  else if s = 10 then (if b = 59 then 11 else 12)
  else t_ad s b
/-- the state behind n bytes -/
def t_st (f : Nat → Int32) : Nat → Int32
  | 0 => 0
  | n + 1 => t_af (t_st f n) (f n)
/-- the first place at which the state breaks, if one is below n; else n -/
def t_br (f : Nat → Int32) : Nat → Nat
  | 0 => 0
  | n + 1 => if t_br f n < n then t_br f n else if t_st f (n + 1) = 12 then n else n + 1
theorem t_br_stop {f : Nat → Int32} {i : Nat} (h : t_br f i = i) (hb : t_st f (i + 1) = 12) : ∀ {n}, i < n → t_br f n = i
  | n + 1, hn => by
    rw [t_br]
    by_cases e : i = n
    · subst e; rw [if_neg (by omega), if_pos hb]
    · rw [t_br_stop h hb (n := n) (by omega), if_pos (by omega)]
theorem t_br_next {f : Nat → Int32} {i : Nat} (h : t_br f i = i) (hb : ¬ t_st f (i + 1) = 12) : t_br f (i + 1) = i + 1 := by
  rw [t_br, if_neg (by omega), if_neg hb]
set_option maxHeartbeats 4000000 in
set_option maxRecDepth 100000 in
theorem m_X11_bog (G : z_G) {nb na np g : Nat} {w0 w : z_w} {c : r_c} {l : r_l} {r : r_r} (hX : XR nb na np g w0 c l r w) (o gr re : Int32) : z_M G yX11_bog cX11_bog 4 (some .int) 3 (1) (6) [vr (0, 0), vi o, vi gr, vi re] w (fun q w1 => if nb < 12 ∧ (0 ≤ o ∧ o ≤ 100000) ∧ (0 ≤ gr ∧ gr ≤ 5000) ∧ (0 ≤ re ∧ re ≤ 20) then q = some (vi (nI nb)) ∧ r_p dX (TX (nb + 1) na np g) w0 (r_cs (r_cf c (2, nb) (fun k => if k = 0 then o else if k = 1 then gr else if k = 2 then re else if k = 3 then 0 else if k = 4 then 1000 else if k = 5 then -1 else 0)) (0, 0) 2 (nI (nb + 1))) (l) (r_cf r (1, 0) (va_up (r (1, 0)) nb (some (2, nb)))) w1 else q = some (vi (-1)) ∧ w1 = w) := by
  refine z_met ym_X11_bog (by decide) ⟨Nat.le_of_ble_eq_true rfl, Nat.le_of_ble_eq_true rfl⟩ (fun X hG hn hmc hms hin h hr => ?_)
  have he := hr.2.2.2.2.2.1
  obtain ⟨hR, hnb, hna, hnp, hg6, hc2, hc8, hc12, hr1, hr17, hr26⟩ := id hX
  refine z_less (kC' := 0 + 1) (kS' := 0 + 6) (by omega) (by omega) ?_
  refine z_aload_n h dX11_bog_0 rfl ?_
  refine y_geti h dX11_bog_1 hR flX11_87 (by first | assumption | exact Nat.le_of_ble_eq_true rfl) (by first | rfl | assumption | exact tx_2 (by first | assumption | omega) | exact tx_18 (by first | assumption | omega) | exact tx_19 (by first | assumption | omega) | exact tx_20 (by first | assumption | omega) | exact tx_27 (by first | assumption | omega) | exact tx_28 (by first | assumption | omega) | exact tx_30 (by first | assumption | omega) | exact tx_31 (by first | assumption | omega) | exact tx_32 (by first | assumption | omega) | exact tx_33 (by first | assumption | omega)) (by rfl) ?_
  rw [hc2]
  refine z_aload_n h dX11_bog_4 rfl ?_
  refine y_getr h dX11_bog_5 hR flX11_11 (by first | assumption | exact Nat.le_of_ble_eq_true rfl) (by first | rfl | assumption | exact tx_2 (by first | assumption | omega) | exact tx_18 (by first | assumption | omega) | exact tx_19 (by first | assumption | omega) | exact tx_20 (by first | assumption | omega) | exact tx_27 (by first | assumption | omega) | exact tx_28 (by first | assumption | omega) | exact tx_30 (by first | assumption | omega) | exact tx_31 (by first | assumption | omega) | exact tx_32 (by first | assumption | omega) | exact tx_33 (by first | assumption | omega)) (by rfl) ?_
  refine y_len h dX11_bog_8 hR (by first | assumption | exact Nat.le_of_ble_eq_true rfl) (by first | rfl | assumption | exact tx_2 (by first | assumption | omega) | exact tx_18 (by first | assumption | omega) | exact tx_19 (by first | assumption | omega) | exact tx_20 (by first | assumption | omega) | exact tx_27 (by first | assumption | omega) | exact tx_28 (by first | assumption | omega) | exact tx_30 (by first | assumption | omega) | exact tx_31 (by first | assumption | omega) | exact tx_32 (by first | assumption | omega) | exact tx_33 (by first | assumption | omega)) (by rfl) ?_
  refine z_icmp_ge h dX11_bog_9 43 (by decide) (fun c_1 => ?_) (fun c_1 => ?_)
  · skip
    have e1 : 12 ≤ nb := (nI_leI (a := 12) (by omega) (by omega)).mp c_1
    refine z_iconst (v := -1) h dX11_bog_43 (by decide) ?_
    exact z_iret h dX11_bog_44 hr (z_f (fun q => by omega) ⟨rfl, rfl⟩)
  · skip
    have e1 : ¬ 12 ≤ nb := fun q => c_1 ((nI_leI (a := 12) (by omega) (by omega)).mpr q)
    refine z_iload_n h dX11_bog_12 rfl ?_
    refine z_iconst (v := 0) h dX11_bog_13 (by decide) ?_
    refine z_ldc h dX11_bog_14 kcX11_91 ?_
    refine z_callS h dX11_bog_16 (fun _ _ q => z_okv_no he q) (fun _ _ _ t q => absurd q (he t)) (m_X11_within _ _ _ _ _) ym_X11_within mlX11_92 sm_X11_within rfl (by decide) (Nat.le_of_ble_eq_true rfl) ?_
    rintro q1 w1 ⟨rfl, hw1⟩
    have hw1 := hw1.symm; subst hw1
    refine z_if_eq h dX11_bog_19 43 (by decide) (fun c_2 => ?_) (fun c_2 => ?_)
    · skip
      refine z_iconst (v := -1) h dX11_bog_43 (by decide) ?_
      exact z_iret h dX11_bog_44 hr (z_f (fun q => z_bf c_2 q.2.1) ⟨rfl, rfl⟩)
    · skip
      refine z_iload_n h dX11_bog_22 rfl ?_
      refine z_iconst (v := 0) h dX11_bog_23 (by decide) ?_
      refine z_sipush (v := 5000) h dX11_bog_24 (by decide) ?_
      refine z_callS h dX11_bog_27 (fun _ _ q => z_okv_no he q) (fun _ _ _ t q => absurd q (he t)) (m_X11_within _ _ _ _ _) ym_X11_within mlX11_92 sm_X11_within rfl (by decide) (Nat.le_of_ble_eq_true rfl) ?_
      rintro q1 w1 ⟨rfl, hw1⟩
      have hw1 := hw1.symm; subst hw1
      refine z_if_eq h dX11_bog_30 43 (by decide) (fun c_3 => ?_) (fun c_3 => ?_)
      · skip
        refine z_iconst (v := -1) h dX11_bog_43 (by decide) ?_
        exact z_iret h dX11_bog_44 hr (z_f (fun q => z_bf c_3 q.2.2.1) ⟨rfl, rfl⟩)
      · skip
        refine z_iload_n h dX11_bog_33 rfl ?_
        refine z_iconst (v := 0) h dX11_bog_34 (by decide) ?_
        refine z_bipush (v := 20) h dX11_bog_35 (by decide) ?_
        refine z_callS h dX11_bog_37 (fun _ _ q => z_okv_no he q) (fun _ _ _ t q => absurd q (he t)) (m_X11_within _ _ _ _ _) ym_X11_within mlX11_92 sm_X11_within rfl (by decide) (Nat.le_of_ble_eq_true rfl) ?_
        rintro q1 w1 ⟨rfl, hw1⟩
        have hw1 := hw1.symm; subst hw1
        refine z_if_ne h dX11_bog_40 45 (by decide) (fun c_4 => ?_) (fun c_4 => ?_)
        · skip
          refine z_aload_n h dX11_bog_45 rfl ?_
          refine y_getr h dX11_bog_46 hR flX11_11 (by first | assumption | exact Nat.le_of_ble_eq_true rfl) (by first | rfl | assumption | exact tx_2 (by first | assumption | omega) | exact tx_18 (by first | assumption | omega) | exact tx_19 (by first | assumption | omega) | exact tx_20 (by first | assumption | omega) | exact tx_27 (by first | assumption | omega) | exact tx_28 (by first | assumption | omega) | exact tx_30 (by first | assumption | omega) | exact tx_31 (by first | assumption | omega) | exact tx_32 (by first | assumption | omega) | exact tx_33 (by first | assumption | omega)) (by rfl) ?_
          refine z_aload_n h dX11_bog_49 rfl ?_
          refine y_geti h dX11_bog_50 hR flX11_87 (by first | assumption | exact Nat.le_of_ble_eq_true rfl) (by first | rfl | assumption | exact tx_2 (by first | assumption | omega) | exact tx_18 (by first | assumption | omega) | exact tx_19 (by first | assumption | omega) | exact tx_20 (by first | assumption | omega) | exact tx_27 (by first | assumption | omega) | exact tx_28 (by first | assumption | omega) | exact tx_30 (by first | assumption | omega) | exact tx_31 (by first | assumption | omega) | exact tx_32 (by first | assumption | omega) | exact tx_33 (by first | assumption | omega)) (by rfl) ?_
          refine y_newo h dX11_bog_53 he hR nwX11_9 (sp := [none, none, none, none, none, none]) rfl (2, nb) (Nat.le_of_ble_eq_true rfl) (tx_2n (Nat.le_refl _)) (fun w hR => ?_)
          rw [tx_nb] at hR
          refine z_dup_r h dX11_bog_56 ?_
          refine z_iload_n h dX11_bog_57 rfl ?_
          refine z_iload_n h dX11_bog_58 rfl ?_
          refine z_iload_n h dX11_bog_59 rfl ?_
          refine z_callI h dX11_bog_60 (fun _ _ q => z_okv_no he q) (fun _ _ _ t q => absurd q (he t)) (y_X1_init _ hR nb (by omega) (by rw [r_cf_self]) o gr re) ym_X1_init mlX11_96 im_X1_init rfl (z_some_of (r_p.ob hR (Nat.le_of_ble_eq_true rfl) (tx_2 (by omega)))) rfl (by decide) (Nat.le_of_ble_eq_true rfl) ?_
          rintro q1 w ⟨rfl, hR⟩
          refine y_aast h dX11_bog_63 hR (by first | assumption | exact Nat.le_of_ble_eq_true rfl) (by first | rfl | assumption | exact tx_2 (by first | assumption | omega) | exact tx_18 (by first | assumption | omega) | exact tx_19 (by first | assumption | omega) | exact tx_20 (by first | assumption | omega) | exact tx_27 (by first | assumption | omega) | exact tx_28 (by first | assumption | omega) | exact tx_30 (by first | assumption | omega) | exact tx_31 (by first | assumption | omega) | exact tx_32 (by first | assumption | omega) | exact tx_33 (by first | assumption | omega)) rfl rfl (z_ixe (show _ = nI nb from hc2) (by omega) (by omega)) (by first | assumption | exact Nat.le_of_ble_eq_true rfl) (tx_2 (by omega)) (fun w hR => ?_)
          refine z_aload_n h dX11_bog_64 rfl ?_
          refine z_dup_r h dX11_bog_65 ?_
          refine y_geti h dX11_bog_66 hR flX11_87 (by first | assumption | exact Nat.le_of_ble_eq_true rfl) (by first | rfl | assumption | exact tx_2 (by first | assumption | omega) | exact tx_18 (by first | assumption | omega) | exact tx_19 (by first | assumption | omega) | exact tx_20 (by first | assumption | omega) | exact tx_27 (by first | assumption | omega) | exact tx_28 (by first | assumption | omega) | exact tx_30 (by first | assumption | omega) | exact tx_31 (by first | assumption | omega) | exact tx_32 (by first | assumption | omega) | exact tx_33 (by first | assumption | omega)) (by rfl) ?_
          refine z_dup_x1 h dX11_bog_69 ?_
          refine z_iconst (v := 1) h dX11_bog_70 (by decide) ?_
          refine z_iadd h dX11_bog_71 ?_
          refine z_toe (y := nI (nb + 1)) (by show c (0, 0) 2 + 1 = _; rw [hc2]; exact z_up nb) ?_
          refine y_put h dX11_bog_72 he hR flX11_87 rfl (by first | assumption | exact Nat.le_of_ble_eq_true rfl) (by first | rfl | assumption | exact tx_2 (by first | assumption | omega) | exact tx_18 (by first | assumption | omega) | exact tx_19 (by first | assumption | omega) | exact tx_20 (by first | assumption | omega) | exact tx_27 (by first | assumption | omega) | exact tx_28 (by first | assumption | omega) | exact tx_30 (by first | assumption | omega) | exact tx_31 (by first | assumption | omega) | exact tx_32 (by first | assumption | omega) | exact tx_33 (by first | assumption | omega)) (by rfl) (fun w hR => ?_)
          exact z_iret h dX11_bog_75 hr (z_t ⟨by omega, z_bt c_2, z_bt c_3, z_bt c_4⟩ ⟨by show some (vi (c (0, 0) 2)) = _; rw [hc2], by simp only [r_cf_cf] at hR; exact hR⟩)
        · skip
          refine z_iconst (v := -1) h dX11_bog_43 (by decide) ?_
          exact z_iret h dX11_bog_44 hr (z_f (fun q => z_bf c_4 q.2.2.2) ⟨rfl, rfl⟩)
set_option maxHeartbeats 4000000 in
set_option maxRecDepth 100000 in
theorem m_X5_take (G : z_G) {nb na np g : Nat} {w0 w : z_w} {c : r_c} {l : r_l} {r : r_r} (hR : r_p dX (TX nb na np g) w0 c l r w) (no : Nat) (hco : c (35, 0) 3 = nI no) (hno : no ≤ 8) (so le : Int32) : z_M G yX5_take cX5_take 3 (some .int) 1 (0) (0) [vr (35, 0), vi so, vi le] w (fun q w1 => if no < 8 then q = some (vi (nI no)) ∧ r_p dX (TX nb na np g) w0 (r_cs (r_cs (r_cs c (36, 0) no so) (37, 0) no le) (35, 0) 3 (nI (no + 1))) (l) (r) w1 else q = some (vi (-1)) ∧ w1 = w) := by
  refine z_met ym_X5_take (by decide) ⟨Nat.le_of_ble_eq_true rfl, Nat.le_of_ble_eq_true rfl⟩ (fun X hG hn hmc hms hin h hr => ?_)
  have he := hr.2.2.2.2.2.1
  refine z_aload_n h dX5_take_0 rfl ?_
  refine y_geti h dX5_take_1 hR flX5_37 (by first | assumption | exact Nat.le_of_ble_eq_true rfl) (by first | rfl | assumption | exact tx_2 (by first | assumption | omega) | exact tx_18 (by first | assumption | omega) | exact tx_19 (by first | assumption | omega) | exact tx_20 (by first | assumption | omega) | exact tx_27 (by first | assumption | omega) | exact tx_28 (by first | assumption | omega) | exact tx_30 (by first | assumption | omega) | exact tx_31 (by first | assumption | omega) | exact tx_32 (by first | assumption | omega) | exact tx_33 (by first | assumption | omega)) (by rfl) ?_
  rw [hco]
  refine z_bipush (v := 8) h dX5_take_4 (by decide) ?_
  refine z_icmp_lt h dX5_take_6 11 (by decide) (fun c_1 => ?_) (fun c_1 => ?_)
  · skip
    have e1 : no < 8 := (nI_ltI (b := 8) (by omega) (by omega)).mp c_1
    refine z_aload_n h dX5_take_11 rfl ?_
    refine y_getr h dX5_take_12 hR flX5_9 (by first | assumption | exact Nat.le_of_ble_eq_true rfl) (by first | rfl | assumption | exact tx_2 (by first | assumption | omega) | exact tx_18 (by first | assumption | omega) | exact tx_19 (by first | assumption | omega) | exact tx_20 (by first | assumption | omega) | exact tx_27 (by first | assumption | omega) | exact tx_28 (by first | assumption | omega) | exact tx_30 (by first | assumption | omega) | exact tx_31 (by first | assumption | omega) | exact tx_32 (by first | assumption | omega) | exact tx_33 (by first | assumption | omega)) (by rfl) ?_
    refine z_aload_n h dX5_take_15 rfl ?_
    refine y_geti h dX5_take_16 hR flX5_37 (by first | assumption | exact Nat.le_of_ble_eq_true rfl) (by first | rfl | assumption | exact tx_2 (by first | assumption | omega) | exact tx_18 (by first | assumption | omega) | exact tx_19 (by first | assumption | omega) | exact tx_20 (by first | assumption | omega) | exact tx_27 (by first | assumption | omega) | exact tx_28 (by first | assumption | omega) | exact tx_30 (by first | assumption | omega) | exact tx_31 (by first | assumption | omega) | exact tx_32 (by first | assumption | omega) | exact tx_33 (by first | assumption | omega)) (by rfl) ?_
    refine z_iload_n h dX5_take_19 rfl ?_
    refine y_iast h dX5_take_20 hR (by first | assumption | exact Nat.le_of_ble_eq_true rfl) (by first | rfl | assumption | exact tx_2 (by first | assumption | omega) | exact tx_18 (by first | assumption | omega) | exact tx_19 (by first | assumption | omega) | exact tx_20 (by first | assumption | omega) | exact tx_27 (by first | assumption | omega) | exact tx_28 (by first | assumption | omega) | exact tx_30 (by first | assumption | omega) | exact tx_31 (by first | assumption | omega) | exact tx_32 (by first | assumption | omega) | exact tx_33 (by first | assumption | omega)) (z_ixe (show _ = nI no from hco) (by omega) (by omega)) (fun w hR => ?_)
    refine z_aload_n h dX5_take_21 rfl ?_
    refine y_getr h dX5_take_22 hR flX5_15 (by first | assumption | exact Nat.le_of_ble_eq_true rfl) (by first | rfl | assumption | exact tx_2 (by first | assumption | omega) | exact tx_18 (by first | assumption | omega) | exact tx_19 (by first | assumption | omega) | exact tx_20 (by first | assumption | omega) | exact tx_27 (by first | assumption | omega) | exact tx_28 (by first | assumption | omega) | exact tx_30 (by first | assumption | omega) | exact tx_31 (by first | assumption | omega) | exact tx_32 (by first | assumption | omega) | exact tx_33 (by first | assumption | omega)) (by rfl) ?_
    refine z_aload_n h dX5_take_25 rfl ?_
    refine y_geti h dX5_take_26 hR flX5_37 (by first | assumption | exact Nat.le_of_ble_eq_true rfl) (by first | rfl | assumption | exact tx_2 (by first | assumption | omega) | exact tx_18 (by first | assumption | omega) | exact tx_19 (by first | assumption | omega) | exact tx_20 (by first | assumption | omega) | exact tx_27 (by first | assumption | omega) | exact tx_28 (by first | assumption | omega) | exact tx_30 (by first | assumption | omega) | exact tx_31 (by first | assumption | omega) | exact tx_32 (by first | assumption | omega) | exact tx_33 (by first | assumption | omega)) (by rfl) ?_
    refine z_iload_n h dX5_take_29 rfl ?_
    refine y_iast h dX5_take_30 hR (by first | assumption | exact Nat.le_of_ble_eq_true rfl) (by first | rfl | assumption | exact tx_2 (by first | assumption | omega) | exact tx_18 (by first | assumption | omega) | exact tx_19 (by first | assumption | omega) | exact tx_20 (by first | assumption | omega) | exact tx_27 (by first | assumption | omega) | exact tx_28 (by first | assumption | omega) | exact tx_30 (by first | assumption | omega) | exact tx_31 (by first | assumption | omega) | exact tx_32 (by first | assumption | omega) | exact tx_33 (by first | assumption | omega)) (z_ixe (show _ = nI no from hco) (by omega) (by omega)) (fun w hR => ?_)
    refine z_aload_n h dX5_take_31 rfl ?_
    refine z_dup_r h dX5_take_32 ?_
    refine y_geti h dX5_take_33 hR flX5_37 (by first | assumption | exact Nat.le_of_ble_eq_true rfl) (by first | rfl | assumption | exact tx_2 (by first | assumption | omega) | exact tx_18 (by first | assumption | omega) | exact tx_19 (by first | assumption | omega) | exact tx_20 (by first | assumption | omega) | exact tx_27 (by first | assumption | omega) | exact tx_28 (by first | assumption | omega) | exact tx_30 (by first | assumption | omega) | exact tx_31 (by first | assumption | omega) | exact tx_32 (by first | assumption | omega) | exact tx_33 (by first | assumption | omega)) (by rfl) ?_
    refine z_dup_x1 h dX5_take_36 ?_
    refine z_iconst (v := 1) h dX5_take_37 (by decide) ?_
    refine z_iadd h dX5_take_38 ?_
    refine z_toe (y := nI (no + 1)) (by show c (35, 0) 3 + 1 = _; rw [hco]; exact z_up no) ?_
    refine y_put h dX5_take_39 he hR flX5_37 rfl (by first | assumption | exact Nat.le_of_ble_eq_true rfl) (by first | rfl | assumption | exact tx_2 (by first | assumption | omega) | exact tx_18 (by first | assumption | omega) | exact tx_19 (by first | assumption | omega) | exact tx_20 (by first | assumption | omega) | exact tx_27 (by first | assumption | omega) | exact tx_28 (by first | assumption | omega) | exact tx_30 (by first | assumption | omega) | exact tx_31 (by first | assumption | omega) | exact tx_32 (by first | assumption | omega) | exact tx_33 (by first | assumption | omega)) (by rfl) (fun w hR => ?_)
    exact z_iret h dX5_take_42 hr (z_t e1 ⟨by show some (vi (c (35, 0) 3)) = _; rw [hco], hR⟩)
  · skip
    have e1 : ¬ no < 8 := fun q => c_1 ((nI_ltI (b := 8) (by omega) (by omega)).mpr q)
    refine z_iconst (v := -1) h dX5_take_9 (by decide) ?_
    exact z_iret h dX5_take_10 hr (z_f e1 ⟨rfl, rfl⟩)
set_option maxHeartbeats 4000000 in
set_option maxRecDepth 100000 in
theorem m_X11_order (G : z_G) {nb na np g : Nat} {w0 w : z_w} {c : r_c} {l : r_l} {r : r_r} (hX : XR nb na np g w0 c l r w) (no : Nat) (hco : c (35, 0) 3 = nI no) (hno : no ≤ 8) (so le : Int32) : z_M G yX11_order cX11_order 3 (some .int) 2 (0) (0) [vr (0, 0), vi so, vi le] w (fun q w1 => if (0 ≤ so ∧ so ≤ 2) ∧ (0 ≤ le ∧ le ≤ 100000) ∧ no < 8 then q = some (vi (nI no)) ∧ r_p dX (TX nb na np g) w0 (r_cs (r_cs (r_cs c (36, 0) no so) (37, 0) no le) (35, 0) 3 (nI (no + 1))) (l) (r) w1 else q = some (vi (-1)) ∧ w1 = w) := by
  refine z_met ym_X11_order (by decide) ⟨Nat.le_of_ble_eq_true rfl, Nat.le_of_ble_eq_true rfl⟩ (fun X hG hn hmc hms hin h hr => ?_)
  have he := hr.2.2.2.2.2.1
  obtain ⟨hR, hnb, hna, hnp, hg6, hc2, hc8, hc12, hr1, hr17, hr26⟩ := id hX
  refine z_iload_n h dX11_order_0 rfl ?_
  refine z_iconst (v := 0) h dX11_order_1 (by decide) ?_
  refine z_iconst (v := 2) h dX11_order_2 (by decide) ?_
  refine z_callS h dX11_order_3 (fun _ _ q => z_okv_no he q) (fun _ _ _ t q => absurd q (he t)) (m_X11_within _ _ _ _ _) ym_X11_within mlX11_92 sm_X11_within rfl (by decide) (Nat.le_of_ble_eq_true rfl) ?_
  rintro q1 w1 ⟨rfl, hw1⟩
  have hw1 := hw1.symm; subst hw1
  refine z_if_eq h dX11_order_6 19 (by decide) (fun c_1 => ?_) (fun c_1 => ?_)
  · skip
    refine z_iconst (v := -1) h dX11_order_19 (by decide) ?_
    exact z_iret h dX11_order_20 hr (z_f (fun q => z_bf c_1 q.1) ⟨rfl, rfl⟩)
  · skip
    refine z_iload_n h dX11_order_9 rfl ?_
    refine z_iconst (v := 0) h dX11_order_10 (by decide) ?_
    refine z_ldc h dX11_order_11 kcX11_91 ?_
    refine z_callS h dX11_order_13 (fun _ _ q => z_okv_no he q) (fun _ _ _ t q => absurd q (he t)) (m_X11_within _ _ _ _ _) ym_X11_within mlX11_92 sm_X11_within rfl (by decide) (Nat.le_of_ble_eq_true rfl) ?_
    rintro q1 w1 ⟨rfl, hw1⟩
    have hw1 := hw1.symm; subst hw1
    refine z_if_ne h dX11_order_16 21 (by decide) (fun c_2 => ?_) (fun c_2 => ?_)
    · skip
      refine z_aload_n h dX11_order_21 rfl ?_
      refine y_getr h dX11_order_22 hR flX11_72 (by first | assumption | exact Nat.le_of_ble_eq_true rfl) (by first | rfl | assumption | exact tx_2 (by first | assumption | omega) | exact tx_18 (by first | assumption | omega) | exact tx_19 (by first | assumption | omega) | exact tx_20 (by first | assumption | omega) | exact tx_27 (by first | assumption | omega) | exact tx_28 (by first | assumption | omega) | exact tx_30 (by first | assumption | omega) | exact tx_31 (by first | assumption | omega) | exact tx_32 (by first | assumption | omega) | exact tx_33 (by first | assumption | omega)) (by rfl) ?_
      refine z_iload_n h dX11_order_25 rfl ?_
      refine z_iload_n h dX11_order_26 rfl ?_
      refine z_callV h dX11_order_27 (fun _ _ q => z_okv_no he q) (fun _ _ _ t q => absurd q (he t)) (m_X5_take _ hR no hco hno so le) ym_X5_take mlX11_341 im_X5_take (ci := 5) rfl se_X5_take icX5 rfl (r_p.ob hR (by first | assumption | exact Nat.le_of_ble_eq_true rfl) (by first | rfl | assumption | exact tx_2 (by first | assumption | omega) | exact tx_18 (by first | assumption | omega) | exact tx_19 (by first | assumption | omega) | exact tx_20 (by first | assumption | omega) | exact tx_27 (by first | assumption | omega) | exact tx_28 (by first | assumption | omega) | exact tx_30 (by first | assumption | omega) | exact tx_31 (by first | assumption | omega) | exact tx_32 (by first | assumption | omega) | exact tx_33 (by first | assumption | omega))) rfl (by decide) (Nat.le_of_ble_eq_true rfl) ?_
      rintro q1 w1 hz
      obtain ⟨y, hy, hpo⟩ : ∃ y, q1 = some (vi y) ∧ (fun q w1 => if (0 ≤ so ∧ so ≤ 2) ∧ (0 ≤ le ∧ le ≤ 100000) ∧ no < 8 then q = some (vi (nI no)) ∧ r_p dX (TX nb na np g) w0 (r_cs (r_cs (r_cs c (36, 0) no so) (37, 0) no le) (35, 0) 3 (nI (no + 1))) (l) (r) w1 else q = some (vi (-1)) ∧ w1 = w) (some (vi y)) w1 :=
        z_ifq hz (fun h1 h2 => ⟨_, h2.1, z_t ⟨z_bt c_1, z_bt c_2, h1⟩ ⟨rfl, h2.2⟩⟩) (fun h1 h2 => ⟨_, h2.1, z_f (fun q => h1 q.2.2) ⟨rfl, h2.2⟩⟩)
      subst hy
      exact z_iret h dX11_order_30 hr (hpo)
    · skip
      refine z_iconst (v := -1) h dX11_order_19 (by decide) ?_
      exact z_iret h dX11_order_20 hr (z_f (fun q => z_bf c_2 q.2.1) ⟨rfl, rfl⟩)
set_option maxHeartbeats 4000000 in
set_option maxRecDepth 100000 in
theorem m_X9_bytesIn (G : z_G) (w : z_w) (x : Int32) : z_M G yX9_bytesIn cX9_bytesIn 3 (some .int) 1 (0) (0) [vi x] w (fun q w1 => q = some (vi (nI (t_rs x 4).length)) ∧ w1 = w) := by
  refine z_met ym_X9_bytesIn (by decide) ⟨Nat.le_of_ble_eq_true rfl, Nat.le_of_ble_eq_true rfl⟩ (fun X hG hn hmc hms hin h hr => ?_)
  have he := hr.2.2.2.2.2.1
  refine z_iconst (v := 0) h dX9_bytesIn_0 (by decide) ?_
  refine z_istore_n h dX9_bytesIn_1 (by rw [hn]; decide) ?_
  refine z_bipush (v := 24) h dX9_bytesIn_2 (by decide) ?_
  refine z_istore_n h dX9_bytesIn_4 (by rw [hn]; decide) ?_
  have loop_5 : ∀ (n_ : Nat) (k m : Nat), m + (t_rs x k).length = (t_rs x 4).length → k ≤ 4 → k + 1 ≤ n_ → z_V X 0 0 w 5 [(0, vi x), (1, vi (nI (m))), (2, vi (nI (8 * k) - 8))] [] := by
    intro n_
    induction n_ with
    | zero => intros; omega
    | succ n_ ih_5 =>
      intro k m hm hk hN
      refine z_iload_n h dX9_bytesIn_5 rfl ?_
      refine z_if_lt h dX9_bytesIn_6 28 (by decide) (fun c_1 => ?_) (fun c_1 => ?_)
      · skip
        obtain rfl : k = 0 := by
          rcases k with _ | k
          · rfl
          · rw [t_sh] at c_1; exact absurd c_1 (nI_pos (by omega))
        refine z_iload_n h dX9_bytesIn_28 rfl ?_
        exact z_iret h dX9_bytesIn_29 hr (⟨by rw [t_rs] at hm; simp only [List.length_nil, Nat.add_zero] at hm; rw [hm], rfl⟩)
      · skip
        rcases k with _ | k
        · exact absurd (by decide) c_1
        rw [t_sh]
        refine z_iload_n h dX9_bytesIn_9 rfl ?_
        refine z_iload_n h dX9_bytesIn_10 rfl ?_
        refine z_iushr h dX9_bytesIn_11 rfl ?_
        refine z_sipush (v := 255) h dX9_bytesIn_12 (by decide) ?_
        refine z_iand h dX9_bytesIn_15 ?_
        refine z_if_eq h dX9_bytesIn_16 22 (by decide) (fun c_2 => ?_) (fun c_2 => ?_)
        · skip
          refine z_iinc (v := -8) h dX9_bytesIn_22 rfl (by decide) (by rw [hn]; decide) ?_
          refine z_goto h dX9_bytesIn_25 5 (by decide) ?_
          refine z_loc [(0, vi x), (1, vi (nI (m))), (2, vi (nI (8 * k) - 8))] ⟨rfl, rfl, congrArg (fun z => some (vi z)) (t_sh' k), trivial⟩ ?_
          exact ih_5 k _ (by rw [t_rs, if_pos (show t_pc x k = 0 from c_2)] at hm; exact hm) (by omega) (by omega)
        · skip
          refine z_iinc (v := 1) h dX9_bytesIn_19 rfl (by decide) (by rw [hn]; decide) ?_
          refine z_iinc (v := -8) h dX9_bytesIn_22 rfl (by decide) (by rw [hn]; decide) ?_
          refine z_goto h dX9_bytesIn_25 5 (by decide) ?_
          refine z_loc [(0, vi x), (1, vi (nI ((m + 1)))), (2, vi (nI (8 * k) - 8))] ⟨rfl, congrArg (fun z => some (vi z)) (z_up m), congrArg (fun z => some (vi z)) (t_sh' k), trivial⟩ ?_
          exact ih_5 k _ (by rw [t_rs, if_neg (show ¬ t_pc x k = 0 from c_2), List.length_cons] at hm; omega) (by omega) (by omega)
  exact z_loc [(0, vi x), (1, vi (nI (0))), (2, vi (nI (8 * 4) - 8))] ⟨rfl, rfl, rfl, trivial⟩ (loop_5 5 4 0 (by omega) (by omega) (by omega))
set_option maxHeartbeats 4000000 in
set_option maxRecDepth 100000 in
theorem m_X9_byteAt (G : z_G) {nb na np g : Nat} {w0 w : z_w} {c : r_c} {l : r_l} {r : r_r} (hR : r_p dX (TX nb na np g) w0 c l r w) (x : Int32) : z_M G yX9_byteAt cX9_byteAt 2 (some .int) 2 (0) (0) [vr (6, 0), vi x] w (fun q w1 => q = some (vi (if ¬ x < 0 ∧ ¬ nI 200 ≤ x then c (7, 0) x.toNatClampNeg else 0)) ∧ w1 = w) := by
  refine z_met ym_X9_byteAt (by decide) ⟨Nat.le_of_ble_eq_true rfl, Nat.le_of_ble_eq_true rfl⟩ (fun X hG hn hmc hms hin h hr => ?_)
  have he := hr.2.2.2.2.2.1
  refine z_aload_n h dX9_byteAt_0 rfl ?_
  refine y_getr h dX9_byteAt_1 hR flX9_9 (by first | assumption | exact Nat.le_of_ble_eq_true rfl) (by first | rfl | assumption | exact tx_2 (by first | assumption | omega) | exact tx_18 (by first | assumption | omega) | exact tx_19 (by first | assumption | omega) | exact tx_20 (by first | assumption | omega) | exact tx_27 (by first | assumption | omega) | exact tx_28 (by first | assumption | omega) | exact tx_30 (by first | assumption | omega) | exact tx_31 (by first | assumption | omega) | exact tx_32 (by first | assumption | omega) | exact tx_33 (by first | assumption | omega)) (by rfl) ?_
  refine z_iload_n h dX9_byteAt_4 rfl ?_
  refine z_callSN h dX9_byteAt_5 (fun _ _ q => z_okv_no he q) (fun _ _ _ t q => absurd q (he t)) (m_X11_itemOf _ _ (7, 0) 200 (c (7, 0)) x (hR.ia (Nat.le_of_ble_eq_true rfl) rfl) (by decide)) ym_X11_itemOf mnX9_19 sm_X11_itemOf rfl (by decide) (Nat.le_of_ble_eq_true rfl) ?_
  rintro q1 w1 ⟨rfl, hw1⟩
  have hw1 := hw1.symm; subst hw1
  exact z_iret h dX9_byteAt_8 hr (⟨rfl, rfl⟩)
set_option maxHeartbeats 4000000 in
set_option maxRecDepth 100000 in
theorem m_X9_afterDigit (G : z_G) (w : z_w) (s b : Int32) : z_M G yX9_afterDigit cX9_afterDigit 2 (some .int) 2 (0) (0) [vi s, vi b] w (fun q w1 => q = some (vi (t_ad s b)) ∧ w1 = w) := by
  refine z_met ym_X9_afterDigit (by decide) ⟨Nat.le_of_ble_eq_true rfl, Nat.le_of_ble_eq_true rfl⟩ (fun X hG hn hmc hms hin h hr => ?_)
  have he := hr.2.2.2.2.2.1
  refine z_iload_n h dX9_afterDigit_0 rfl ?_
  refine z_bipush (v := 58) h dX9_afterDigit_1 (by decide) ?_
  refine z_icmp_ne h dX9_afterDigit_3 9 (by decide) (fun c_1 => ?_) (fun c_1 => ?_)
  · skip
    refine z_iload_n h dX9_afterDigit_9 rfl ?_
    refine z_callS h dX9_afterDigit_10 (fun _ _ q => z_okv_no he q) (fun _ _ _ t q => absurd q (he t)) (m_X9_isDigit _ _ b) ym_X9_isDigit mlX9_38 sm_X9_isDigit rfl (by decide) (Nat.le_of_ble_eq_true rfl) ?_
    rintro q1 w1 ⟨rfl, hw1⟩
    have hw1 := hw1.symm; subst hw1
    refine z_if_eq h dX9_afterDigit_13 22 (by decide) (fun c_2 => ?_) (fun c_2 => ?_)
    · skip
      refine z_bipush (v := 12) h dX9_afterDigit_22 (by decide) ?_
      exact z_iret h dX9_afterDigit_24 hr (⟨z_e1 (by rw [t_ad, if_neg c_1, if_neg (z_bf c_2)]), rfl⟩)
    · skip
      refine z_iload_n h dX9_afterDigit_16 rfl ?_
      refine z_iconst (v := 1) h dX9_afterDigit_17 (by decide) ?_
      refine z_iadd h dX9_afterDigit_18 ?_
      refine z_goto h dX9_afterDigit_19 24 (by decide) ?_
      exact z_iret h dX9_afterDigit_24 hr (⟨z_e1 (by rw [t_ad, if_neg c_1, if_pos (z_bt c_2)]), rfl⟩)
  · skip
    refine z_bipush (v := 9) h dX9_afterDigit_6 (by decide) ?_
    exact z_iret h dX9_afterDigit_8 hr (⟨z_e1 (by rw [t_ad, if_pos c_1]), rfl⟩)
set_option maxHeartbeats 4000000 in
set_option maxRecDepth 100000 in
theorem m_X9_append (G : z_G) {nb na np g : Nat} {w0 w : z_w} {c : r_c} {l : r_l} {r : r_r} (hR : r_p dX (TX nb na np g) w0 c l r w) (nt : Nat) (hct : c (6, 0) 1 = nI nt) (x : Int32) (hlt : nt + (t_rs x 4).length ≤ 200) : z_M G yX9_append cX9_append 4 none 1 (0) (0) [vr (6, 0), vi x] w (fun q w1 => q = none ∧ ∃ c1, c1 (6, 0) = upd (c (6, 0)) 1 (nI (nt + (t_rs x 4).length)) ∧ c1 (7, 0) = tp_ws (c (7, 0)) nt (t_rs x 4) ∧ (∀ t, t ≠ (6, 0) → t ≠ (7, 0) → c1 t = c t) ∧ r_p dX (TX nb na np g) w0 (c1) (l) (r) w1) := by
  refine z_met ym_X9_append (by decide) ⟨Nat.le_of_ble_eq_true rfl, Nat.le_of_ble_eq_true rfl⟩ (fun X hG hn hmc hms hin h hr => ?_)
  have he := hr.2.2.2.2.2.1
  refine z_bipush (v := 24) h dX9_append_0 (by decide) ?_
  refine z_istore_n h dX9_append_2 (by rw [hn]; decide) ?_
  have loop_3 : ∀ (n_ : Nat) (k n : Nat) (c1 : r_c) (w : z_w), tp_ws (c1 (7, 0)) n (t_rs x k) = tp_ws (c (7, 0)) nt (t_rs x 4) → n + (t_rs x k).length = nt + (t_rs x 4).length → c1 (6, 0) = upd (c (6, 0)) 1 (nI n) → (∀ t, t ≠ (6, 0) → t ≠ (7, 0) → c1 t = c t) → r_p dX (TX nb na np g) w0 c1 l r w → k ≤ 4 → k + 1 ≤ n_ → z_V X 0 0 w 3 [(0, vr (6, 0)), (1, vi x), (2, vi (nI (8 * k) - 8))] [] := by
    intro n_
    induction n_ with
    | zero => intros; omega
    | succ n_ ih_3 =>
      intro k n c1 w hs hl e6 hq hR hk hN
      refine z_iload_n h dX9_append_3 rfl ?_
      refine z_if_lt h dX9_append_4 57 (by decide) (fun c_1 => ?_) (fun c_1 => ?_)
      · skip
        obtain rfl : k = 0 := by
          rcases k with _ | k
          · rfl
          · rw [t_sh] at c_1; exact absurd c_1 (nI_pos (by omega))
        exact z_vret h dX9_append_57 hr (⟨rfl, c1, by rw [t_rs, List.length_nil] at hl; rw [e6, ← hl, Nat.add_zero], by rw [← hs]; rfl, hq, hR⟩)
      · skip
        rcases k with _ | k
        · exact absurd (by decide) c_1
        rw [t_sh]
        have e61 : c1 (6, 0) 1 = nI n := by rw [e6]; simp [upd]
        refine z_iload_n h dX9_append_7 rfl ?_
        refine z_iload_n h dX9_append_8 rfl ?_
        refine z_iushr h dX9_append_9 rfl ?_
        refine z_sipush (v := 255) h dX9_append_10 (by decide) ?_
        refine z_iand h dX9_append_13 ?_
        refine z_istore_n h dX9_append_14 (by rw [hn]; decide) ?_
        refine z_iload_n h dX9_append_15 rfl ?_
        refine z_if_eq h dX9_append_16 51 (by decide) (fun c_2 => ?_) (fun c_2 => ?_)
        · skip
          refine z_iinc (v := -8) h dX9_append_51 rfl (by decide) (by rw [hn]; decide) ?_
          refine z_goto h dX9_append_54 3 (by decide) ?_
          refine z_loc [(0, vr (6, 0)), (1, vi x), (2, vi (nI (8 * k) - 8))] ⟨rfl, rfl, congrArg (fun z => some (vi z)) (t_sh' k), trivial⟩ ?_
          exact ih_3 k n c1 w (by rw [t_rs, if_pos (show t_pc x k = 0 from c_2)] at hs; exact hs) (by rw [t_rs, if_pos (show t_pc x k = 0 from c_2)] at hl; exact hl) e6 hq hR (by omega) (by omega)
        · skip
          refine z_aload_n h dX9_append_19 rfl ?_
          refine y_geti h dX9_append_20 hR flX9_15 (by first | assumption | exact Nat.le_of_ble_eq_true rfl) (by first | rfl | assumption | exact tx_2 (by first | assumption | omega) | exact tx_18 (by first | assumption | omega) | exact tx_19 (by first | assumption | omega) | exact tx_20 (by first | assumption | omega) | exact tx_27 (by first | assumption | omega) | exact tx_28 (by first | assumption | omega) | exact tx_30 (by first | assumption | omega) | exact tx_31 (by first | assumption | omega) | exact tx_32 (by first | assumption | omega) | exact tx_33 (by first | assumption | omega)) (by rfl) ?_
          refine z_aload_n h dX9_append_23 rfl ?_
          refine y_getr h dX9_append_24 hR flX9_9 (by first | assumption | exact Nat.le_of_ble_eq_true rfl) (by first | rfl | assumption | exact tx_2 (by first | assumption | omega) | exact tx_18 (by first | assumption | omega) | exact tx_19 (by first | assumption | omega) | exact tx_20 (by first | assumption | omega) | exact tx_27 (by first | assumption | omega) | exact tx_28 (by first | assumption | omega) | exact tx_30 (by first | assumption | omega) | exact tx_31 (by first | assumption | omega) | exact tx_32 (by first | assumption | omega) | exact tx_33 (by first | assumption | omega)) (by rfl) ?_
          refine y_len h dX9_append_27 hR (by first | assumption | exact Nat.le_of_ble_eq_true rfl) (by first | rfl | assumption | exact tx_2 (by first | assumption | omega) | exact tx_18 (by first | assumption | omega) | exact tx_19 (by first | assumption | omega) | exact tx_20 (by first | assumption | omega) | exact tx_27 (by first | assumption | omega) | exact tx_28 (by first | assumption | omega) | exact tx_30 (by first | assumption | omega) | exact tx_31 (by first | assumption | omega) | exact tx_32 (by first | assumption | omega) | exact tx_33 (by first | assumption | omega)) (by rfl) ?_
          rw [e61]
          refine z_icmp_ge h dX9_append_28 51 (by decide) (fun c_3 => ?_) (fun c_3 => ?_)
          · skip
            exact absurd ((nI_leI (a := 200) (by omega) (by omega)).mp c_3) (by rw [t_rs, if_neg (show ¬ t_pc x k = 0 from c_2), List.length_cons] at hl; omega)
          · skip
            have e3 : n < 200 := by rw [t_rs, if_neg (show ¬ t_pc x k = 0 from c_2), List.length_cons] at hl; omega
            refine z_aload_n h dX9_append_31 rfl ?_
            refine y_getr h dX9_append_32 hR flX9_9 (by first | assumption | exact Nat.le_of_ble_eq_true rfl) (by first | rfl | assumption | exact tx_2 (by first | assumption | omega) | exact tx_18 (by first | assumption | omega) | exact tx_19 (by first | assumption | omega) | exact tx_20 (by first | assumption | omega) | exact tx_27 (by first | assumption | omega) | exact tx_28 (by first | assumption | omega) | exact tx_30 (by first | assumption | omega) | exact tx_31 (by first | assumption | omega) | exact tx_32 (by first | assumption | omega) | exact tx_33 (by first | assumption | omega)) (by rfl) ?_
            refine z_aload_n h dX9_append_35 rfl ?_
            refine y_geti h dX9_append_36 hR flX9_15 (by first | assumption | exact Nat.le_of_ble_eq_true rfl) (by first | rfl | assumption | exact tx_2 (by first | assumption | omega) | exact tx_18 (by first | assumption | omega) | exact tx_19 (by first | assumption | omega) | exact tx_20 (by first | assumption | omega) | exact tx_27 (by first | assumption | omega) | exact tx_28 (by first | assumption | omega) | exact tx_30 (by first | assumption | omega) | exact tx_31 (by first | assumption | omega) | exact tx_32 (by first | assumption | omega) | exact tx_33 (by first | assumption | omega)) (by rfl) ?_
            refine z_iload_n h dX9_append_39 rfl ?_
            refine y_iast h dX9_append_40 hR (by first | assumption | exact Nat.le_of_ble_eq_true rfl) (by first | rfl | assumption | exact tx_2 (by first | assumption | omega) | exact tx_18 (by first | assumption | omega) | exact tx_19 (by first | assumption | omega) | exact tx_20 (by first | assumption | omega) | exact tx_27 (by first | assumption | omega) | exact tx_28 (by first | assumption | omega) | exact tx_30 (by first | assumption | omega) | exact tx_31 (by first | assumption | omega) | exact tx_32 (by first | assumption | omega) | exact tx_33 (by first | assumption | omega)) (z_ixe (show _ = nI n from e61) (by omega) (by omega)) (fun w hR => ?_)
            refine z_aload_n h dX9_append_41 rfl ?_
            refine z_dup_r h dX9_append_42 ?_
            refine y_geti h dX9_append_43 hR flX9_15 (by first | assumption | exact Nat.le_of_ble_eq_true rfl) (by first | rfl | assumption | exact tx_2 (by first | assumption | omega) | exact tx_18 (by first | assumption | omega) | exact tx_19 (by first | assumption | omega) | exact tx_20 (by first | assumption | omega) | exact tx_27 (by first | assumption | omega) | exact tx_28 (by first | assumption | omega) | exact tx_30 (by first | assumption | omega) | exact tx_31 (by first | assumption | omega) | exact tx_32 (by first | assumption | omega) | exact tx_33 (by first | assumption | omega)) (by rfl) ?_
            refine z_iconst (v := 1) h dX9_append_46 (by decide) ?_
            refine z_iadd h dX9_append_47 ?_
            refine z_toe (y := nI (n + 1)) (by show c1 (6, 0) 1 + 1 = _; rw [e61]; exact z_up n) ?_
            refine y_put h dX9_append_48 he hR flX9_15 rfl (by first | assumption | exact Nat.le_of_ble_eq_true rfl) (by first | rfl | assumption | exact tx_2 (by first | assumption | omega) | exact tx_18 (by first | assumption | omega) | exact tx_19 (by first | assumption | omega) | exact tx_20 (by first | assumption | omega) | exact tx_27 (by first | assumption | omega) | exact tx_28 (by first | assumption | omega) | exact tx_30 (by first | assumption | omega) | exact tx_31 (by first | assumption | omega) | exact tx_32 (by first | assumption | omega) | exact tx_33 (by first | assumption | omega)) (by rfl) (fun w hR => ?_)
            refine z_iinc (v := -8) h dX9_append_51 rfl (by decide) (by rw [hn]; decide) ?_
            refine z_goto h dX9_append_54 3 (by decide) ?_
            refine z_loc [(0, vr (6, 0)), (1, vi x), (2, vi (nI (8 * k) - 8))] ⟨rfl, rfl, congrArg (fun z => some (vi z)) (t_sh' k), trivial⟩ ?_
            exact ih_3 k (n + 1) _ w (by rw [t_rs, if_neg (show ¬ t_pc x k = 0 from c_2), tp_ws] at hs; rw [r_cs, r_cs, r_cf_ne (by simp), r_cf_self]; exact hs) (by rw [t_rs, if_neg (show ¬ t_pc x k = 0 from c_2), List.length_cons] at hl; omega) (by rw [r_cs, r_cf_self, r_cs, r_cf_ne (by simp), e6]; funext j; simp only [upd]; split <;> rfl) (fun t h6 h7 => by rw [r_cs, r_cf_ne h6, r_cs, r_cf_ne h7]; exact hq t h6 h7) hR (by omega) (by omega)
  exact z_loc [(0, vr (6, 0)), (1, vi x), (2, vi (nI (8 * 4) - 8))] ⟨rfl, rfl, rfl, trivial⟩ (loop_3 5 4 nt c w rfl rfl (by rw [← hct]; exact upd_same.symm) (fun _ _ _ => rfl) hR (by omega) (by omega))
set_option maxHeartbeats 4000000 in
set_option maxRecDepth 100000 in
theorem m_X9_after (G : z_G) (w : z_w) (s b : Int32) : z_M G yX9_after cX9_after 2 (some .int) 3 (0) (0) [vi s, vi b] w (fun q w1 => q = some (vi (t_af s b)) ∧ w1 = w) := by
  refine z_met ym_X9_after (by decide) ⟨Nat.le_of_ble_eq_true rfl, Nat.le_of_ble_eq_true rfl⟩ (fun X hG hn hmc hms hin h hr => ?_)
  have he := hr.2.2.2.2.2.1
  refine z_iload_n h dX9_after_0 rfl ?_
  refine z_bipush (v := 32) h dX9_after_1 (by decide) ?_
  refine z_icmp_ne h dX9_after_3 24 (by decide) (fun c_1 => ?_) (fun c_1 => ?_)
  · skip
    refine z_iload_n h dX9_after_24 rfl ?_
    by_cases s_1_0 : s = 0
    · skip
      refine z_tblIn h dX9_after_25 88 (off := 63) (by rw [s_1_0]; decide) (by rw [s_1_0]; decide) (by rw [s_1_0]; rfl) (by decide) ?_
      refine z_iload_n h dX9_after_88 rfl ?_
      refine z_callS h dX9_after_89 (fun _ _ q => z_okv_no he q) (fun _ _ _ t q => absurd q (he t)) (m_X9_isLetter _ _ b) ym_X9_isLetter mlX9_31 sm_X9_isLetter rfl (by decide) (Nat.le_of_ble_eq_true rfl) ?_
      rintro q1 w1 ⟨rfl, hw1⟩
      have hw1 := hw1.symm; subst hw1
      refine z_if_eq h dX9_after_92 99 (by decide) (fun c_2 => ?_) (fun c_2 => ?_)
      · skip
        refine z_bipush (v := 12) h dX9_after_99 (by decide) ?_
        exact z_iret h dX9_after_101 hr (⟨z_e1 (by subst s_1_0; rw [t_af, if_neg c_1, if_pos (by decide), if_neg (z_bf c_2)]), rfl⟩)
      · skip
        refine z_iconst (v := 1) h dX9_after_95 (by decide) ?_
        refine z_goto h dX9_after_96 101 (by decide) ?_
        exact z_iret h dX9_after_101 hr (⟨z_e1 (by subst s_1_0; rw [t_af, if_neg c_1, if_pos (by decide), if_pos (z_bt c_2)]), rfl⟩)
    by_cases s_1_1 : s = 1
    · skip
      refine z_tblIn h dX9_after_25 102 (off := 77) (by rw [s_1_1]; decide) (by rw [s_1_1]; decide) (by rw [s_1_1]; rfl) (by decide) ?_
      refine z_iload_n h dX9_after_102 rfl ?_
      refine z_callS h dX9_after_103 (fun _ _ q => z_okv_no he q) (fun _ _ _ t q => absurd q (he t)) (m_X9_isSign _ _ b) ym_X9_isSign mlX9_35 sm_X9_isSign rfl (by decide) (Nat.le_of_ble_eq_true rfl) ?_
      rintro q1 w1 ⟨rfl, hw1⟩
      have hw1 := hw1.symm; subst hw1
      refine z_if_eq h dX9_after_106 113 (by decide) (fun c_2 => ?_) (fun c_2 => ?_)
      · skip
        refine z_bipush (v := 12) h dX9_after_113 (by decide) ?_
        exact z_iret h dX9_after_115 hr (⟨z_e1 (by subst s_1_1; rw [t_af, if_neg c_1, if_neg (by decide), if_pos (by decide), if_neg (z_bf c_2)]), rfl⟩)
      · skip
        refine z_iconst (v := 2) h dX9_after_109 (by decide) ?_
        refine z_goto h dX9_after_110 115 (by decide) ?_
        exact z_iret h dX9_after_115 hr (⟨z_e1 (by subst s_1_1; rw [t_af, if_neg c_1, if_neg (by decide), if_pos (by decide), if_pos (z_bt c_2)]), rfl⟩)
    by_cases s_1_2 : s = 2
    · skip
      refine z_tblIn h dX9_after_25 116 (off := 91) (by rw [s_1_2]; decide) (by rw [s_1_2]; decide) (by rw [s_1_2]; rfl) (by decide) ?_
      refine z_iload_n h dX9_after_116 rfl ?_
      refine z_callS h dX9_after_117 (fun _ _ q => z_okv_no he q) (fun _ _ _ t q => absurd q (he t)) (m_X9_isDigit _ _ b) ym_X9_isDigit mlX9_38 sm_X9_isDigit rfl (by decide) (Nat.le_of_ble_eq_true rfl) ?_
      rintro q1 w1 ⟨rfl, hw1⟩
      have hw1 := hw1.symm; subst hw1
      refine z_if_eq h dX9_after_120 127 (by decide) (fun c_2 => ?_) (fun c_2 => ?_)
      · skip
        refine z_bipush (v := 12) h dX9_after_127 (by decide) ?_
        exact z_iret h dX9_after_129 hr (⟨z_e1 (by subst s_1_2; rw [t_af, if_neg c_1, if_neg (by decide), if_neg (by decide), if_pos (by decide), if_neg (z_bf c_2)]), rfl⟩)
      · skip
        refine z_iconst (v := 3) h dX9_after_123 (by decide) ?_
        refine z_goto h dX9_after_124 129 (by decide) ?_
        exact z_iret h dX9_after_129 hr (⟨z_e1 (by subst s_1_2; rw [t_af, if_neg c_1, if_neg (by decide), if_neg (by decide), if_pos (by decide), if_pos (z_bt c_2)]), rfl⟩)
    by_cases s_1_3 : s = 3
    · skip
      refine z_tblIn h dX9_after_25 173 (off := 148) (by rw [s_1_3]; decide) (by rw [s_1_3]; decide) (by rw [s_1_3]; rfl) (by decide) ?_
      refine z_iload_n h dX9_after_173 rfl ?_
      refine z_iload_n h dX9_after_174 rfl ?_
      refine z_callS h dX9_after_175 (fun _ _ q => z_okv_no he q) (fun _ _ _ t q => absurd q (he t)) (m_X9_afterDigit _ _ s b) ym_X9_afterDigit mlX9_41 sm_X9_afterDigit rfl (by decide) (Nat.le_of_ble_eq_true rfl) ?_
      rintro q1 w1 ⟨rfl, hw1⟩
      have hw1 := hw1.symm; subst hw1
      exact z_iret h dX9_after_178 hr (⟨z_e1 (by subst s_1_3; rw [t_af, if_neg c_1, if_neg (by decide), if_neg (by decide), if_neg (by decide), if_neg (by decide), if_neg (by decide), if_neg (by decide)]), rfl⟩)
    by_cases s_1_4 : s = 4
    · skip
      refine z_tblIn h dX9_after_25 173 (off := 148) (by rw [s_1_4]; decide) (by rw [s_1_4]; decide) (by rw [s_1_4]; rfl) (by decide) ?_
      refine z_iload_n h dX9_after_173 rfl ?_
      refine z_iload_n h dX9_after_174 rfl ?_
      refine z_callS h dX9_after_175 (fun _ _ q => z_okv_no he q) (fun _ _ _ t q => absurd q (he t)) (m_X9_afterDigit _ _ s b) ym_X9_afterDigit mlX9_41 sm_X9_afterDigit rfl (by decide) (Nat.le_of_ble_eq_true rfl) ?_
      rintro q1 w1 ⟨rfl, hw1⟩
      have hw1 := hw1.symm; subst hw1
      exact z_iret h dX9_after_178 hr (⟨z_e1 (by subst s_1_4; rw [t_af, if_neg c_1, if_neg (by decide), if_neg (by decide), if_neg (by decide), if_neg (by decide), if_neg (by decide), if_neg (by decide)]), rfl⟩)
    by_cases s_1_5 : s = 5
    · skip
      refine z_tblIn h dX9_after_25 173 (off := 148) (by rw [s_1_5]; decide) (by rw [s_1_5]; decide) (by rw [s_1_5]; rfl) (by decide) ?_
      refine z_iload_n h dX9_after_173 rfl ?_
      refine z_iload_n h dX9_after_174 rfl ?_
      refine z_callS h dX9_after_175 (fun _ _ q => z_okv_no he q) (fun _ _ _ t q => absurd q (he t)) (m_X9_afterDigit _ _ s b) ym_X9_afterDigit mlX9_41 sm_X9_afterDigit rfl (by decide) (Nat.le_of_ble_eq_true rfl) ?_
      rintro q1 w1 ⟨rfl, hw1⟩
      have hw1 := hw1.symm; subst hw1
      exact z_iret h dX9_after_178 hr (⟨z_e1 (by subst s_1_5; rw [t_af, if_neg c_1, if_neg (by decide), if_neg (by decide), if_neg (by decide), if_neg (by decide), if_neg (by decide), if_neg (by decide)]), rfl⟩)
    by_cases s_1_6 : s = 6
    · skip
      refine z_tblIn h dX9_after_25 173 (off := 148) (by rw [s_1_6]; decide) (by rw [s_1_6]; decide) (by rw [s_1_6]; rfl) (by decide) ?_
      refine z_iload_n h dX9_after_173 rfl ?_
      refine z_iload_n h dX9_after_174 rfl ?_
      refine z_callS h dX9_after_175 (fun _ _ q => z_okv_no he q) (fun _ _ _ t q => absurd q (he t)) (m_X9_afterDigit _ _ s b) ym_X9_afterDigit mlX9_41 sm_X9_afterDigit rfl (by decide) (Nat.le_of_ble_eq_true rfl) ?_
      rintro q1 w1 ⟨rfl, hw1⟩
      have hw1 := hw1.symm; subst hw1
      exact z_iret h dX9_after_178 hr (⟨z_e1 (by subst s_1_6; rw [t_af, if_neg c_1, if_neg (by decide), if_neg (by decide), if_neg (by decide), if_neg (by decide), if_neg (by decide), if_neg (by decide)]), rfl⟩)
    by_cases s_1_7 : s = 7
    · skip
      refine z_tblIn h dX9_after_25 130 (off := 105) (by rw [s_1_7]; decide) (by rw [s_1_7]; decide) (by rw [s_1_7]; rfl) (by decide) ?_
      refine z_iload_n h dX9_after_130 rfl ?_
      refine z_bipush (v := 58) h dX9_after_131 (by decide) ?_
      refine z_icmp_ne h dX9_after_133 141 (by decide) (fun c_2 => ?_) (fun c_2 => ?_)
      · skip
        refine z_bipush (v := 12) h dX9_after_141 (by decide) ?_
        exact z_iret h dX9_after_143 hr (⟨z_e1 (by subst s_1_7; rw [t_af, if_neg c_1, if_neg (by decide), if_neg (by decide), if_neg (by decide), if_pos (by decide), if_neg c_2]), rfl⟩)
      · skip
        refine z_bipush (v := 9) h dX9_after_136 (by decide) ?_
        refine z_goto h dX9_after_138 143 (by decide) ?_
        exact z_iret h dX9_after_143 hr (⟨z_e1 (by subst s_1_7; rw [t_af, if_neg c_1, if_neg (by decide), if_neg (by decide), if_neg (by decide), if_pos (by decide), if_pos c_2]), rfl⟩)
    by_cases s_1_8 : s = 8
    · skip
      refine z_tblIn h dX9_after_25 130 (off := 105) (by rw [s_1_8]; decide) (by rw [s_1_8]; decide) (by rw [s_1_8]; rfl) (by decide) ?_
      refine z_iload_n h dX9_after_130 rfl ?_
      refine z_bipush (v := 58) h dX9_after_131 (by decide) ?_
      refine z_icmp_ne h dX9_after_133 141 (by decide) (fun c_2 => ?_) (fun c_2 => ?_)
      · skip
        refine z_bipush (v := 12) h dX9_after_141 (by decide) ?_
        exact z_iret h dX9_after_143 hr (⟨z_e1 (by subst s_1_8; rw [t_af, if_neg c_1, if_neg (by decide), if_neg (by decide), if_neg (by decide), if_pos (by decide), if_neg c_2]), rfl⟩)
      · skip
        refine z_bipush (v := 9) h dX9_after_136 (by decide) ?_
        refine z_goto h dX9_after_138 143 (by decide) ?_
        exact z_iret h dX9_after_143 hr (⟨z_e1 (by subst s_1_8; rw [t_af, if_neg c_1, if_neg (by decide), if_neg (by decide), if_neg (by decide), if_pos (by decide), if_pos c_2]), rfl⟩)
    by_cases s_1_9 : s = 9
    · skip
      refine z_tblIn h dX9_after_25 144 (off := 119) (by rw [s_1_9]; decide) (by rw [s_1_9]; decide) (by rw [s_1_9]; rfl) (by decide) ?_
      refine z_iload_n h dX9_after_144 rfl ?_
      refine z_callS h dX9_after_145 (fun _ _ q => z_okv_no he q) (fun _ _ _ t q => absurd q (he t)) (m_X9_isDigit _ _ b) ym_X9_isDigit mlX9_38 sm_X9_isDigit rfl (by decide) (Nat.le_of_ble_eq_true rfl) ?_
      rintro q1 w1 ⟨rfl, hw1⟩
      have hw1 := hw1.symm; subst hw1
      refine z_if_eq h dX9_after_148 156 (by decide) (fun c_2 => ?_) (fun c_2 => ?_)
      · skip
        refine z_bipush (v := 12) h dX9_after_156 (by decide) ?_
        exact z_iret h dX9_after_158 hr (⟨z_e1 (by subst s_1_9; rw [t_af, if_neg c_1, if_neg (by decide), if_neg (by decide), if_neg (by decide), if_neg (by decide), if_pos (by decide), if_neg (z_bf c_2)]), rfl⟩)
      · skip
        refine z_bipush (v := 10) h dX9_after_151 (by decide) ?_
        refine z_goto h dX9_after_153 158 (by decide) ?_
        exact z_iret h dX9_after_158 hr (⟨z_e1 (by subst s_1_9; rw [t_af, if_neg c_1, if_neg (by decide), if_neg (by decide), if_neg (by decide), if_neg (by decide), if_pos (by decide), if_pos (z_bt c_2)]), rfl⟩)
    by_cases s_1_10 : s = 10
    · skip
      refine z_tblIn h dX9_after_25 159 (off := 134) (by rw [s_1_10]; decide) (by rw [s_1_10]; decide) (by rw [s_1_10]; rfl) (by decide) ?_
      refine z_iload_n h dX9_after_159 rfl ?_
      refine z_bipush (v := 59) h dX9_after_160 (by decide) ?_
      refine z_icmp_ne h dX9_after_162 170 (by decide) (fun c_2 => ?_) (fun c_2 => ?_)
      · skip
        refine z_bipush (v := 12) h dX9_after_170 (by decide) ?_
        exact z_iret h dX9_after_172 hr (⟨z_e1 (by subst s_1_10; rw [t_af, if_neg c_1, if_neg (by decide), if_neg (by decide), if_neg (by decide), if_neg (by decide), if_neg (by decide), if_pos (by decide), if_neg c_2]), rfl⟩)
      · skip
        refine z_bipush (v := 11) h dX9_after_165 (by decide) ?_
        refine z_goto h dX9_after_167 172 (by decide) ?_
        exact z_iret h dX9_after_172 hr (⟨z_e1 (by subst s_1_10; rw [t_af, if_neg c_1, if_neg (by decide), if_neg (by decide), if_neg (by decide), if_neg (by decide), if_neg (by decide), if_pos (by decide), if_pos c_2]), rfl⟩)
    by_cases s_1_11 : s = 11
    · skip
      refine z_tblIn h dX9_after_25 88 (off := 63) (by rw [s_1_11]; decide) (by rw [s_1_11]; decide) (by rw [s_1_11]; rfl) (by decide) ?_
      refine z_iload_n h dX9_after_88 rfl ?_
      refine z_callS h dX9_after_89 (fun _ _ q => z_okv_no he q) (fun _ _ _ t q => absurd q (he t)) (m_X9_isLetter _ _ b) ym_X9_isLetter mlX9_31 sm_X9_isLetter rfl (by decide) (Nat.le_of_ble_eq_true rfl) ?_
      rintro q1 w1 ⟨rfl, hw1⟩
      have hw1 := hw1.symm; subst hw1
      refine z_if_eq h dX9_after_92 99 (by decide) (fun c_2 => ?_) (fun c_2 => ?_)
      · skip
        refine z_bipush (v := 12) h dX9_after_99 (by decide) ?_
        exact z_iret h dX9_after_101 hr (⟨z_e1 (by subst s_1_11; rw [t_af, if_neg c_1, if_pos (by decide), if_neg (z_bf c_2)]), rfl⟩)
      · skip
        refine z_iconst (v := 1) h dX9_after_95 (by decide) ?_
        refine z_goto h dX9_after_96 101 (by decide) ?_
        exact z_iret h dX9_after_101 hr (⟨z_e1 (by subst s_1_11; rw [t_af, if_neg c_1, if_pos (by decide), if_pos (z_bt c_2)]), rfl⟩)
    refine z_tblOut h dX9_after_25 173 (by have a0 := lv_neT s_1_0 (a := 0) (by decide); have a1 := lv_neT s_1_1 (a := 1) (by decide); have a2 := lv_neT s_1_2 (a := 2) (by decide); have a3 := lv_neT s_1_3 (a := 3) (by decide); have a4 := lv_neT s_1_4 (a := 4) (by decide); have a5 := lv_neT s_1_5 (a := 5) (by decide); have a6 := lv_neT s_1_6 (a := 6) (by decide); have a7 := lv_neT s_1_7 (a := 7) (by decide); have a8 := lv_neT s_1_8 (a := 8) (by decide); have a9 := lv_neT s_1_9 (a := 9) (by decide); have a10 := lv_neT s_1_10 (a := 10) (by decide); have a11 := lv_neT s_1_11 (a := 11) (by decide); omega) (by decide) ?_
    refine z_iload_n h dX9_after_173 rfl ?_
    refine z_iload_n h dX9_after_174 rfl ?_
    refine z_callS h dX9_after_175 (fun _ _ q => z_okv_no he q) (fun _ _ _ t q => absurd q (he t)) (m_X9_afterDigit _ _ s b) ym_X9_afterDigit mlX9_41 sm_X9_afterDigit rfl (by decide) (Nat.le_of_ble_eq_true rfl) ?_
    rintro q1 w1 ⟨rfl, hw1⟩
    have hw1 := hw1.symm; subst hw1
    exact z_iret h dX9_after_178 hr (⟨z_e1 (by rw [t_af, if_neg c_1, if_neg (fun q => q.elim s_1_0 s_1_11), if_neg s_1_1, if_neg s_1_2, if_neg (fun q => q.elim s_1_7 s_1_8), if_neg s_1_9, if_neg s_1_10]), rfl⟩)
  · skip
    refine z_iload_n h dX9_after_6 rfl ?_
    refine z_iconst (v := 2) h dX9_after_7 (by decide) ?_
    refine z_icmp_le h dX9_after_8 22 (by decide) (fun c_3 => ?_) (fun c_3 => ?_)
    · skip
      refine z_iload_n h dX9_after_22 rfl ?_
      exact z_iret h dX9_after_23 hr (⟨z_e1 (by rw [t_af, if_pos c_1, if_neg (fun q => by simp only [z_lt, z_le, z_ie] at *; omega)]), rfl⟩)
    · skip
      refine z_iload_n h dX9_after_11 rfl ?_
      refine z_bipush (v := 7) h dX9_after_12 (by decide) ?_
      refine z_icmp_gt h dX9_after_14 22 (by decide) (fun c_4 => ?_) (fun c_4 => ?_)
      · skip
        refine z_iload_n h dX9_after_22 rfl ?_
        exact z_iret h dX9_after_23 hr (⟨z_e1 (by rw [t_af, if_pos c_1, if_neg (fun q => by simp only [z_lt, z_le, z_ie] at *; omega)]), rfl⟩)
      · skip
        refine z_bipush (v := 8) h dX9_after_17 (by decide) ?_
        refine z_goto h dX9_after_19 23 (by decide) ?_
        exact z_iret h dX9_after_23 hr (⟨z_e1 (by rw [t_af, if_pos c_1, if_pos (by refine ⟨?_, ?_⟩ <;> (simp only [z_lt, z_le, z_ie] at *; omega))]), rfl⟩)
/-- the first fault -/
def tp_ff (f : Nat → Int32) (n : Nat) : Int32 := if t_br f n < n then nI (t_br f n) else if t_st f n = 0 ∨ t_st f n = 10 then -1 else nI n
set_option maxHeartbeats 4000000 in
set_option maxRecDepth 100000 in
theorem m_X9_firstFault (G : z_G) {nb na np g : Nat} {w0 w : z_w} {c : r_c} {l : r_l} {r : r_r} (hR : r_p dX (TX nb na np g) w0 c l r w) (nt : Nat) (hct : c (6, 0) 1 = nI nt) (hlt : nt ≤ 200) : z_M G yX9_firstFault cX9_firstFault 3 (some .int) 4 (0) (0) [vr (6, 0)] w (fun q w1 => q = some (vi (tp_ff (c (7, 0)) nt)) ∧ w1 = w) := by
  refine z_met ym_X9_firstFault (by decide) ⟨Nat.le_of_ble_eq_true rfl, Nat.le_of_ble_eq_true rfl⟩ (fun X hG hn hmc hms hin h hr => ?_)
  have he := hr.2.2.2.2.2.1
  refine z_iconst (v := 0) h dX9_firstFault_0 (by decide) ?_
  refine z_istore_n h dX9_firstFault_1 (by rw [hn]; decide) ?_
  refine z_iconst (v := 0) h dX9_firstFault_2 (by decide) ?_
  refine z_istore_n h dX9_firstFault_3 (by rw [hn]; decide) ?_
  have loop_4 : ∀ (n_ : Nat) (i : Nat), i ≤ nt → t_br (c (7, 0)) i = i → nt + 1 ≤ i + n_ → z_V X 0 0 w 4 [(0, vr (6, 0)), (1, vi (t_st (c (7, 0)) i)), (2, vi (nI i))] [] := by
    intro n_
    induction n_ with
    | zero => intros; omega
    | succ n_ ih_4 =>
      intro i hi hb hN
      refine z_iload_n h dX9_firstFault_4 rfl ?_
      refine z_aload_n h dX9_firstFault_5 rfl ?_
      refine y_geti h dX9_firstFault_6 hR flX9_15 (by first | assumption | exact Nat.le_of_ble_eq_true rfl) (by first | rfl | assumption | exact tx_2 (by first | assumption | omega) | exact tx_18 (by first | assumption | omega) | exact tx_19 (by first | assumption | omega) | exact tx_20 (by first | assumption | omega) | exact tx_27 (by first | assumption | omega) | exact tx_28 (by first | assumption | omega) | exact tx_30 (by first | assumption | omega) | exact tx_31 (by first | assumption | omega) | exact tx_32 (by first | assumption | omega) | exact tx_33 (by first | assumption | omega)) (by rfl) ?_
      rw [hct]
      refine z_icmp_ge h dX9_firstFault_9 36 (by decide) (fun c_1 => ?_) (fun c_1 => ?_)
      · skip
        have e1 : nt ≤ i := (nI_leI (by omega) (by omega)).mp c_1
        have e2 : i = nt := by omega
        subst e2
        refine z_iload_n h dX9_firstFault_36 rfl ?_
        refine z_if_eq h dX9_firstFault_37 46 (by decide) (fun c_3 => ?_) (fun c_3 => ?_)
        · skip
          refine z_iconst (v := -1) h dX9_firstFault_46 (by decide) ?_
          refine z_goto h dX9_firstFault_47 54 (by decide) ?_
          exact z_iret h dX9_firstFault_54 hr (⟨z_e1 (by rw [tp_ff, if_neg (by omega), if_pos (Or.inl c_3)]), rfl⟩)
        · skip
          refine z_iload_n h dX9_firstFault_40 rfl ?_
          refine z_bipush (v := 10) h dX9_firstFault_41 (by decide) ?_
          refine z_icmp_ne h dX9_firstFault_43 50 (by decide) (fun c_4 => ?_) (fun c_4 => ?_)
          · skip
            refine z_aload_n h dX9_firstFault_50 rfl ?_
            refine y_geti h dX9_firstFault_51 hR flX9_15 (by first | assumption | exact Nat.le_of_ble_eq_true rfl) (by first | rfl | assumption | exact tx_2 (by first | assumption | omega) | exact tx_18 (by first | assumption | omega) | exact tx_19 (by first | assumption | omega) | exact tx_20 (by first | assumption | omega) | exact tx_27 (by first | assumption | omega) | exact tx_28 (by first | assumption | omega) | exact tx_30 (by first | assumption | omega) | exact tx_31 (by first | assumption | omega) | exact tx_32 (by first | assumption | omega) | exact tx_33 (by first | assumption | omega)) (by rfl) ?_
            exact z_iret h dX9_firstFault_54 hr (⟨z_e1 (by rw [tp_ff, if_neg (by omega), if_neg (fun q => q.elim c_3 c_4)]; exact hct), rfl⟩)
          · skip
            refine z_iconst (v := -1) h dX9_firstFault_46 (by decide) ?_
            refine z_goto h dX9_firstFault_47 54 (by decide) ?_
            exact z_iret h dX9_firstFault_54 hr (⟨z_e1 (by rw [tp_ff, if_neg (by omega), if_pos (Or.inr c_4)]), rfl⟩)
      · skip
        have e1 : ¬ nt ≤ i := fun q => c_1 ((nI_leI (by omega) (by omega)).mpr q)
        refine z_iload_n h dX9_firstFault_12 rfl ?_
        refine z_aload_n h dX9_firstFault_13 rfl ?_
        refine z_iload_n h dX9_firstFault_14 rfl ?_
        refine z_callV h dX9_firstFault_15 (fun _ _ q => z_okv_no he q) (fun _ _ _ t q => absurd q (he t)) (m_X9_byteAt _ hR (nI i)) ym_X9_byteAt mlX9_23 im_X9_byteAt (ci := 9) rfl se_X9_byteAt icX9 rfl (r_p.ob hR (by first | assumption | exact Nat.le_of_ble_eq_true rfl) (by first | rfl | assumption | exact tx_2 (by first | assumption | omega) | exact tx_18 (by first | assumption | omega) | exact tx_19 (by first | assumption | omega) | exact tx_20 (by first | assumption | omega) | exact tx_27 (by first | assumption | omega) | exact tx_28 (by first | assumption | omega) | exact tx_30 (by first | assumption | omega) | exact tx_31 (by first | assumption | omega) | exact tx_32 (by first | assumption | omega) | exact tx_33 (by first | assumption | omega))) rfl (by decide) (Nat.le_of_ble_eq_true rfl) ?_
        rintro q1 w1 ⟨rfl, hw1⟩
        have hw1 := hw1.symm; subst hw1
        refine z_toe (y := (c (7, 0)) i) (by rw [n_item (f := (c (7, 0))) (ix_of (show i < 200 by omega) (by decide)) (Nat.le_refl _) (by decide), nI_clamp (by omega)]) ?_
        refine z_callS h dX9_firstFault_18 (fun _ _ q => z_okv_no he q) (fun _ _ _ t q => absurd q (he t)) (m_X9_after _ _ (t_st (c (7, 0)) i) ((c (7, 0)) i)) ym_X9_after mlX9_27 sm_X9_after rfl (by decide) (Nat.le_of_ble_eq_true rfl) ?_
        rintro q1 w1 ⟨rfl, hw1⟩
        have hw1 := hw1.symm; subst hw1
        refine z_toe (y := t_st (c (7, 0)) (i + 1)) rfl ?_
        refine z_istore_n h dX9_firstFault_21 (by rw [hn]; decide) ?_
        refine z_iload_n h dX9_firstFault_22 rfl ?_
        refine z_bipush (v := 12) h dX9_firstFault_23 (by decide) ?_
        refine z_icmp_ne h dX9_firstFault_25 30 (by decide) (fun c_2 => ?_) (fun c_2 => ?_)
        · skip
          refine z_iinc (v := 1) h dX9_firstFault_30 rfl (by decide) (by rw [hn]; decide) ?_
          refine z_goto h dX9_firstFault_33 4 (by decide) ?_
          refine z_loc [(0, vr (6, 0)), (1, vi (t_st (c (7, 0)) (i + 1))), (2, vi (nI (i + 1)))] ⟨rfl, rfl, congrArg (fun z => some (vi z)) (z_up i), trivial⟩ ?_
          exact ih_4 (i + 1) (by omega) (t_br_next hb c_2) (by omega)
        · skip
          refine z_iload_n h dX9_firstFault_28 rfl ?_
          exact z_iret h dX9_firstFault_29 hr (⟨z_e1 (by rw [tp_ff, t_br_stop hb c_2 (n := nt) (by omega), if_pos (by omega)]), rfl⟩)
  exact z_loc [(0, vr (6, 0)), (1, vi (t_st (c (7, 0)) 0)), (2, vi (nI 0))] ⟨rfl, rfl, rfl, trivial⟩ (loop_4 (nt + 1) 0 (by omega) rfl (by omega))
