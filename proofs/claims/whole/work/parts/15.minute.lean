/-! the class: a minute of the furnace -/
def f_seen (u : Nat → Int32) : Int32 := if u 7 - u 7 / u 13 * u 13 = 0 then u 6 else u 8
def f_cl (u : Nat → Int32) (ch : Nat → Nat) : Int32 := nI (p_sm ch 8) - u 5
def f_air (nc : Nat) (le si nu ai : Nat → Int32) (ra ch : Nat → Nat) (u : Nat → Int32) : Int32 := n_air le si nu ai (f_seen u) (u 7) (f_cl u ch) (nI (p_sm ra 12)) (u 9) nc 0
def f_bn (a wa cl : Int32) : Int32 := if cl < (if wa < a then wa else a) then cl else if wa < a then wa else a
def f_h (h b : Int32) : Int32 := if 0 < (h + 12 * b) - (h + 12 * b) / 40 - 2 then (h + 12 * b) - (h + 12 * b) / 40 - 2 else 0
def f_min3 (n : Nat) : Nat := if n < 3 then n else 3
def f_k (b h : Int32) (ra : Nat → Nat) : Nat := if 0 < b ∧ 1000 ≤ h ∧ h ≤ 1300 then f_min3 (p_sm ra 12) else 0
def f_u (a b h : Int32) (u : Nat → Int32) : Nat → Int32 := fun j =>
  if j = 5 then u 5 + b else if j = 6 then h else if j = 7 then u 7 + 1 else if j = 8 then f_seen u else if j = 9 then a
  else if j = 10 then (if 1300 < h then u 10 + 1 else u 10)
  else if j = 11 then (if 1300 < h ∧ u 10 = 0 then u 7 else u 11) else u j
def f_ra (k : Nat) (ra : Nat → Nat) : Nat → Nat := fun i => ra i - ptt k ra 12 i
def f_bl (k : Nat) (ra bl : Nat → Nat) : Nat → Nat := fun i => bl i + ptt k ra 12 i
/-- the class's furnace, as numbers: ore, bloom, coal charged, ints 5 .. 13 -/
def XF (ra bl ch : Nat → Nat) (u : Nat → Int32) (c : r_c) : Prop := (c (14, 0) = fun i => nI (ra i)) ∧ (c (15, 0) = fun i => nI (bl i)) ∧ (c (16, 0) = fun i => nI (ch i)) ∧ c (13, 0) 3 = nI (p_sm ra 12) ∧ c (13, 0) 4 = f_cl u ch ∧ ∀ k, 5 ≤ k → k ≤ 13 → c (13, 0) k = u k
theorem ptt_le {N : Nat} {m : Nat → Nat} {n : Nat} (hN : N ≤ p_sm m n) (i : Nat) : ptt N m n i ≤ m i := by
  unfold ptt
  by_cases h : p_sm m n = 0
  · rw [if_pos h]; omega
  · rw [if_neg h]; exact part_le (by omega) hN i
theorem ptt_sum {N : Nat} {m : Nat → Nat} {n : Nat} (hN : N ≤ p_sm m n) : p_sm (ptt N m n) n = N := by
  by_cases h : p_sm m n = 0
  · have e : p_sm (ptt N m n) n = p_sm (fun _ => 0) n := p_sm_eq (fun i _ => if_pos h)
    have e2 : ∀ n, p_sm (fun _ => 0) n = 0 := fun n => by
      induction n with
      | zero => rfl
      | succ n ih => show p_sm (fun _ => 0) n + 0 = 0; rw [ih]
    rw [e, e2]
    omega
  · have e : p_sm (ptt N m n) n = p_sm (part N m n) n := p_sm_eq (fun i _ => if_neg h)
    rw [e, part_sum (by omega)]
theorem ptt_0 {m : Nat → Nat} {n : Nat} (i : Nat) : ptt 0 m n i = 0 := by
  unfold ptt
  by_cases h : p_sm m n = 0
  · rw [if_pos h]
  · rw [if_neg h]; exact part_0 (by omega) i
theorem p_sm_sub {f g : Nat → Nat} : ∀ {n : Nat}, (∀ i, i < n → g i ≤ f i) → p_sm (fun i => f i - g i) n = p_sm f n - p_sm g n ∧ p_sm g n ≤ p_sm f n
  | 0, _ => ⟨rfl, Nat.le_refl _⟩
  | n + 1, h => by
    obtain ⟨h1, h2⟩ := p_sm_sub (f := f) (g := g) (n := n) (fun i hi => h i (by omega))
    have h3 := h n (by omega)
    constructor
    · show p_sm (fun i => f i - g i) n + (f n - g n) = p_sm f n + f n - (p_sm g n + g n)
      rw [h1]; omega
    · show p_sm g n + g n ≤ p_sm f n + f n
      omega
theorem f_min3_le (n : Nat) : f_min3 n ≤ n ∧ f_min3 n ≤ 3 := by unfold f_min3; split <;> omega
theorem f_k_le (b h : Int32) (ra : Nat → Nat) : f_k b h ra ≤ p_sm ra 12 ∧ f_k b h ra ≤ 3 := by
  have := f_min3_le (p_sm ra 12)
  unfold f_k
  split <;> omega
theorem f_ra_sum (k : Nat) {ra : Nat → Nat} (hk : k ≤ p_sm ra 12) : p_sm (f_ra k ra) 12 = p_sm ra 12 - k := by
  have h := p_sm_sub (f := ra) (g := ptt k ra 12) (n := 12) (fun i _ => ptt_le hk i)
  rw [ptt_sum hk] at h
  exact h.1
theorem f_ra_0 (ra : Nat → Nat) : f_ra 0 ra = ra := by funext i; unfold f_ra; rw [ptt_0]; omega
theorem f_bl_0 (ra bl : Nat → Nat) : f_bl 0 ra bl = bl := by funext i; unfold f_bl; rw [ptt_0]; omega
theorem nI_min3 {n : Nat} (h : n < 2 ^ 31) : (if nI n < nI 3 then nI n else nI 3) = nI (f_min3 n) := by
  unfold f_min3
  by_cases q : n < 3
  · rw [if_pos q, if_pos ((nI_ltI h (by decide)).mpr q)]
  · rw [if_neg q, if_neg (fun z => q ((nI_ltI h (by decide)).mp z))]
set_option maxHeartbeats 4000000 in
set_option maxRecDepth 100000 in
theorem m_X3_passMinute (G : z_G) {nb na np g : Nat} {w0 w : z_w} {c : r_c} {l : r_l} {r : r_r} (hR : r_p dX (TX nb na np g) w0 c l r w) (ra bl ch : Nat → Nat) (u : Nat → Int32) (nc : Nat) (hF : XF ra bl ch u c) (hgap : ¬ u 13 ≤ 0) (hra : p_sm ra 12 < 2 ^ 30) (hc : c (8, 0) 4 = nI nc) (h40 : nc ≤ 40) (a_ b_ h_ : Int32) (k_ : Nat) (hA : a_ = f_air nc (c (9, 0)) (c (10, 0)) (c (11, 0)) (c (12, 0)) ra ch u) (hB : b_ = f_bn a_ (u 12) (f_cl u ch)) (hH : h_ = f_h (u 6) b_) (hK : k_ = f_k b_ h_ ra) : z_M G yX3_passMinute cX3_passMinute 4 none 5 (0) (0) [vr (13, 0), vr (8, 0), vr (44, 0)] w (fun q w1 => q = none ∧ ∃ c1 l1, r_p dX (TX nb na np g) w0 (c1) (l1) (r) w1 ∧ XF (f_ra k_ ra) (f_bl k_ ra bl) ch (f_u a_ b_ h_ u) c1 ∧ (∀ t, t ≠ (13, 0) → t ≠ (14, 0) → t ≠ (15, 0) → t ≠ (45, 0) → c1 t = c t)) := by
  refine z_met ym_X3_passMinute (by decide) ⟨Nat.le_of_ble_eq_true rfl, Nat.le_of_ble_eq_true rfl⟩ (fun X hG hn hmc hms hin h hr => ?_)
  have he := hr.2.2.2.2.2.1
  obtain ⟨h14, h15, h16, h3, h4, hu⟩ := hF
  have join_27 : ∀ (w1 : z_w), r_p dX (TX nb na np g) w0 (r_cs c (13, 0) 8 (f_seen u)) (l) (r) w1 → z_V X 0 0 w1 27 [(0, vr (13, 0)), (1, vr (8, 0)), (2, vr (44, 0))] [] := by
    intro w hR
    refine z_aload_n h dX3_passMinute_27 rfl ?_
    refine z_aload_n h dX3_passMinute_28 rfl ?_
    refine z_aload_n h dX3_passMinute_29 rfl ?_
    refine z_callV h dX3_passMinute_30 (fun _ _ q => z_okv_no he q) (fun _ _ _ t q => absurd q (he t)) (m_X2_airFor _ hR nc hc h40) ym_X2_airFor mlX3_50 im_X2_airFor (ci := 2) rfl se_X2_airFor icX2 rfl (r_p.ob hR (by first | assumption | exact Nat.le_of_ble_eq_true rfl) (by first | rfl | assumption | exact tx_2 (by first | assumption | omega) | exact tx_18 (by first | assumption | omega) | exact tx_19 (by first | assumption | omega) | exact tx_20 (by first | assumption | omega) | exact tx_27 (by first | assumption | omega) | exact tx_28 (by first | assumption | omega) | exact tx_30 (by first | assumption | omega) | exact tx_31 (by first | assumption | omega) | exact tx_32 (by first | assumption | omega) | exact tx_33 (by first | assumption | omega))) rfl (by decide) (Nat.le_of_ble_eq_true rfl) ?_
    rintro q1 w1 ⟨rfl, rfl⟩
    refine z_toe (y := a_) (by
      show n_air (c (9, 0)) (c (10, 0)) (c (11, 0)) (c (12, 0)) (f_seen u) (c (13, 0) 7) (c (13, 0) 4) (c (13, 0) 3) (c (13, 0) 9) nc 0 = _
      rw [hu 7 (by omega) (by omega), hu 9 (by omega) (by omega), h4, h3, hA]
      rfl) ?_
    refine y_put h dX3_passMinute_33 he hR flX3_56 rfl (by first | assumption | exact Nat.le_of_ble_eq_true rfl) (by first | rfl | assumption | exact tx_2 (by first | assumption | omega) | exact tx_18 (by first | assumption | omega) | exact tx_19 (by first | assumption | omega) | exact tx_20 (by first | assumption | omega) | exact tx_27 (by first | assumption | omega) | exact tx_28 (by first | assumption | omega) | exact tx_30 (by first | assumption | omega) | exact tx_31 (by first | assumption | omega) | exact tx_32 (by first | assumption | omega) | exact tx_33 (by first | assumption | omega)) (by rfl) (fun w hR => ?_)
    refine z_aload_n h dX3_passMinute_36 rfl ?_
    refine y_geti h dX3_passMinute_37 hR flX3_56 (by first | assumption | exact Nat.le_of_ble_eq_true rfl) (by first | rfl | assumption | exact tx_2 (by first | assumption | omega) | exact tx_18 (by first | assumption | omega) | exact tx_19 (by first | assumption | omega) | exact tx_20 (by first | assumption | omega) | exact tx_27 (by first | assumption | omega) | exact tx_28 (by first | assumption | omega) | exact tx_30 (by first | assumption | omega) | exact tx_31 (by first | assumption | omega) | exact tx_32 (by first | assumption | omega) | exact tx_33 (by first | assumption | omega)) (by rfl) ?_
    refine z_aload_n h dX3_passMinute_40 rfl ?_
    refine y_geti h dX3_passMinute_41 hR flX3_25 (by first | assumption | exact Nat.le_of_ble_eq_true rfl) (by first | rfl | assumption | exact tx_2 (by first | assumption | omega) | exact tx_18 (by first | assumption | omega) | exact tx_19 (by first | assumption | omega) | exact tx_20 (by first | assumption | omega) | exact tx_27 (by first | assumption | omega) | exact tx_28 (by first | assumption | omega) | exact tx_30 (by first | assumption | omega) | exact tx_31 (by first | assumption | omega) | exact tx_32 (by first | assumption | omega) | exact tx_33 (by first | assumption | omega)) (by rfl) ?_
    refine z_min h dX3_passMinute_44 mlX3_59 sm_Mmin ic_Math co_Mmin (Nat.le_of_ble_eq_true rfl) ?_
    refine z_aload_n h dX3_passMinute_47 rfl ?_
    refine y_geti h dX3_passMinute_48 hR flX3_34 (by first | assumption | exact Nat.le_of_ble_eq_true rfl) (by first | rfl | assumption | exact tx_2 (by first | assumption | omega) | exact tx_18 (by first | assumption | omega) | exact tx_19 (by first | assumption | omega) | exact tx_20 (by first | assumption | omega) | exact tx_27 (by first | assumption | omega) | exact tx_28 (by first | assumption | omega) | exact tx_30 (by first | assumption | omega) | exact tx_31 (by first | assumption | omega) | exact tx_32 (by first | assumption | omega) | exact tx_33 (by first | assumption | omega)) (by rfl) ?_
    refine z_min h dX3_passMinute_51 mlX3_59 sm_Mmin ic_Math co_Mmin (Nat.le_of_ble_eq_true rfl) ?_
    refine z_toe (y := b_) (by
      show (if c (13, 0) 4 < (if c (13, 0) 12 < a_ then c (13, 0) 12 else a_) then c (13, 0) 4 else if c (13, 0) 12 < a_ then c (13, 0) 12 else a_) = _
      rw [hu 12 (by omega) (by omega), h4, hB]
      rfl) ?_
    refine z_istore_n h dX3_passMinute_54 (by rw [hn]; decide) ?_
    refine z_aload_n h dX3_passMinute_55 rfl ?_
    refine z_dup_r h dX3_passMinute_56 ?_
    refine y_geti h dX3_passMinute_57 hR flX3_34 (by first | assumption | exact Nat.le_of_ble_eq_true rfl) (by first | rfl | assumption | exact tx_2 (by first | assumption | omega) | exact tx_18 (by first | assumption | omega) | exact tx_19 (by first | assumption | omega) | exact tx_20 (by first | assumption | omega) | exact tx_27 (by first | assumption | omega) | exact tx_28 (by first | assumption | omega) | exact tx_30 (by first | assumption | omega) | exact tx_31 (by first | assumption | omega) | exact tx_32 (by first | assumption | omega) | exact tx_33 (by first | assumption | omega)) (by rfl) ?_
    refine z_iload_n h dX3_passMinute_60 rfl ?_
    refine z_isub h dX3_passMinute_61 ?_
    refine y_put h dX3_passMinute_62 he hR flX3_34 rfl (by first | assumption | exact Nat.le_of_ble_eq_true rfl) (by first | rfl | assumption | exact tx_2 (by first | assumption | omega) | exact tx_18 (by first | assumption | omega) | exact tx_19 (by first | assumption | omega) | exact tx_20 (by first | assumption | omega) | exact tx_27 (by first | assumption | omega) | exact tx_28 (by first | assumption | omega) | exact tx_30 (by first | assumption | omega) | exact tx_31 (by first | assumption | omega) | exact tx_32 (by first | assumption | omega) | exact tx_33 (by first | assumption | omega)) (by rfl) (fun w hR => ?_)
    refine z_aload_n h dX3_passMinute_65 rfl ?_
    refine z_dup_r h dX3_passMinute_66 ?_
    refine y_geti h dX3_passMinute_67 hR flX3_65 (by first | assumption | exact Nat.le_of_ble_eq_true rfl) (by first | rfl | assumption | exact tx_2 (by first | assumption | omega) | exact tx_18 (by first | assumption | omega) | exact tx_19 (by first | assumption | omega) | exact tx_20 (by first | assumption | omega) | exact tx_27 (by first | assumption | omega) | exact tx_28 (by first | assumption | omega) | exact tx_30 (by first | assumption | omega) | exact tx_31 (by first | assumption | omega) | exact tx_32 (by first | assumption | omega) | exact tx_33 (by first | assumption | omega)) (by rfl) ?_
    refine z_iload_n h dX3_passMinute_70 rfl ?_
    refine z_iadd h dX3_passMinute_71 ?_
    refine y_put h dX3_passMinute_72 he hR flX3_65 rfl (by first | assumption | exact Nat.le_of_ble_eq_true rfl) (by first | rfl | assumption | exact tx_2 (by first | assumption | omega) | exact tx_18 (by first | assumption | omega) | exact tx_19 (by first | assumption | omega) | exact tx_20 (by first | assumption | omega) | exact tx_27 (by first | assumption | omega) | exact tx_28 (by first | assumption | omega) | exact tx_30 (by first | assumption | omega) | exact tx_31 (by first | assumption | omega) | exact tx_32 (by first | assumption | omega) | exact tx_33 (by first | assumption | omega)) (by rfl) (fun w hR => ?_)
    refine z_aload_n h dX3_passMinute_75 rfl ?_
    refine z_dup_r h dX3_passMinute_76 ?_
    refine y_geti h dX3_passMinute_77 hR flX3_44 (by first | assumption | exact Nat.le_of_ble_eq_true rfl) (by first | rfl | assumption | exact tx_2 (by first | assumption | omega) | exact tx_18 (by first | assumption | omega) | exact tx_19 (by first | assumption | omega) | exact tx_20 (by first | assumption | omega) | exact tx_27 (by first | assumption | omega) | exact tx_28 (by first | assumption | omega) | exact tx_30 (by first | assumption | omega) | exact tx_31 (by first | assumption | omega) | exact tx_32 (by first | assumption | omega) | exact tx_33 (by first | assumption | omega)) (by rfl) ?_
    refine z_bipush (v := 12) h dX3_passMinute_80 (by decide) ?_
    refine z_iload_n h dX3_passMinute_82 rfl ?_
    refine z_imul h dX3_passMinute_83 ?_
    refine z_iadd h dX3_passMinute_84 ?_
    refine y_put h dX3_passMinute_85 he hR flX3_44 rfl (by first | assumption | exact Nat.le_of_ble_eq_true rfl) (by first | rfl | assumption | exact tx_2 (by first | assumption | omega) | exact tx_18 (by first | assumption | omega) | exact tx_19 (by first | assumption | omega) | exact tx_20 (by first | assumption | omega) | exact tx_27 (by first | assumption | omega) | exact tx_28 (by first | assumption | omega) | exact tx_30 (by first | assumption | omega) | exact tx_31 (by first | assumption | omega) | exact tx_32 (by first | assumption | omega) | exact tx_33 (by first | assumption | omega)) (by rfl) (fun w hR => ?_)
    refine z_aload_n h dX3_passMinute_88 rfl ?_
    refine z_iconst (v := 0) h dX3_passMinute_89 (by decide) ?_
    refine z_aload_n h dX3_passMinute_90 rfl ?_
    refine y_geti h dX3_passMinute_91 hR flX3_44 (by first | assumption | exact Nat.le_of_ble_eq_true rfl) (by first | rfl | assumption | exact tx_2 (by first | assumption | omega) | exact tx_18 (by first | assumption | omega) | exact tx_19 (by first | assumption | omega) | exact tx_20 (by first | assumption | omega) | exact tx_27 (by first | assumption | omega) | exact tx_28 (by first | assumption | omega) | exact tx_30 (by first | assumption | omega) | exact tx_31 (by first | assumption | omega) | exact tx_32 (by first | assumption | omega) | exact tx_33 (by first | assumption | omega)) (by rfl) ?_
    refine z_aload_n h dX3_passMinute_94 rfl ?_
    refine y_geti h dX3_passMinute_95 hR flX3_44 (by first | assumption | exact Nat.le_of_ble_eq_true rfl) (by first | rfl | assumption | exact tx_2 (by first | assumption | omega) | exact tx_18 (by first | assumption | omega) | exact tx_19 (by first | assumption | omega) | exact tx_20 (by first | assumption | omega) | exact tx_27 (by first | assumption | omega) | exact tx_28 (by first | assumption | omega) | exact tx_30 (by first | assumption | omega) | exact tx_31 (by first | assumption | omega) | exact tx_32 (by first | assumption | omega) | exact tx_33 (by first | assumption | omega)) (by rfl) ?_
    refine z_bipush (v := 40) h dX3_passMinute_98 (by decide) ?_
    refine z_idiv h dX3_passMinute_100 (by first | assumption | decide) ?_
    refine z_isub h dX3_passMinute_101 ?_
    refine z_iconst (v := 2) h dX3_passMinute_102 (by decide) ?_
    refine z_isub h dX3_passMinute_103 ?_
    refine z_max h dX3_passMinute_104 mlX3_68 sm_Mmax ic_Math co_Mmax (Nat.le_of_ble_eq_true rfl) ?_
    refine z_toe (y := h_) (by
      show (if 0 < (c (13, 0) 6 + 12 * b_) - (c (13, 0) 6 + 12 * b_) / 40 - 2 then (c (13, 0) 6 + 12 * b_) - (c (13, 0) 6 + 12 * b_) / 40 - 2 else 0) = _
      rw [hu 6 (by omega) (by omega), hH]
      rfl) ?_
    refine y_put h dX3_passMinute_107 he hR flX3_44 rfl (by first | assumption | exact Nat.le_of_ble_eq_true rfl) (by first | rfl | assumption | exact tx_2 (by first | assumption | omega) | exact tx_18 (by first | assumption | omega) | exact tx_19 (by first | assumption | omega) | exact tx_20 (by first | assumption | omega) | exact tx_27 (by first | assumption | omega) | exact tx_28 (by first | assumption | omega) | exact tx_30 (by first | assumption | omega) | exact tx_31 (by first | assumption | omega) | exact tx_32 (by first | assumption | omega) | exact tx_33 (by first | assumption | omega)) (by rfl) (fun w hR => ?_)
    have join_147 : ∀ (w1 : z_w) (c1 : r_c) (l1 : r_l), r_p dX (TX nb na np g) w0 (c1) (l1) (r) w1 → (c1 (14, 0) = fun i => nI (f_ra k_ ra i)) → (c1 (15, 0) = fun i => nI (f_bl k_ ra bl i)) → (c1 (16, 0) = fun i => nI (ch i)) → c1 (13, 0) 3 = nI (p_sm (f_ra k_ ra) 12) → c1 (13, 0) 4 = f_cl u ch - b_ → c1 (13, 0) 5 = u 5 + b_ → c1 (13, 0) 6 = h_ → c1 (13, 0) 7 = u 7 → c1 (13, 0) 8 = f_seen u → c1 (13, 0) 9 = a_ → c1 (13, 0) 10 = u 10 → c1 (13, 0) 11 = u 11 → c1 (13, 0) 12 = u 12 → c1 (13, 0) 13 = u 13 → (∀ t, t ≠ (13, 0) → t ≠ (14, 0) → t ≠ (15, 0) → t ≠ (45, 0) → c1 t = c t) → z_V X 0 0 w1 147 [(0, vr (13, 0)), (1, vr (8, 0)), (2, vr (44, 0)), (3, vi b_)] [] := by
      intro w c1 l1 hR g14 g15 g16 g3 g4 g5 g6 g7 g8 g9 g10 g11 g12 g13 gf
      refine z_aload_n h dX3_passMinute_147 rfl ?_
      refine y_geti h dX3_passMinute_148 hR flX3_44 (by first | assumption | exact Nat.le_of_ble_eq_true rfl) (by first | rfl | assumption | exact tx_2 (by first | assumption | omega) | exact tx_18 (by first | assumption | omega) | exact tx_19 (by first | assumption | omega) | exact tx_20 (by first | assumption | omega) | exact tx_27 (by first | assumption | omega) | exact tx_28 (by first | assumption | omega) | exact tx_30 (by first | assumption | omega) | exact tx_31 (by first | assumption | omega) | exact tx_32 (by first | assumption | omega) | exact tx_33 (by first | assumption | omega)) (by rfl) ?_
      refine z_sipush (v := 1300) h dX3_passMinute_151 (by decide) ?_
      refine z_icmp_le h dX3_passMinute_154 161 (by decide) (fun c_6 => ?_) (fun c_6 => ?_)
      · skip
        have hsc : ¬ 1300 < h_ := by rw [g6] at c_6; clear g3 g4 g5 g6 g7 g8 g9 g10 g11 g12 g13; simp only [z_lt, z_le, z_ie] at *; omega
        refine z_aload_n h dX3_passMinute_161 rfl ?_
        refine z_dup_r h dX3_passMinute_162 ?_
        refine y_geti h dX3_passMinute_163 hR flX3_41 (by first | assumption | exact Nat.le_of_ble_eq_true rfl) (by first | rfl | assumption | exact tx_2 (by first | assumption | omega) | exact tx_18 (by first | assumption | omega) | exact tx_19 (by first | assumption | omega) | exact tx_20 (by first | assumption | omega) | exact tx_27 (by first | assumption | omega) | exact tx_28 (by first | assumption | omega) | exact tx_30 (by first | assumption | omega) | exact tx_31 (by first | assumption | omega) | exact tx_32 (by first | assumption | omega) | exact tx_33 (by first | assumption | omega)) (by rfl) ?_
        refine z_iconst (v := 1) h dX3_passMinute_166 (by decide) ?_
        refine z_iadd h dX3_passMinute_167 ?_
        refine y_put h dX3_passMinute_168 he hR flX3_41 rfl (by first | assumption | exact Nat.le_of_ble_eq_true rfl) (by first | rfl | assumption | exact tx_2 (by first | assumption | omega) | exact tx_18 (by first | assumption | omega) | exact tx_19 (by first | assumption | omega) | exact tx_20 (by first | assumption | omega) | exact tx_27 (by first | assumption | omega) | exact tx_28 (by first | assumption | omega) | exact tx_30 (by first | assumption | omega) | exact tx_31 (by first | assumption | omega) | exact tx_32 (by first | assumption | omega) | exact tx_33 (by first | assumption | omega)) (by rfl) (fun w hR => ?_)
        exact z_vret h dX3_passMinute_171 hr (⟨rfl, _, _, hR, ⟨g14, g15, g16, g3, by
            show c1 (13, 0) 4 = nI (p_sm ch 8) - (u 5 + b_)
            rw [g4]; unfold f_cl; rw [Int32.sub_sub], fun k hk1 hk2 => by
            rcases (show k = 5 ∨ k = 6 ∨ k = 7 ∨ k = 8 ∨ k = 9 ∨ k = 10 ∨ k = 11 ∨ k = 12 ∨ k = 13 by omega) with rfl | rfl | rfl | rfl | rfl | rfl | rfl | rfl | rfl
            · exact g5
            · exact g6
            · show c1 (13, 0) 7 + 1 = u 7 + 1; rw [g7]
            · exact g8
            · exact g9
            · show c1 (13, 0) 10 = if 1300 < h_ then u 10 + 1 else u 10; rw [if_neg hsc, g10]
            · show c1 (13, 0) 11 = if 1300 < h_ ∧ u 10 = 0 then u 7 else u 11
              rw [g11, if_neg (fun q => hsc q.1)]
            · exact g12
            · exact g13⟩, fun t h1 h2 h3 h4 => by
            rw [← gf t h1 h2 h3 h4]; simp only [r_cs, r_cf_ne h1]⟩)
      · skip
        have hsc : 1300 < h_ := by rw [g6] at c_6; clear g3 g4 g5 g6 g7 g8 g9 g10 g11 g12 g13; simp only [z_lt, z_le, z_ie] at *; omega
        refine z_aload_n h dX3_passMinute_157 rfl ?_
        refine z_callV h dX3_passMinute_158 (fun _ _ q => z_okv_no he q) (fun _ _ _ t q => absurd q (he t)) (m_X3_noteScorch _ hR) ym_X3_noteScorch mlX3_75 im_X3_noteScorch (ci := 3) rfl se_X3_noteScorch icX3 rfl (r_p.ob hR (by first | assumption | exact Nat.le_of_ble_eq_true rfl) (by first | rfl | assumption | exact tx_2 (by first | assumption | omega) | exact tx_18 (by first | assumption | omega) | exact tx_19 (by first | assumption | omega) | exact tx_20 (by first | assumption | omega) | exact tx_27 (by first | assumption | omega) | exact tx_28 (by first | assumption | omega) | exact tx_30 (by first | assumption | omega) | exact tx_31 (by first | assumption | omega) | exact tx_32 (by first | assumption | omega) | exact tx_33 (by first | assumption | omega))) rfl (by decide) (Nat.le_of_ble_eq_true rfl) ?_
        rintro q1 w ⟨rfl, hR⟩
        refine z_aload_n h dX3_passMinute_161 rfl ?_
        refine z_dup_r h dX3_passMinute_162 ?_
        refine y_geti h dX3_passMinute_163 hR flX3_41 (by first | assumption | exact Nat.le_of_ble_eq_true rfl) (by first | rfl | assumption | exact tx_2 (by first | assumption | omega) | exact tx_18 (by first | assumption | omega) | exact tx_19 (by first | assumption | omega) | exact tx_20 (by first | assumption | omega) | exact tx_27 (by first | assumption | omega) | exact tx_28 (by first | assumption | omega) | exact tx_30 (by first | assumption | omega) | exact tx_31 (by first | assumption | omega) | exact tx_32 (by first | assumption | omega) | exact tx_33 (by first | assumption | omega)) (by rfl) ?_
        refine z_iconst (v := 1) h dX3_passMinute_166 (by decide) ?_
        refine z_iadd h dX3_passMinute_167 ?_
        refine y_put h dX3_passMinute_168 he hR flX3_41 rfl (by first | assumption | exact Nat.le_of_ble_eq_true rfl) (by first | rfl | assumption | exact tx_2 (by first | assumption | omega) | exact tx_18 (by first | assumption | omega) | exact tx_19 (by first | assumption | omega) | exact tx_20 (by first | assumption | omega) | exact tx_27 (by first | assumption | omega) | exact tx_28 (by first | assumption | omega) | exact tx_30 (by first | assumption | omega) | exact tx_31 (by first | assumption | omega) | exact tx_32 (by first | assumption | omega) | exact tx_33 (by first | assumption | omega)) (by rfl) (fun w hR => ?_)
        exact z_vret h dX3_passMinute_171 hr (⟨rfl, _, _, hR, ⟨g14, g15, g16, g3, by
            show c1 (13, 0) 4 = nI (p_sm ch 8) - (u 5 + b_)
            rw [g4]; unfold f_cl; rw [Int32.sub_sub], fun k hk1 hk2 => by
            rcases (show k = 5 ∨ k = 6 ∨ k = 7 ∨ k = 8 ∨ k = 9 ∨ k = 10 ∨ k = 11 ∨ k = 12 ∨ k = 13 by omega) with rfl | rfl | rfl | rfl | rfl | rfl | rfl | rfl | rfl
            · exact g5
            · exact g6
            · show c1 (13, 0) 7 + 1 = u 7 + 1; rw [g7]
            · exact g8
            · exact g9
            · show c1 (13, 0) 10 + 1 = if 1300 < h_ then u 10 + 1 else u 10; rw [if_pos hsc, g10]
            · show (if c1 (13, 0) 10 = 0 then c1 (13, 0) 7 else c1 (13, 0) 11) = if 1300 < h_ ∧ u 10 = 0 then u 7 else u 11
              rw [g10, g7, g11]
              by_cases hz : u 10 = 0
              · rw [if_pos hz, if_pos ⟨hsc, hz⟩]
              · rw [if_neg hz, if_neg (fun q => hz q.2)]
            · exact g12
            · exact g13⟩, fun t h1 h2 h3 h4 => by
            rw [← gf t h1 h2 h3 h4]; simp only [r_cs, r_cf_ne h1]⟩)
    refine z_iload_n h dX3_passMinute_110 rfl ?_
    refine z_if_le h dX3_passMinute_111 147 (by decide) (fun c_3 => ?_) (fun c_3 => ?_)
    · skip
      refine z_loc [(0, vr (13, 0)), (1, vr (8, 0)), (2, vr (44, 0)), (3, vi b_)] ⟨rfl, rfl, rfl, rfl, trivial⟩ ?_
      have hk0 : k_ = 0 := hK.trans (if_neg (fun q => absurd q.1 (by simp only [z_lt, z_le, z_ie] at *; omega)))
      refine join_147 _ _ _ hR (by rw [hk0, f_ra_0]; exact h14) (by rw [hk0, f_bl_0]; exact h15) h16 (by rw [hk0, f_ra_0]; exact h3) (by show c (13, 0) 4 - _ = _; rw [h4]) (by show c (13, 0) 5 + _ = _; rw [hu 5 (by omega) (by omega)]) rfl (hu 7 (by omega) (by omega)) rfl rfl (hu 10 (by omega) (by omega)) (hu 11 (by omega) (by omega)) (hu 12 (by omega) (by omega)) (hu 13 (by omega) (by omega)) (fun t h1 h2 h3 h4 => by simp only [r_cs, r_cf_ne h1])
    · skip
      refine z_aload_n h dX3_passMinute_114 rfl ?_
      refine y_geti h dX3_passMinute_115 hR flX3_44 (by first | assumption | exact Nat.le_of_ble_eq_true rfl) (by first | rfl | assumption | exact tx_2 (by first | assumption | omega) | exact tx_18 (by first | assumption | omega) | exact tx_19 (by first | assumption | omega) | exact tx_20 (by first | assumption | omega) | exact tx_27 (by first | assumption | omega) | exact tx_28 (by first | assumption | omega) | exact tx_30 (by first | assumption | omega) | exact tx_31 (by first | assumption | omega) | exact tx_32 (by first | assumption | omega) | exact tx_33 (by first | assumption | omega)) (by rfl) ?_
      refine z_toe (y := h_) rfl ?_
      refine z_sipush (v := 1000) h dX3_passMinute_118 (by decide) ?_
      refine z_icmp_lt h dX3_passMinute_121 147 (by decide) (fun c_4 => ?_) (fun c_4 => ?_)
      · skip
        refine z_loc [(0, vr (13, 0)), (1, vr (8, 0)), (2, vr (44, 0)), (3, vi b_)] ⟨rfl, rfl, rfl, rfl, trivial⟩ ?_
        have hk0 : k_ = 0 := hK.trans (if_neg (fun q => absurd q.2.1 (by simp only [z_lt, z_le, z_ie] at *; omega)))
        refine join_147 _ _ _ hR (by rw [hk0, f_ra_0]; exact h14) (by rw [hk0, f_bl_0]; exact h15) h16 (by rw [hk0, f_ra_0]; exact h3) (by show c (13, 0) 4 - _ = _; rw [h4]) (by show c (13, 0) 5 + _ = _; rw [hu 5 (by omega) (by omega)]) rfl (hu 7 (by omega) (by omega)) rfl rfl (hu 10 (by omega) (by omega)) (hu 11 (by omega) (by omega)) (hu 12 (by omega) (by omega)) (hu 13 (by omega) (by omega)) (fun t h1 h2 h3 h4 => by simp only [r_cs, r_cf_ne h1])
      · skip
        refine z_aload_n h dX3_passMinute_124 rfl ?_
        refine y_geti h dX3_passMinute_125 hR flX3_44 (by first | assumption | exact Nat.le_of_ble_eq_true rfl) (by first | rfl | assumption | exact tx_2 (by first | assumption | omega) | exact tx_18 (by first | assumption | omega) | exact tx_19 (by first | assumption | omega) | exact tx_20 (by first | assumption | omega) | exact tx_27 (by first | assumption | omega) | exact tx_28 (by first | assumption | omega) | exact tx_30 (by first | assumption | omega) | exact tx_31 (by first | assumption | omega) | exact tx_32 (by first | assumption | omega) | exact tx_33 (by first | assumption | omega)) (by rfl) ?_
        refine z_toe (y := h_) rfl ?_
        refine z_sipush (v := 1300) h dX3_passMinute_128 (by decide) ?_
        refine z_icmp_gt h dX3_passMinute_131 147 (by decide) (fun c_5 => ?_) (fun c_5 => ?_)
        · skip
          refine z_loc [(0, vr (13, 0)), (1, vr (8, 0)), (2, vr (44, 0)), (3, vi b_)] ⟨rfl, rfl, rfl, rfl, trivial⟩ ?_
          have hk0 : k_ = 0 := hK.trans (if_neg (fun q => absurd q.2.2 (by simp only [z_lt, z_le, z_ie] at *; omega)))
          refine join_147 _ _ _ hR (by rw [hk0, f_ra_0]; exact h14) (by rw [hk0, f_bl_0]; exact h15) h16 (by rw [hk0, f_ra_0]; exact h3) (by show c (13, 0) 4 - _ = _; rw [h4]) (by show c (13, 0) 5 + _ = _; rw [hu 5 (by omega) (by omega)]) rfl (hu 7 (by omega) (by omega)) rfl rfl (hu 10 (by omega) (by omega)) (hu 11 (by omega) (by omega)) (hu 12 (by omega) (by omega)) (hu 13 (by omega) (by omega)) (fun t h1 h2 h3 h4 => by simp only [r_cs, r_cf_ne h1])
        · skip
          refine z_aload_n h dX3_passMinute_134 rfl ?_
          refine z_iconst (v := 3) h dX3_passMinute_135 (by decide) ?_
          refine z_aload_n h dX3_passMinute_136 rfl ?_
          refine y_geti h dX3_passMinute_137 hR flX3_31 (by first | assumption | exact Nat.le_of_ble_eq_true rfl) (by first | rfl | assumption | exact tx_2 (by first | assumption | omega) | exact tx_18 (by first | assumption | omega) | exact tx_19 (by first | assumption | omega) | exact tx_20 (by first | assumption | omega) | exact tx_27 (by first | assumption | omega) | exact tx_28 (by first | assumption | omega) | exact tx_30 (by first | assumption | omega) | exact tx_31 (by first | assumption | omega) | exact tx_32 (by first | assumption | omega) | exact tx_33 (by first | assumption | omega)) (by rfl) ?_
          refine z_min h dX3_passMinute_140 mlX3_59 sm_Mmin ic_Math co_Mmin (Nat.le_of_ble_eq_true rfl) ?_
          refine z_toe (y := nI (f_min3 (p_sm ra 12))) (by show (if c (13, 0) 3 < 3 then c (13, 0) 3 else 3) = _; rw [h3]; exact nI_min3 (by omega)) ?_
          refine z_aload_n h dX3_passMinute_143 rfl ?_
          refine z_callV h dX3_passMinute_144 (fun _ _ q => z_okv_no he q) (fun _ _ _ t q => absurd q (he t)) (m_X3_reduce _ hR (f_min3 (p_sm ra 12)) ra (by have := f_min3_le (p_sm ra 12); omega) (fun i hi => ⟨by have := p_sm_one (f := ra) hi; omega, by rw [show r_cs (r_cs (r_cs (r_cs (r_cs (r_cs c (13, 0) 8 (f_seen u)) (13, 0) 9 _) (13, 0) 4 _) (13, 0) 5 _) (13, 0) 6 _) (13, 0) 6 _ (14, 0) = c (14, 0) from rfl, h14]⟩)) ym_X3_reduce mlX3_71 im_X3_reduce (ci := 3) rfl se_X3_reduce icX3 rfl (r_p.ob hR (by first | assumption | exact Nat.le_of_ble_eq_true rfl) (by first | rfl | assumption | exact tx_2 (by first | assumption | omega) | exact tx_18 (by first | assumption | omega) | exact tx_19 (by first | assumption | omega) | exact tx_20 (by first | assumption | omega) | exact tx_27 (by first | assumption | omega) | exact tx_28 (by first | assumption | omega) | exact tx_30 (by first | assumption | omega) | exact tx_31 (by first | assumption | omega) | exact tx_32 (by first | assumption | omega) | exact tx_33 (by first | assumption | omega))) rfl (by decide) (Nat.le_of_ble_eq_true rfl) ?_
          rintro q1 w1 ⟨rfl, hq⟩
          refine z_loc [(0, vr (13, 0)), (1, vr (8, 0)), (2, vr (44, 0)), (3, vi b_)] ⟨rfl, rfl, rfl, rfl, trivial⟩ ?_
          have hcond : 0 < b_ ∧ 1000 ≤ h_ ∧ h_ ≤ 1300 := ⟨by simp only [z_lt, z_le, z_ie] at *; omega, by simp only [z_lt, z_le, z_ie] at *; omega, by simp only [z_lt, z_le, z_ie] at *; omega⟩
          have hkk : k_ = f_min3 (p_sm ra 12) := hK.trans (if_pos hcond)
          by_cases hz : f_min3 (p_sm ra 12) = 0
          · rw [if_pos hz] at hq
            subst hq
            have hk0 : k_ = 0 := hkk.trans hz
            exact join_147 _ _ _ hR (by rw [hk0, f_ra_0]; exact h14) (by rw [hk0, f_bl_0]; exact h15) h16 (by rw [hk0, f_ra_0]; exact h3) (by show c (13, 0) 4 - _ = _; rw [h4]) (by show c (13, 0) 5 + _ = _; rw [hu 5 (by omega) (by omega)]) rfl (hu 7 (by omega) (by omega)) rfl rfl (hu 10 (by omega) (by omega)) (hu 11 (by omega) (by omega)) (hu 12 (by omega) (by omega)) (hu 13 (by omega) (by omega)) (fun t h1 h2 h3 h4 => by simp only [r_cs, r_cf_ne h1])
          · rw [if_neg hz] at hq
            obtain ⟨sf, lf, hR⟩ := hq
            have hkle := f_min3_le (p_sm ra 12)
            refine join_147 _ _ _ hR ?_ ?_ h16 ?_ (by show c (13, 0) 4 - _ = _; rw [h4]) (by show c (13, 0) 5 + _ = _; rw [hu 5 (by omega) (by omega)]) rfl (hu 7 (by omega) (by omega)) rfl rfl (hu 10 (by omega) (by omega)) (hu 11 (by omega) (by omega)) (hu 12 (by omega) (by omega)) (hu 13 (by omega) (by omega)) (fun t h1 h2 h3 h4 => by simp only [r_cs, r_cf_ne h1, r_cf_ne h2, r_cf_ne h3, r_cf_ne h4])
            · funext i
              show c (14, 0) i - nI (ptt (f_min3 (p_sm ra 12)) ra 12 i) = _
              rw [hkk, h14]
              exact pk_sub (ptt_le hkle.1 i)
            · funext i
              show c (15, 0) i + nI (ptt (f_min3 (p_sm ra 12)) ra 12 i) = _
              rw [hkk, h15]
              exact nI_add _ _
            · show c (13, 0) 3 - nI (f_min3 (p_sm ra 12)) = _
              rw [hkk, h3, f_ra_sum _ hkle.1]
              exact pk_sub hkle.1
  refine z_aload_n h dX3_passMinute_0 rfl ?_
  refine y_geti h dX3_passMinute_1 hR flX3_28 (by first | assumption | exact Nat.le_of_ble_eq_true rfl) (by first | rfl | assumption | exact tx_2 (by first | assumption | omega) | exact tx_18 (by first | assumption | omega) | exact tx_19 (by first | assumption | omega) | exact tx_20 (by first | assumption | omega) | exact tx_27 (by first | assumption | omega) | exact tx_28 (by first | assumption | omega) | exact tx_30 (by first | assumption | omega) | exact tx_31 (by first | assumption | omega) | exact tx_32 (by first | assumption | omega) | exact tx_33 (by first | assumption | omega)) (by rfl) ?_
  refine z_if_le h dX3_passMinute_4 27 (by decide) (fun c_1 => ?_) (fun c_1 => ?_)
  · skip
    exact absurd c_1 (by rw [hu 13 (by omega) (by omega)]; exact hgap)
  · skip
    refine z_aload_n h dX3_passMinute_7 rfl ?_
    refine y_geti h dX3_passMinute_8 hR flX3_41 (by first | assumption | exact Nat.le_of_ble_eq_true rfl) (by first | rfl | assumption | exact tx_2 (by first | assumption | omega) | exact tx_18 (by first | assumption | omega) | exact tx_19 (by first | assumption | omega) | exact tx_20 (by first | assumption | omega) | exact tx_27 (by first | assumption | omega) | exact tx_28 (by first | assumption | omega) | exact tx_30 (by first | assumption | omega) | exact tx_31 (by first | assumption | omega) | exact tx_32 (by first | assumption | omega) | exact tx_33 (by first | assumption | omega)) (by rfl) ?_
    refine z_aload_n h dX3_passMinute_11 rfl ?_
    refine y_geti h dX3_passMinute_12 hR flX3_28 (by first | assumption | exact Nat.le_of_ble_eq_true rfl) (by first | rfl | assumption | exact tx_2 (by first | assumption | omega) | exact tx_18 (by first | assumption | omega) | exact tx_19 (by first | assumption | omega) | exact tx_20 (by first | assumption | omega) | exact tx_27 (by first | assumption | omega) | exact tx_28 (by first | assumption | omega) | exact tx_30 (by first | assumption | omega) | exact tx_31 (by first | assumption | omega) | exact tx_32 (by first | assumption | omega) | exact tx_33 (by first | assumption | omega)) (by rfl) ?_
    refine z_irem h dX3_passMinute_15 (fun q => by rw [hu 13 (by omega) (by omega)] at q; rw [q] at hgap; exact absurd hgap (by decide)) ?_
    refine z_if_ne h dX3_passMinute_16 27 (by decide) (fun c_2 => ?_) (fun c_2 => ?_)
    · skip
      refine z_loc [(0, vr (13, 0)), (1, vr (8, 0)), (2, vr (44, 0))] ⟨rfl, rfl, rfl, trivial⟩ ?_
      exact join_27 _ (by rw [show f_seen u = c (13, 0) 8 from by rw [hu 8 (by omega) (by omega)]; unfold f_seen; rw [if_neg (by rw [← hu 7 (by omega) (by omega), ← hu 13 (by omega) (by omega)]; exact c_2)], r_cs, upd_same, r_cf_same]; exact hR)
    · skip
      refine z_aload_n h dX3_passMinute_19 rfl ?_
      refine z_aload_n h dX3_passMinute_20 rfl ?_
      refine y_geti h dX3_passMinute_21 hR flX3_44 (by first | assumption | exact Nat.le_of_ble_eq_true rfl) (by first | rfl | assumption | exact tx_2 (by first | assumption | omega) | exact tx_18 (by first | assumption | omega) | exact tx_19 (by first | assumption | omega) | exact tx_20 (by first | assumption | omega) | exact tx_27 (by first | assumption | omega) | exact tx_28 (by first | assumption | omega) | exact tx_30 (by first | assumption | omega) | exact tx_31 (by first | assumption | omega) | exact tx_32 (by first | assumption | omega) | exact tx_33 (by first | assumption | omega)) (by rfl) ?_
      refine y_put h dX3_passMinute_24 he hR flX3_47 rfl (by first | assumption | exact Nat.le_of_ble_eq_true rfl) (by first | rfl | assumption | exact tx_2 (by first | assumption | omega) | exact tx_18 (by first | assumption | omega) | exact tx_19 (by first | assumption | omega) | exact tx_20 (by first | assumption | omega) | exact tx_27 (by first | assumption | omega) | exact tx_28 (by first | assumption | omega) | exact tx_30 (by first | assumption | omega) | exact tx_31 (by first | assumption | omega) | exact tx_32 (by first | assumption | omega) | exact tx_33 (by first | assumption | omega)) (by rfl) (fun w hR => ?_)
      refine z_loc [(0, vr (13, 0)), (1, vr (8, 0)), (2, vr (44, 0))] ⟨rfl, rfl, rfl, trivial⟩ ?_
      exact join_27 _ (by rw [show f_seen u = c (13, 0) 6 from by rw [hu 6 (by omega) (by omega)]; unfold f_seen; rw [if_pos (by rw [← hu 7 (by omega) (by omega), ← hu 13 (by omega) (by omega)]; exact c_2)]]; exact hR)
