/-! the reference: parting by a row, charging, a minute, blowing -/
def ptf (N : Nat) (m : Nat → Nat) (n : Nat) (z : Nat → Int32) : Nat → Int32 := fun i => if i < n then nI (ptt N m n i) else z i
theorem mp_mp {c : r_c} {s m s2 m2 : Nat → Int32} : MP (MP c s m) s2 m2 = MP c s2 m2 := by
  unfold MP
  rw [r_cf_comm (t := (118, 0)) (u := (117, 0)) rfl, r_cf_cf, r_cf_cf]
theorem z_sum_nI {f : Nat → Int32} {m : Nat → Nat} : ∀ {n}, (∀ i, i < n → f i = nI (m i)) → z_sum f n = nI (p_sm m n)
  | 0, _ => rfl
  | n + 1, h => by
    rw [z_sum, z_sum_nI (n := n) (fun i hi => h i (by omega)), h n (by omega), nI_add]
    rfl
/-- a row's shares go over to another row, place by place -/
def TR (c : r_c) (t1 t2 : z_T) (i : Nat) : r_c := r_cf (r_cf c t1 (fun k => if k < i then c t1 k - c (117, 0) k else c t1 k)) t2 (fun k => if k < i then c t2 k + c (117, 0) k else c t2 k)
section TRs
variable {c : r_c} {t1 t2 : z_T} {i : Nat} {v : Int32}
theorem tr_0 : TR c t1 t2 0 = c := by
  unfold TR
  rw [show (fun k => if k < 0 then c t1 k - c (117, 0) k else c t1 k) = c t1 from funext fun k => if_neg (by omega), show (fun k => if k < 0 then c t2 k + c (117, 0) k else c t2 k) = c t2 from funext fun k => if_neg (by omega), r_cf_same, r_cf_same]
theorem tr_ne {t : z_T} (h1 : t ≠ t1) (h2 : t ≠ t2) : TR c t1 t2 i t = c t := by unfold TR; rw [r_cf_ne h2, r_cf_ne h1]
theorem tr_1 (h : t1 ≠ t2) : TR c t1 t2 i t1 i = c t1 i := by unfold TR; rw [r_cf_ne h, r_cf_self]; exact if_neg (by omega)
theorem tr_s (h1 : (117, 0) ≠ t1) (h2 : (117, 0) ≠ t2) : TR c t1 t2 i (117, 0) = c (117, 0) := tr_ne h1 h2
theorem tr_2 (h : t1 ≠ t2) : r_cs (TR c t1 t2 i) t1 i v t2 i = c t2 i := by rw [r_cs, r_cf_ne (Ne.symm h)]; unfold TR; rw [r_cf_self]; exact if_neg (by omega)
theorem tr_s2 (h1 : (117, 0) ≠ t1) (h2 : (117, 0) ≠ t2) : r_cs (TR c t1 t2 i) t1 i v (117, 0) = c (117, 0) := by rw [r_cs, r_cf_ne h1]; exact tr_ne h1 h2
theorem tr_st (h : t1 ≠ t2) (hz : z_eq t2 t1 = false) : r_cs (r_cs (TR c t1 t2 i) t1 i (c t1 i - c (117, 0) i)) t2 i (c t2 i + c (117, 0) i) = TR c t1 t2 (i + 1) := by
  have e1 : TR c t1 t2 i t1 = fun k => if k < i then c t1 k - c (117, 0) k else c t1 k := by unfold TR; rw [r_cf_ne h, r_cf_self]
  have e2 : r_cs (TR c t1 t2 i) t1 i (c t1 i - c (117, 0) i) t2 = fun k => if k < i then c t2 k + c (117, 0) k else c t2 k := by rw [r_cs, r_cf_ne (Ne.symm h)]; unfold TR; rw [r_cf_self]
  show r_cf (r_cs (TR c t1 t2 i) t1 i (c t1 i - c (117, 0) i)) t2 (upd (r_cs (TR c t1 t2 i) t1 i (c t1 i - c (117, 0) i) t2) i (c t2 i + c (117, 0) i)) = _
  rw [e2, z_upd_h (g := fun k => c t2 k + c (117, 0) k) rfl, r_cs, e1, z_upd_h (g := fun k => c t1 k - c (117, 0) k) rfl]
  unfold TR
  rw [r_cf_comm (t := t2) (u := t1) hz, r_cf_cf, r_cf_cf]
theorem tr_at1 (h : t1 ≠ t2) {k : Nat} (hk : k < i) : TR c t1 t2 i t1 k = c t1 k - c (117, 0) k := by unfold TR; rw [r_cf_ne h, r_cf_self]; exact if_pos hk
theorem tr_at2 {k : Nat} (hk : k < i) : TR c t1 t2 i t2 k = c t2 k + c (117, 0) k := by unfold TR; rw [r_cf_self]; exact if_pos hk
end TRs
set_option maxHeartbeats 4000000 in
set_option maxRecDepth 100000 in
theorem m_X12_partBy (G : z_G) {g : Nat} {w0 w : z_w} {c : r_c} {l : r_l} {r : r_r} (hR : r_p dM (TM g) w0 c l r w) (t : z_T) (n N : Nat) (m : Nat → Nat) (hD : dM t) (hT : TM g t = some (s_i n)) (ht7 : t ≠ (117, 0)) (ht8 : t ≠ (118, 0)) (h1 : 1 ≤ n) (h2 : n ≤ 12) (hN : N < 2 ^ 22) (hm : ∀ i, i < n → m i < 2 ^ 31 ∧ c t i = nI (m i)) (hNS : 0 < N → 0 < p_sm m n) : z_M G yX12_partBy cX12_partBy 4 none 2 (0) (0) [vr (100, 0), vi (nI N), vr t] w (fun q w1 => q = none ∧ ∃ mo lf, r_p dM (TM g) w0 (MP c (ptf N m n (c (117, 0))) mo) (r_cf l (116, 0) lf) r w1) := by
  refine z_met ym_X12_partBy (by decide) ⟨Nat.le_of_ble_eq_true rfl, Nat.le_of_ble_eq_true rfl⟩ (fun X hG hn hmc hms hin h hr => ?_)
  have he := hr.2.2.2.2.2.1
  refine z_iconst (v := 0) h dX12_partBy_0 (by decide) ?_
  refine z_istore_n h dX12_partBy_1 (by rw [hn]; decide) ?_
  have loop_2 : ∀ (n_ : Nat) (k : Nat) (lf : Nat → Int64) (w : z_w), r_p dM (TM g) w0 (MP c (fun i => if i < k then 0 else c (117, 0) i) (c (118, 0))) (r_cf l (116, 0) lf) r w → (∀ i, i < k → lf i = lN (m i)) → k ≤ n → n + 1 ≤ k + n_ → z_V X 0 0 w 2 [(0, vr (100, 0)), (1, vi (nI N)), (2, vr t), (3, vi (nI k))] [] := by
    intro n_
    induction n_ with
    | zero => intros; omega
    | succ n_ ih_2 =>
      intro k lf w hR hlf hk hN2
      refine z_iload_n h dX12_partBy_2 rfl ?_
      refine z_aload_n h dX12_partBy_3 rfl ?_
      refine y_len h dX12_partBy_4 hR hD hT (by rfl) ?_
      refine z_icmp_ge h dX12_partBy_5 31 (by decide) (fun c_1 => ?_) (fun c_1 => ?_)
      · skip
        have e1 : n ≤ k := (nI_leI (by omega) (by omega)).mp c_1
        have hkn : k = n := by omega
        rw [hkn] at hR hlf
        refine z_iload_n h dX12_partBy_31 rfl ?_
        refine z_if_le h dX12_partBy_32 43 (by decide) (fun c_2 => ?_) (fun c_2 => ?_)
        · skip
          have e2 : N = 0 := by have := (nI_leI (b := 0) (by omega) (by omega)).mp c_2; omega
          exact z_vret h dX12_partBy_43 hr (⟨rfl, c (118, 0), lf, by rw [show ptf N m n (c (117, 0)) = (fun i => if i < n then 0 else c (117, 0) i) from funext fun i => by unfold ptf; rw [e2, ptt_0]; rfl]; exact hR⟩)
        · skip
          have e2 : 0 < N := by
            by_cases q : N = 0
            · rw [q] at c_2; exact absurd (by decide) c_2
            · omega
          refine z_aload_n h dX12_partBy_35 rfl ?_
          refine z_iload_n h dX12_partBy_36 rfl ?_
          refine z_i2l h dX12_partBy_37 ?_
          refine z_tole (y := lN N) (nI_l (by omega)) ?_
          refine z_aload_n h dX12_partBy_38 rfl ?_
          refine y_len h dX12_partBy_39 hR hD hT (by rfl) ?_
          refine z_callV h dX12_partBy_40 (fun _ _ q => z_okv_no he q) (fun _ _ _ t q => absurd q (he t)) (m_X12_partAmong _ hR n N m h1 h2 hN (fun i hi => ⟨(hm i hi).1, by rw [r_cf_self]; exact hlf i hi⟩) (hNS e2)) ym_X12_partAmong mlX12_173 im_X12_partAmong (ci := 12) rfl se_X12_partAmong icX12 rfl (r_p.ob hR (by first | assumption | exact Nat.le_of_ble_eq_true rfl) (by first | rfl | assumption | exact tx_2 (by first | assumption | omega) | exact tx_18 (by first | assumption | omega) | exact tx_19 (by first | assumption | omega) | exact tx_20 (by first | assumption | omega) | exact tx_27 (by first | assumption | omega) | exact tx_28 (by first | assumption | omega) | exact tx_30 (by first | assumption | omega) | exact tx_31 (by first | assumption | omega) | exact tx_32 (by first | assumption | omega) | exact tx_33 (by first | assumption | omega))) rfl (by decide) (Nat.le_of_ble_eq_true rfl) ?_
          rintro q1 w ⟨rfl, mo, hR⟩
          exact z_vret h dX12_partBy_43 hr (⟨rfl, mo, lf, by
          rw [mp_mp, show (fun i => if i < n then nI (part N m n i) else MP c (fun i => if i < n then 0 else c (117, 0) i) (c (118, 0)) (117, 0) i) = ptf N m n (c (117, 0)) from funext fun i => by
            unfold ptf ptt
            rw [mp_S, if_neg (show ¬ p_sm m n = 0 by have := hNS e2; omega)]
            by_cases q : i < n
            · rw [if_pos q, if_pos q]
            · rw [if_neg q, if_neg q, if_neg q]] at hR
          exact hR⟩)
      · skip
        have e1 : ¬ n ≤ k := fun q => c_1 ((nI_leI (by omega) (by omega)).mpr q)
        refine z_aload_n h dX12_partBy_8 rfl ?_
        refine y_getr h dX12_partBy_9 hR flX12_34 (by first | assumption | exact Nat.le_of_ble_eq_true rfl) (by first | rfl | assumption | exact tx_2 (by first | assumption | omega) | exact tx_18 (by first | assumption | omega) | exact tx_19 (by first | assumption | omega) | exact tx_20 (by first | assumption | omega) | exact tx_27 (by first | assumption | omega) | exact tx_28 (by first | assumption | omega) | exact tx_30 (by first | assumption | omega) | exact tx_31 (by first | assumption | omega) | exact tx_32 (by first | assumption | omega) | exact tx_33 (by first | assumption | omega)) (by rfl) ?_
        refine z_iload_n h dX12_partBy_12 rfl ?_
        refine z_aload_n h dX12_partBy_13 rfl ?_
        refine z_iload_n h dX12_partBy_14 rfl ?_
        refine y_iald h dX12_partBy_15 hR hD hT (z_ixn (show k < n by omega) (by omega)) ?_
        rw [mp_ne ht7 ht8, (hm k (by omega)).2]
        refine z_i2l h dX12_partBy_16 ?_
        refine z_tole (y := lN (m k)) (nI_l (hm k (by omega)).1) ?_
        refine y_last h dX12_partBy_17 hR (by first | assumption | exact Nat.le_of_ble_eq_true rfl) (by first | rfl | assumption | exact tx_2 (by first | assumption | omega) | exact tx_18 (by first | assumption | omega) | exact tx_19 (by first | assumption | omega) | exact tx_20 (by first | assumption | omega) | exact tx_27 (by first | assumption | omega) | exact tx_28 (by first | assumption | omega) | exact tx_30 (by first | assumption | omega) | exact tx_31 (by first | assumption | omega) | exact tx_32 (by first | assumption | omega) | exact tx_33 (by first | assumption | omega)) (z_ixn (show k < 12 by omega) (by decide)) (fun w hR => ?_)
        refine z_aload_n h dX12_partBy_18 rfl ?_
        refine y_getr h dX12_partBy_19 hR flX12_38 (by first | assumption | exact Nat.le_of_ble_eq_true rfl) (by first | rfl | assumption | exact tx_2 (by first | assumption | omega) | exact tx_18 (by first | assumption | omega) | exact tx_19 (by first | assumption | omega) | exact tx_20 (by first | assumption | omega) | exact tx_27 (by first | assumption | omega) | exact tx_28 (by first | assumption | omega) | exact tx_30 (by first | assumption | omega) | exact tx_31 (by first | assumption | omega) | exact tx_32 (by first | assumption | omega) | exact tx_33 (by first | assumption | omega)) (by rfl) ?_
        refine z_iload_n h dX12_partBy_22 rfl ?_
        refine z_iconst (v := 0) h dX12_partBy_23 (by decide) ?_
        refine y_iast h dX12_partBy_24 hR (by first | assumption | exact Nat.le_of_ble_eq_true rfl) (by first | rfl | assumption | exact tx_2 (by first | assumption | omega) | exact tx_18 (by first | assumption | omega) | exact tx_19 (by first | assumption | omega) | exact tx_20 (by first | assumption | omega) | exact tx_27 (by first | assumption | omega) | exact tx_28 (by first | assumption | omega) | exact tx_30 (by first | assumption | omega) | exact tx_31 (by first | assumption | omega) | exact tx_32 (by first | assumption | omega) | exact tx_33 (by first | assumption | omega)) (z_ixn (show k < 12 by omega) (by decide)) (fun w hR => ?_)
        refine z_iinc (v := 1) h dX12_partBy_25 rfl (by decide) (by rw [hn]; decide) ?_
        refine z_goto h dX12_partBy_28 2 (by decide) ?_
        refine z_loc [(0, vr (100, 0)), (1, vi (nI N)), (2, vr t), (3, vi (nI (k + 1)))] ⟨rfl, rfl, rfl, congrArg (fun z => some (vi z)) (z_up k), trivial⟩ ?_
        exact ih_2 (k + 1) _ w (by rw [mp_sS, z_upd_h (g := fun _ => 0) rfl, r_cf_cf] at hR; exact hR) (fun i hi => by
          by_cases e : i = k
          · subst e; rw [r_cf_self, pk_uLs]
          · rw [r_cf_self, pk_uLn e]; exact hlf i (by omega)) (by omega) (by omega)
  have hR0 : r_p dM (TM g) w0 (MP c (fun i => if i < 0 then 0 else c (117, 0) i) (c (118, 0))) (r_cf l (116, 0) (l (116, 0))) r w := by
    rw [show (fun i => if i < 0 then 0 else c (117, 0) i) = c (117, 0) from funext fun k => if_neg (by omega), mp_id, r_cf_same]
    exact hR
  exact z_loc [(0, vr (100, 0)), (1, vi (nI N)), (2, vr t), (3, vi (nI 0))] ⟨rfl, rfl, rfl, rfl, trivial⟩ (loop_2 (n + 1) 0 _ w hR0 (fun i hi => by omega) (by omega) (by omega))
set_option maxHeartbeats 4000000 in
set_option maxRecDepth 100000 in
theorem m_X12_charge (G : z_G) {g : Nat} {w0 w : z_w} {c : r_c} {l : r_l} {r : r_r} (hR : r_p dM (TM g) w0 c l r w) (o k_ : Int32) (yo yc : Nat → Nat) (hyo : ∀ i, i < 12 → yo i < 2 ^ 31 ∧ c (114, 0) i = nI (yo i)) (hyc : ∀ i, i < 8 → yc i < 2 ^ 31 ∧ c (115, 0) i = nI (yc i)) (hso : p_sm yo 12 < 2 ^ 31) (hsc : p_sm yc 8 < 2 ^ 31) : z_M G yX12_charge cX12_charge 4 (some .boolean) 3 (0) (0) [vr (100, 0), vi o, vi k_] w (fun q w1 => if (0 ≤ o ∧ o ≤ 5000) ∧ (0 ≤ k_ ∧ k_ ≤ 5000) ∧ ¬ o + k_ = 0 ∧ ¬ z_sum (c (114, 0)) 12 < o ∧ ¬ z_sum (c (115, 0)) 8 < k_ then q = some (vi 1) ∧ ∃ c1 l1, r_p dM (TM g) w0 (c1) (l1) (r) w1 ∧ (∀ i, i < 12 → c1 (114, 0) i = c (114, 0) i - nI (ptt o.toNatClampNeg yo 12 i) ∧ c1 (119, 0) i = c (119, 0) i + nI (ptt o.toNatClampNeg yo 12 i)) ∧ (∀ i, i < 8 → c1 (115, 0) i = c (115, 0) i - nI (ptt k_.toNatClampNeg yc 8 i) ∧ c1 (120, 0) i = c (120, 0) i + nI (ptt k_.toNatClampNeg yc 8 i)) ∧ ∀ t, t ≠ (114, 0) → t ≠ (115, 0) → t ≠ (117, 0) → t ≠ (118, 0) → t ≠ (119, 0) → t ≠ (120, 0) → c1 t = c t else q = some (vi 0) ∧ w1 = w) := by
  refine z_met ym_X12_charge (by decide) ⟨Nat.le_of_ble_eq_true rfl, Nat.le_of_ble_eq_true rfl⟩ (fun X hG hn hmc hms hin h hr => ?_)
  have he := hr.2.2.2.2.2.1
  refine z_iload_n h dX12_charge_0 rfl ?_
  refine z_iconst (v := 0) h dX12_charge_1 (by decide) ?_
  refine z_sipush (v := 5000) h dX12_charge_2 (by decide) ?_
  refine z_callS h dX12_charge_5 (fun _ _ q => z_okv_no he q) (fun _ _ _ t q => absurd q (he t)) (m_X12_in _ _ _ _ _) ym_X12_in mlX12_169 sm_X12_in rfl (by decide) (Nat.le_of_ble_eq_true rfl) ?_
  rintro q1 w1 ⟨rfl, hw1⟩
  have hw1 := hw1.symm; subst hw1
  refine z_if_eq h dX12_charge_8 50 (by decide) (fun c_1 => ?_) (fun c_1 => ?_)
  · skip
    refine z_iconst (v := 0) h dX12_charge_50 (by decide) ?_
    exact z_zret h dX12_charge_51 hr rfl (z_f (fun q => z_bf c_1 q.1) ⟨rfl, rfl⟩)
  · skip
    refine z_iload_n h dX12_charge_11 rfl ?_
    refine z_iconst (v := 0) h dX12_charge_12 (by decide) ?_
    refine z_sipush (v := 5000) h dX12_charge_13 (by decide) ?_
    refine z_callS h dX12_charge_16 (fun _ _ q => z_okv_no he q) (fun _ _ _ t q => absurd q (he t)) (m_X12_in _ _ _ _ _) ym_X12_in mlX12_169 sm_X12_in rfl (by decide) (Nat.le_of_ble_eq_true rfl) ?_
    rintro q1 w1 ⟨rfl, hw1⟩
    have hw1 := hw1.symm; subst hw1
    refine z_if_eq h dX12_charge_19 50 (by decide) (fun c_2 => ?_) (fun c_2 => ?_)
    · skip
      refine z_iconst (v := 0) h dX12_charge_50 (by decide) ?_
      exact z_zret h dX12_charge_51 hr rfl (z_f (fun q => z_bf c_2 q.2.1) ⟨rfl, rfl⟩)
    · skip
      refine z_iload_n h dX12_charge_22 rfl ?_
      refine z_iload_n h dX12_charge_23 rfl ?_
      refine z_iadd h dX12_charge_24 ?_
      refine z_if_eq h dX12_charge_25 50 (by decide) (fun c_3 => ?_) (fun c_3 => ?_)
      · skip
        refine z_iconst (v := 0) h dX12_charge_50 (by decide) ?_
        exact z_zret h dX12_charge_51 hr rfl (z_f (fun q => q.2.2.1 c_3) ⟨rfl, rfl⟩)
      · skip
        refine z_iload_n h dX12_charge_28 rfl ?_
        refine z_aload_n h dX12_charge_29 rfl ?_
        refine y_getr h dX12_charge_30 hR flX12_28 (by first | assumption | exact Nat.le_of_ble_eq_true rfl) (by first | rfl | assumption | exact tx_2 (by first | assumption | omega) | exact tx_18 (by first | assumption | omega) | exact tx_19 (by first | assumption | omega) | exact tx_20 (by first | assumption | omega) | exact tx_27 (by first | assumption | omega) | exact tx_28 (by first | assumption | omega) | exact tx_30 (by first | assumption | omega) | exact tx_31 (by first | assumption | omega) | exact tx_32 (by first | assumption | omega) | exact tx_33 (by first | assumption | omega)) (by rfl) ?_
        refine z_callS h dX12_charge_33 (fun _ _ q => z_okv_no he q) (fun _ _ _ t q => absurd q (he t)) (m_X12_sum _ _ (114, 0) 12 (c (114, 0)) (hR.ia (Nat.le_of_ble_eq_true rfl) rfl) (by decide)) ym_X12_sum mlX12_195 sm_X12_sum rfl (by decide) (Nat.le_of_ble_eq_true rfl) ?_
        rintro q1 w1 ⟨rfl, hw1⟩
        have hw1 := hw1.symm; subst hw1
        refine z_icmp_gt h dX12_charge_36 50 (by decide) (fun c_4 => ?_) (fun c_4 => ?_)
        · skip
          refine z_iconst (v := 0) h dX12_charge_50 (by decide) ?_
          exact z_zret h dX12_charge_51 hr rfl (z_f (fun q => q.2.2.2.1 c_4) ⟨rfl, rfl⟩)
        · skip
          refine z_iload_n h dX12_charge_39 rfl ?_
          refine z_aload_n h dX12_charge_40 rfl ?_
          refine y_getr h dX12_charge_41 hR flX12_31 (by first | assumption | exact Nat.le_of_ble_eq_true rfl) (by first | rfl | assumption | exact tx_2 (by first | assumption | omega) | exact tx_18 (by first | assumption | omega) | exact tx_19 (by first | assumption | omega) | exact tx_20 (by first | assumption | omega) | exact tx_27 (by first | assumption | omega) | exact tx_28 (by first | assumption | omega) | exact tx_30 (by first | assumption | omega) | exact tx_31 (by first | assumption | omega) | exact tx_32 (by first | assumption | omega) | exact tx_33 (by first | assumption | omega)) (by rfl) ?_
          refine z_callS h dX12_charge_44 (fun _ _ q => z_okv_no he q) (fun _ _ _ t q => absurd q (he t)) (m_X12_sum _ _ (115, 0) 8 (c (115, 0)) (hR.ia (Nat.le_of_ble_eq_true rfl) rfl) (by decide)) ym_X12_sum mlX12_195 sm_X12_sum rfl (by decide) (Nat.le_of_ble_eq_true rfl) ?_
          rintro q1 w1 ⟨rfl, hw1⟩
          have hw1 := hw1.symm; subst hw1
          refine z_icmp_le h dX12_charge_47 52 (by decide) (fun c_6 => ?_) (fun c_6 => ?_)
          · skip
            have c_5 : ¬ z_sum (c (115, 0)) 8 < k_ := Int32.not_lt.mpr c_6
            obtain ⟨hoo, -, ho5⟩ := z_rng (x := o) 0 5000 (z_bt c_1) (by decide) (by decide)
            obtain ⟨hkk, -, hk5⟩ := z_rng (x := k_) 0 5000 (z_bt c_2) (by decide) (by decide)
            have hos : o.toNatClampNeg ≤ p_sm yo 12 := by
              rw [z_sum_nI (fun i hi => (hyo i hi).2), hoo] at c_4
              by_cases q : p_sm yo 12 < o.toNatClampNeg
              · exact absurd ((nI_ltI (by omega) (by omega)).mpr q) c_4
              · omega
            have hks : k_.toNatClampNeg ≤ p_sm yc 8 := by
              rw [z_sum_nI (fun i hi => (hyc i hi).2), hkk] at c_5
              by_cases q : p_sm yc 8 < k_.toNatClampNeg
              · exact absurd ((nI_ltI (by omega) (by omega)).mpr q) c_5
              · omega
            refine z_aload_n h dX12_charge_52 rfl ?_
            refine z_iload_n h dX12_charge_53 rfl ?_
            refine z_toe (y := nI o.toNatClampNeg) hoo ?_
            refine z_aload_n h dX12_charge_54 rfl ?_
            refine y_getr h dX12_charge_55 hR flX12_28 (by first | assumption | exact Nat.le_of_ble_eq_true rfl) (by first | rfl | assumption | exact tx_2 (by first | assumption | omega) | exact tx_18 (by first | assumption | omega) | exact tx_19 (by first | assumption | omega) | exact tx_20 (by first | assumption | omega) | exact tx_27 (by first | assumption | omega) | exact tx_28 (by first | assumption | omega) | exact tx_30 (by first | assumption | omega) | exact tx_31 (by first | assumption | omega) | exact tx_32 (by first | assumption | omega) | exact tx_33 (by first | assumption | omega)) (by rfl) ?_
            refine z_callV h dX12_charge_58 (fun _ _ q => z_okv_no he q) (fun _ _ _ t q => absurd q (he t)) (m_X12_partBy _ hR (114, 0) 12 o.toNatClampNeg yo (Nat.le_of_ble_eq_true rfl) rfl (by simp) (by simp) (by decide) (by decide) (by omega) hyo (fun q => by omega)) ym_X12_partBy mlX12_202 im_X12_partBy (ci := 12) rfl se_X12_partBy icX12 rfl (r_p.ob hR (by first | assumption | exact Nat.le_of_ble_eq_true rfl) (by first | rfl | assumption | exact tx_2 (by first | assumption | omega) | exact tx_18 (by first | assumption | omega) | exact tx_19 (by first | assumption | omega) | exact tx_20 (by first | assumption | omega) | exact tx_27 (by first | assumption | omega) | exact tx_28 (by first | assumption | omega) | exact tx_30 (by first | assumption | omega) | exact tx_31 (by first | assumption | omega) | exact tx_32 (by first | assumption | omega) | exact tx_33 (by first | assumption | omega))) rfl (by decide) (Nat.le_of_ble_eq_true rfl) ?_
            rintro q1 w ⟨rfl, mo, lf, hR⟩
            refine z_iconst (v := 0) h dX12_charge_61 (by decide) ?_
            refine z_istore_n h dX12_charge_62 (by rw [hn]; decide) ?_
            have loop_63 : ∀ (m_ : Nat) (k : Nat) (w : z_w), r_p dM (TM g) w0 (TR (MP c (ptf o.toNatClampNeg yo 12 (c (117, 0))) mo) (114, 0) (119, 0) k) (r_cf l (116, 0) lf) r w → k ≤ 12 → 12 + 1 ≤ k + m_ → z_V X 0 0 w 63 [(0, vr (100, 0)), (1, vi o), (2, vi k_), (3, vi (nI k))] [] := by
              intro m_
              induction m_ with
              | zero => intros; omega
              | succ m_ ih_63 =>
                intro k w hR hk hN2
                refine z_iload_n h dX12_charge_63 rfl ?_
                refine z_bipush (v := 12) h dX12_charge_64 (by decide) ?_
                refine z_icmp_ge h dX12_charge_66 105 (by decide) (fun c_66 => ?_) (fun c_66 => ?_)
                · skip
                  have e1 : 12 ≤ k := (nI_leI (a := 12) (by omega) (by omega)).mp c_66
                  have hk12 : k = 12 := by omega
                  rw [hk12] at hR
                  refine z_aload_n h dX12_charge_105 rfl ?_
                  refine z_iload_n h dX12_charge_106 rfl ?_
                  refine z_toe (y := nI k_.toNatClampNeg) hkk ?_
                  refine z_aload_n h dX12_charge_107 rfl ?_
                  refine y_getr h dX12_charge_108 hR flX12_31 (by first | assumption | exact Nat.le_of_ble_eq_true rfl) (by first | rfl | assumption | exact tx_2 (by first | assumption | omega) | exact tx_18 (by first | assumption | omega) | exact tx_19 (by first | assumption | omega) | exact tx_20 (by first | assumption | omega) | exact tx_27 (by first | assumption | omega) | exact tx_28 (by first | assumption | omega) | exact tx_30 (by first | assumption | omega) | exact tx_31 (by first | assumption | omega) | exact tx_32 (by first | assumption | omega) | exact tx_33 (by first | assumption | omega)) (by rfl) ?_
                  refine z_callV h dX12_charge_111 (fun _ _ q => z_okv_no he q) (fun _ _ _ t q => absurd q (he t)) (m_X12_partBy _ hR (115, 0) 8 k_.toNatClampNeg yc (Nat.le_of_ble_eq_true rfl) rfl (by simp) (by simp) (by decide) (by decide) (by omega) (fun i hi => ⟨(hyc i hi).1, by rw [tr_ne (by simp) (by simp), mp_ne (by simp) (by simp)]; exact (hyc i hi).2⟩) (fun q => by omega)) ym_X12_partBy mlX12_202 im_X12_partBy (ci := 12) rfl se_X12_partBy icX12 rfl (r_p.ob hR (by first | assumption | exact Nat.le_of_ble_eq_true rfl) (by first | rfl | assumption | exact tx_2 (by first | assumption | omega) | exact tx_18 (by first | assumption | omega) | exact tx_19 (by first | assumption | omega) | exact tx_20 (by first | assumption | omega) | exact tx_27 (by first | assumption | omega) | exact tx_28 (by first | assumption | omega) | exact tx_30 (by first | assumption | omega) | exact tx_31 (by first | assumption | omega) | exact tx_32 (by first | assumption | omega) | exact tx_33 (by first | assumption | omega))) rfl (by decide) (Nat.le_of_ble_eq_true rfl) ?_
                  rintro q1 w ⟨rfl, mo2, lf2, hR⟩
                  refine z_iconst (v := 0) h dX12_charge_114 (by decide) ?_
                  refine z_istore_n h dX12_charge_115 (by rw [hn]; decide) ?_
                  have loop_116 : ∀ (m_ : Nat) (k : Nat) (w : z_w), r_p dM (TM g) w0 (TR (MP (TR (MP c (ptf o.toNatClampNeg yo 12 (c (117, 0))) mo) (114, 0) (119, 0) 12) (ptf k_.toNatClampNeg yc 8 ((TR (MP c (ptf o.toNatClampNeg yo 12 (c (117, 0))) mo) (114, 0) (119, 0) 12) (117, 0))) mo2) (115, 0) (120, 0) k) (r_cf (r_cf l (116, 0) lf) (116, 0) lf2) r w → k ≤ 8 → 8 + 1 ≤ k + m_ → z_V X 0 0 w 116 [(0, vr (100, 0)), (1, vi o), (2, vi k_), (3, vi (nI k))] [] := by
                    intro m_
                    induction m_ with
                    | zero => intros; omega
                    | succ m_ ih_116 =>
                      intro k w hR hk hN2
                      refine z_iload_n h dX12_charge_116 rfl ?_
                      refine z_bipush (v := 8) h dX12_charge_117 (by decide) ?_
                      refine z_icmp_ge h dX12_charge_119 158 (by decide) (fun c_119 => ?_) (fun c_119 => ?_)
                      · skip
                        have e1 : 8 ≤ k := (nI_leI (a := 8) (by omega) (by omega)).mp c_119
                        have hk8 : k = 8 := by omega
                        rw [hk8] at hR
                        refine z_iconst (v := 1) h dX12_charge_158 (by decide) ?_
                        exact z_zret h dX12_charge_159 hr rfl (z_t ⟨z_bt c_1, z_bt c_2, c_3, c_4, c_5⟩ ⟨rfl, (TR (MP (TR (MP c (ptf o.toNatClampNeg yo 12 (c (117, 0))) mo) (114, 0) (119, 0) 12) (ptf k_.toNatClampNeg yc 8 ((TR (MP c (ptf o.toNatClampNeg yo 12 (c (117, 0))) mo) (114, 0) (119, 0) 12) (117, 0))) mo2) (115, 0) (120, 0) 8), _, hR, fun i hi => ⟨by
              rw [tr_ne (by simp) (by simp), mp_ne (by simp) (by simp), tr_at1 (by simp) hi, mp_ne (by simp) (by simp), mp_S]
              unfold ptf; rw [if_pos hi], by
              rw [tr_ne (by simp) (by simp), mp_ne (by simp) (by simp), tr_at2 hi, mp_ne (by simp) (by simp), mp_S]
              unfold ptf; rw [if_pos hi]⟩, fun i hi => ⟨by
              rw [tr_at1 (by simp) hi, mp_ne (by simp) (by simp), mp_S, tr_ne (by simp) (by simp), mp_ne (by simp) (by simp)]
              unfold ptf; rw [if_pos hi], by
              rw [tr_at2 hi, mp_ne (by simp) (by simp), mp_S, tr_ne (by simp) (by simp), mp_ne (by simp) (by simp)]
              unfold ptf; rw [if_pos hi]⟩, fun t h1 h2 h3 h4 h5 h6 => by
              rw [tr_ne h2 h6, mp_ne h3 h4, tr_ne h1 h5, mp_ne h3 h4]⟩)
                      · skip
                        have e1 : ¬ 8 ≤ k := fun q => c_119 ((nI_leI (a := 8) (by omega) (by omega)).mpr q)
                        refine z_aload_n h dX12_charge_122 rfl ?_
                        refine y_getr h dX12_charge_123 hR flX12_31 (by first | assumption | exact Nat.le_of_ble_eq_true rfl) (by first | rfl | assumption | exact tx_2 (by first | assumption | omega) | exact tx_18 (by first | assumption | omega) | exact tx_19 (by first | assumption | omega) | exact tx_20 (by first | assumption | omega) | exact tx_27 (by first | assumption | omega) | exact tx_28 (by first | assumption | omega) | exact tx_30 (by first | assumption | omega) | exact tx_31 (by first | assumption | omega) | exact tx_32 (by first | assumption | omega) | exact tx_33 (by first | assumption | omega)) (by rfl) ?_
                        refine z_iload_n h dX12_charge_126 rfl ?_
                        refine z_dup2_ir h dX12_charge_127 ?_
                        refine y_iald h dX12_charge_128 hR (by first | assumption | exact Nat.le_of_ble_eq_true rfl) (by first | rfl | assumption | exact tx_2 (by first | assumption | omega) | exact tx_18 (by first | assumption | omega) | exact tx_19 (by first | assumption | omega) | exact tx_20 (by first | assumption | omega) | exact tx_27 (by first | assumption | omega) | exact tx_28 (by first | assumption | omega) | exact tx_30 (by first | assumption | omega) | exact tx_31 (by first | assumption | omega) | exact tx_32 (by first | assumption | omega) | exact tx_33 (by first | assumption | omega)) (z_ixn (show k < 8 by omega) (by decide)) ?_
                        rw [tr_1 (by simp)]
                        refine z_aload_n h dX12_charge_129 rfl ?_
                        refine y_getr h dX12_charge_130 hR flX12_38 (by first | assumption | exact Nat.le_of_ble_eq_true rfl) (by first | rfl | assumption | exact tx_2 (by first | assumption | omega) | exact tx_18 (by first | assumption | omega) | exact tx_19 (by first | assumption | omega) | exact tx_20 (by first | assumption | omega) | exact tx_27 (by first | assumption | omega) | exact tx_28 (by first | assumption | omega) | exact tx_30 (by first | assumption | omega) | exact tx_31 (by first | assumption | omega) | exact tx_32 (by first | assumption | omega) | exact tx_33 (by first | assumption | omega)) (by rfl) ?_
                        refine z_iload_n h dX12_charge_133 rfl ?_
                        refine y_iald h dX12_charge_134 hR (by first | assumption | exact Nat.le_of_ble_eq_true rfl) (by first | rfl | assumption | exact tx_2 (by first | assumption | omega) | exact tx_18 (by first | assumption | omega) | exact tx_19 (by first | assumption | omega) | exact tx_20 (by first | assumption | omega) | exact tx_27 (by first | assumption | omega) | exact tx_28 (by first | assumption | omega) | exact tx_30 (by first | assumption | omega) | exact tx_31 (by first | assumption | omega) | exact tx_32 (by first | assumption | omega) | exact tx_33 (by first | assumption | omega)) (z_ixn (show k < 12 by omega) (by decide)) ?_
                        rw [tr_s (by simp) (by simp)]
                        refine z_isub h dX12_charge_135 ?_
                        refine y_iast h dX12_charge_136 hR (by first | assumption | exact Nat.le_of_ble_eq_true rfl) (by first | rfl | assumption | exact tx_2 (by first | assumption | omega) | exact tx_18 (by first | assumption | omega) | exact tx_19 (by first | assumption | omega) | exact tx_20 (by first | assumption | omega) | exact tx_27 (by first | assumption | omega) | exact tx_28 (by first | assumption | omega) | exact tx_30 (by first | assumption | omega) | exact tx_31 (by first | assumption | omega) | exact tx_32 (by first | assumption | omega) | exact tx_33 (by first | assumption | omega)) (z_ixn (show k < 8 by omega) (by decide)) (fun w hR => ?_)
                        refine z_aload_n h dX12_charge_137 rfl ?_
                        refine y_getr h dX12_charge_138 hR flX12_48 (by first | assumption | exact Nat.le_of_ble_eq_true rfl) (by first | rfl | assumption | exact tx_2 (by first | assumption | omega) | exact tx_18 (by first | assumption | omega) | exact tx_19 (by first | assumption | omega) | exact tx_20 (by first | assumption | omega) | exact tx_27 (by first | assumption | omega) | exact tx_28 (by first | assumption | omega) | exact tx_30 (by first | assumption | omega) | exact tx_31 (by first | assumption | omega) | exact tx_32 (by first | assumption | omega) | exact tx_33 (by first | assumption | omega)) (by rfl) ?_
                        refine z_iload_n h dX12_charge_141 rfl ?_
                        refine z_dup2_ir h dX12_charge_142 ?_
                        refine y_iald h dX12_charge_143 hR (by first | assumption | exact Nat.le_of_ble_eq_true rfl) (by first | rfl | assumption | exact tx_2 (by first | assumption | omega) | exact tx_18 (by first | assumption | omega) | exact tx_19 (by first | assumption | omega) | exact tx_20 (by first | assumption | omega) | exact tx_27 (by first | assumption | omega) | exact tx_28 (by first | assumption | omega) | exact tx_30 (by first | assumption | omega) | exact tx_31 (by first | assumption | omega) | exact tx_32 (by first | assumption | omega) | exact tx_33 (by first | assumption | omega)) (z_ixn (show k < 8 by omega) (by decide)) ?_
                        rw [tr_2 (by simp)]
                        refine z_aload_n h dX12_charge_144 rfl ?_
                        refine y_getr h dX12_charge_145 hR flX12_38 (by first | assumption | exact Nat.le_of_ble_eq_true rfl) (by first | rfl | assumption | exact tx_2 (by first | assumption | omega) | exact tx_18 (by first | assumption | omega) | exact tx_19 (by first | assumption | omega) | exact tx_20 (by first | assumption | omega) | exact tx_27 (by first | assumption | omega) | exact tx_28 (by first | assumption | omega) | exact tx_30 (by first | assumption | omega) | exact tx_31 (by first | assumption | omega) | exact tx_32 (by first | assumption | omega) | exact tx_33 (by first | assumption | omega)) (by rfl) ?_
                        refine z_iload_n h dX12_charge_148 rfl ?_
                        refine y_iald h dX12_charge_149 hR (by first | assumption | exact Nat.le_of_ble_eq_true rfl) (by first | rfl | assumption | exact tx_2 (by first | assumption | omega) | exact tx_18 (by first | assumption | omega) | exact tx_19 (by first | assumption | omega) | exact tx_20 (by first | assumption | omega) | exact tx_27 (by first | assumption | omega) | exact tx_28 (by first | assumption | omega) | exact tx_30 (by first | assumption | omega) | exact tx_31 (by first | assumption | omega) | exact tx_32 (by first | assumption | omega) | exact tx_33 (by first | assumption | omega)) (z_ixn (show k < 12 by omega) (by decide)) ?_
                        rw [tr_s2 (by simp) (by simp)]
                        refine z_iadd h dX12_charge_150 ?_
                        refine y_iast h dX12_charge_151 hR (by first | assumption | exact Nat.le_of_ble_eq_true rfl) (by first | rfl | assumption | exact tx_2 (by first | assumption | omega) | exact tx_18 (by first | assumption | omega) | exact tx_19 (by first | assumption | omega) | exact tx_20 (by first | assumption | omega) | exact tx_27 (by first | assumption | omega) | exact tx_28 (by first | assumption | omega) | exact tx_30 (by first | assumption | omega) | exact tx_31 (by first | assumption | omega) | exact tx_32 (by first | assumption | omega) | exact tx_33 (by first | assumption | omega)) (z_ixn (show k < 8 by omega) (by decide)) (fun w hR => ?_)
                        refine z_iinc (v := 1) h dX12_charge_152 rfl (by decide) (by rw [hn]; decide) ?_
                        refine z_goto h dX12_charge_155 116 (by decide) ?_
                        refine z_loc [(0, vr (100, 0)), (1, vi o), (2, vi k_), (3, vi (nI (k + 1)))] ⟨rfl, rfl, rfl, congrArg (fun z => some (vi z)) (z_up k), trivial⟩ ?_
                        exact ih_116 (k + 1) w (by rw [tr_st (by simp) rfl] at hR; exact hR) (by omega) (by omega)
                  exact z_loc [(0, vr (100, 0)), (1, vi o), (2, vi k_), (3, vi (nI 0))] ⟨rfl, rfl, rfl, rfl, trivial⟩ (loop_116 (8 + 1) 0 w (by rw [tr_0]; exact hR) (by omega) (by omega))
                · skip
                  have e1 : ¬ 12 ≤ k := fun q => c_66 ((nI_leI (a := 12) (by omega) (by omega)).mpr q)
                  refine z_aload_n h dX12_charge_69 rfl ?_
                  refine y_getr h dX12_charge_70 hR flX12_28 (by first | assumption | exact Nat.le_of_ble_eq_true rfl) (by first | rfl | assumption | exact tx_2 (by first | assumption | omega) | exact tx_18 (by first | assumption | omega) | exact tx_19 (by first | assumption | omega) | exact tx_20 (by first | assumption | omega) | exact tx_27 (by first | assumption | omega) | exact tx_28 (by first | assumption | omega) | exact tx_30 (by first | assumption | omega) | exact tx_31 (by first | assumption | omega) | exact tx_32 (by first | assumption | omega) | exact tx_33 (by first | assumption | omega)) (by rfl) ?_
                  refine z_iload_n h dX12_charge_73 rfl ?_
                  refine z_dup2_ir h dX12_charge_74 ?_
                  refine y_iald h dX12_charge_75 hR (by first | assumption | exact Nat.le_of_ble_eq_true rfl) (by first | rfl | assumption | exact tx_2 (by first | assumption | omega) | exact tx_18 (by first | assumption | omega) | exact tx_19 (by first | assumption | omega) | exact tx_20 (by first | assumption | omega) | exact tx_27 (by first | assumption | omega) | exact tx_28 (by first | assumption | omega) | exact tx_30 (by first | assumption | omega) | exact tx_31 (by first | assumption | omega) | exact tx_32 (by first | assumption | omega) | exact tx_33 (by first | assumption | omega)) (z_ixn (show k < 12 by omega) (by decide)) ?_
                  rw [tr_1 (by simp)]
                  refine z_aload_n h dX12_charge_76 rfl ?_
                  refine y_getr h dX12_charge_77 hR flX12_38 (by first | assumption | exact Nat.le_of_ble_eq_true rfl) (by first | rfl | assumption | exact tx_2 (by first | assumption | omega) | exact tx_18 (by first | assumption | omega) | exact tx_19 (by first | assumption | omega) | exact tx_20 (by first | assumption | omega) | exact tx_27 (by first | assumption | omega) | exact tx_28 (by first | assumption | omega) | exact tx_30 (by first | assumption | omega) | exact tx_31 (by first | assumption | omega) | exact tx_32 (by first | assumption | omega) | exact tx_33 (by first | assumption | omega)) (by rfl) ?_
                  refine z_iload_n h dX12_charge_80 rfl ?_
                  refine y_iald h dX12_charge_81 hR (by first | assumption | exact Nat.le_of_ble_eq_true rfl) (by first | rfl | assumption | exact tx_2 (by first | assumption | omega) | exact tx_18 (by first | assumption | omega) | exact tx_19 (by first | assumption | omega) | exact tx_20 (by first | assumption | omega) | exact tx_27 (by first | assumption | omega) | exact tx_28 (by first | assumption | omega) | exact tx_30 (by first | assumption | omega) | exact tx_31 (by first | assumption | omega) | exact tx_32 (by first | assumption | omega) | exact tx_33 (by first | assumption | omega)) (z_ixn (show k < 12 by omega) (by decide)) ?_
                  rw [tr_s (by simp) (by simp)]
                  refine z_isub h dX12_charge_82 ?_
                  refine y_iast h dX12_charge_83 hR (by first | assumption | exact Nat.le_of_ble_eq_true rfl) (by first | rfl | assumption | exact tx_2 (by first | assumption | omega) | exact tx_18 (by first | assumption | omega) | exact tx_19 (by first | assumption | omega) | exact tx_20 (by first | assumption | omega) | exact tx_27 (by first | assumption | omega) | exact tx_28 (by first | assumption | omega) | exact tx_30 (by first | assumption | omega) | exact tx_31 (by first | assumption | omega) | exact tx_32 (by first | assumption | omega) | exact tx_33 (by first | assumption | omega)) (z_ixn (show k < 12 by omega) (by decide)) (fun w hR => ?_)
                  refine z_aload_n h dX12_charge_84 rfl ?_
                  refine y_getr h dX12_charge_85 hR flX12_45 (by first | assumption | exact Nat.le_of_ble_eq_true rfl) (by first | rfl | assumption | exact tx_2 (by first | assumption | omega) | exact tx_18 (by first | assumption | omega) | exact tx_19 (by first | assumption | omega) | exact tx_20 (by first | assumption | omega) | exact tx_27 (by first | assumption | omega) | exact tx_28 (by first | assumption | omega) | exact tx_30 (by first | assumption | omega) | exact tx_31 (by first | assumption | omega) | exact tx_32 (by first | assumption | omega) | exact tx_33 (by first | assumption | omega)) (by rfl) ?_
                  refine z_iload_n h dX12_charge_88 rfl ?_
                  refine z_dup2_ir h dX12_charge_89 ?_
                  refine y_iald h dX12_charge_90 hR (by first | assumption | exact Nat.le_of_ble_eq_true rfl) (by first | rfl | assumption | exact tx_2 (by first | assumption | omega) | exact tx_18 (by first | assumption | omega) | exact tx_19 (by first | assumption | omega) | exact tx_20 (by first | assumption | omega) | exact tx_27 (by first | assumption | omega) | exact tx_28 (by first | assumption | omega) | exact tx_30 (by first | assumption | omega) | exact tx_31 (by first | assumption | omega) | exact tx_32 (by first | assumption | omega) | exact tx_33 (by first | assumption | omega)) (z_ixn (show k < 12 by omega) (by decide)) ?_
                  rw [tr_2 (by simp)]
                  refine z_aload_n h dX12_charge_91 rfl ?_
                  refine y_getr h dX12_charge_92 hR flX12_38 (by first | assumption | exact Nat.le_of_ble_eq_true rfl) (by first | rfl | assumption | exact tx_2 (by first | assumption | omega) | exact tx_18 (by first | assumption | omega) | exact tx_19 (by first | assumption | omega) | exact tx_20 (by first | assumption | omega) | exact tx_27 (by first | assumption | omega) | exact tx_28 (by first | assumption | omega) | exact tx_30 (by first | assumption | omega) | exact tx_31 (by first | assumption | omega) | exact tx_32 (by first | assumption | omega) | exact tx_33 (by first | assumption | omega)) (by rfl) ?_
                  refine z_iload_n h dX12_charge_95 rfl ?_
                  refine y_iald h dX12_charge_96 hR (by first | assumption | exact Nat.le_of_ble_eq_true rfl) (by first | rfl | assumption | exact tx_2 (by first | assumption | omega) | exact tx_18 (by first | assumption | omega) | exact tx_19 (by first | assumption | omega) | exact tx_20 (by first | assumption | omega) | exact tx_27 (by first | assumption | omega) | exact tx_28 (by first | assumption | omega) | exact tx_30 (by first | assumption | omega) | exact tx_31 (by first | assumption | omega) | exact tx_32 (by first | assumption | omega) | exact tx_33 (by first | assumption | omega)) (z_ixn (show k < 12 by omega) (by decide)) ?_
                  rw [tr_s2 (by simp) (by simp)]
                  refine z_iadd h dX12_charge_97 ?_
                  refine y_iast h dX12_charge_98 hR (by first | assumption | exact Nat.le_of_ble_eq_true rfl) (by first | rfl | assumption | exact tx_2 (by first | assumption | omega) | exact tx_18 (by first | assumption | omega) | exact tx_19 (by first | assumption | omega) | exact tx_20 (by first | assumption | omega) | exact tx_27 (by first | assumption | omega) | exact tx_28 (by first | assumption | omega) | exact tx_30 (by first | assumption | omega) | exact tx_31 (by first | assumption | omega) | exact tx_32 (by first | assumption | omega) | exact tx_33 (by first | assumption | omega)) (z_ixn (show k < 12 by omega) (by decide)) (fun w hR => ?_)
                  refine z_iinc (v := 1) h dX12_charge_99 rfl (by decide) (by rw [hn]; decide) ?_
                  refine z_goto h dX12_charge_102 63 (by decide) ?_
                  refine z_loc [(0, vr (100, 0)), (1, vi o), (2, vi k_), (3, vi (nI (k + 1)))] ⟨rfl, rfl, rfl, congrArg (fun z => some (vi z)) (z_up k), trivial⟩ ?_
                  exact ih_63 (k + 1) w (by rw [tr_st (by simp) rfl] at hR; exact hR) (by omega) (by omega)
            exact z_loc [(0, vr (100, 0)), (1, vi o), (2, vi k_), (3, vi (nI 0))] ⟨rfl, rfl, rfl, rfl, trivial⟩ (loop_63 (12 + 1) 0 w (by rw [tr_0]; exact hR) (by omega) (by omega))
          · skip
            refine z_iconst (v := 0) h dX12_charge_50 (by decide) ?_
            exact z_zret h dX12_charge_51 hr rfl (z_f (fun q => c_6 (Int32.not_lt.mp q.2.2.2.2)) ⟨rfl, rfl⟩)
