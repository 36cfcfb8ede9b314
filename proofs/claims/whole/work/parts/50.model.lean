/-! the reference: parting, charging -/
def MP (c : r_c) (s m : Nat → Int32) : r_c := r_cf (r_cf c (117, 0) s) (118, 0) m
section MPs
variable {c : r_c} {s m f : Nat → Int32} {k : Nat} {v : Int32}
theorem mp_ne {t : z_T} (h1 : t ≠ (117, 0)) (h2 : t ≠ (118, 0)) : MP c s m t = c t := by unfold MP; rw [r_cf_ne h2, r_cf_ne h1]
theorem mp_S : MP c s m (117, 0) = s := by unfold MP; rw [r_cf_ne (by simp), r_cf_self]
theorem mp_M : MP c s m (118, 0) = m := by unfold MP; rw [r_cf_self]
theorem mp_sM : r_cs (MP c s m) (118, 0) k v = MP c s (upd m k v) := by rw [r_cs, mp_M]; unfold MP; rw [r_cf_cf]
theorem mp_sS : r_cs (MP c s m) (117, 0) k v = MP c (upd s k v) m := by rw [r_cs, mp_S]; unfold MP; rw [r_cf_comm (t := (118, 0)) rfl, r_cf_cf]
theorem mp_id : MP c (c (117, 0)) (c (118, 0)) = c := by unfold MP; rw [r_cf_same, r_cf_same]
end MPs
def shf (N : Nat) (m : Nat → Nat) (n : Nat) (z : Nat → Int32) (j : Nat) : Nat → Int32 := fun i => if i < n then nI (p_q N m (p_sm m n) i + if p_g N m (p_sm m n) n j i = true then 1 else 0) else z i
def mof (N : Nat) (m : Nat → Nat) (n : Nat) (z : Nat → Int32) (j : Nat) : Nat → Int32 := fun i => if i < n then (if p_g N m (p_sm m n) n j i = true then 1 else 0) else z i
theorem p_g_st {N : Nat} {m : Nat → Nat} {S n j i : Nat} : p_g N m S n (j + 1) i = (decide (i = p_gb (p_val N m S (p_g N m S n j)) n) || p_g N m S n j i) := rfl
theorem shf_st {N : Nat} {m : Nat → Nat} {n : Nat} {z : Nat → Int32} {j q : Nat} (hq : q = p_gb (p_val N m (p_sm m n) (p_g N m (p_sm m n) n j)) n) (hn : q < n) (hg : p_g N m (p_sm m n) n j q = false) : upd (shf N m n z j) q (shf N m n z j q + 1) = shf N m n z (j + 1) := by
  funext i
  by_cases e : i = q
  · subst e
    rw [pk_us]
    have e2 : p_g N m (p_sm m n) n (j + 1) i = true := by rw [p_g_st, ← hq]; simp
    show (if i < n then _ else _) + 1 = (if i < n then _ else _)
    rw [if_pos hn, if_pos hn, hg, e2, z_up]
    simp
  · rw [pk_un e]
    have e2 : p_g N m (p_sm m n) n (j + 1) i = p_g N m (p_sm m n) n j i := by rw [p_g_st, ← hq, decide_eq_false e]; rfl
    show (if i < n then _ else _) = (if i < n then _ else _)
    rw [e2]
theorem mof_st {N : Nat} {m : Nat → Nat} {n : Nat} {z : Nat → Int32} {j q : Nat} (hq : q = p_gb (p_val N m (p_sm m n) (p_g N m (p_sm m n) n j)) n) (hn : q < n) : upd (mof N m n z j) q 1 = mof N m n z (j + 1) := by
  funext i
  by_cases e : i = q
  · subst e
    rw [pk_us]
    have e2 : p_g N m (p_sm m n) n (j + 1) i = true := by rw [p_g_st, ← hq]; simp
    show 1 = (if i < n then _ else _)
    rw [if_pos hn, e2]
    rfl
  · rw [pk_un e]
    have e2 : p_g N m (p_sm m n) n (j + 1) i = p_g N m (p_sm m n) n j i := by rw [p_g_st, ← hq, decide_eq_false e]; rfl
    show (if i < n then _ else _) = (if i < n then _ else _)
    rw [e2]
/-- the search for the greatest rest among those that have none more yet -/
def pbI (N : Nat) (m : Nat → Nat) (S : Nat) (g : Nat → Bool) (k : Nat) (b : Int32) (mo : Int64) : Prop :=
  (b = -1 ∧ mo = 0 ∧ ∀ i, i < k → g i = true) ∨ (0 < k ∧ b = nI (p_gb (p_val N m S g) k) ∧ g (p_gb (p_val N m S g) k) = false ∧ mo = lN (p_r N m S (p_gb (p_val N m S g) k)))
theorem pv_t {N : Nat} {m : Nat → Nat} {S : Nat} {g : Nat → Bool} {i : Nat} (h : g i = true) : p_val N m S g i = -1 := if_pos h
theorem pv_f {N : Nat} {m : Nat → Nat} {S : Nat} {g : Nat → Bool} {i : Nat} (h : g i = false) : p_val N m S g i = (p_r N m S i : Int) := if_neg (by rw [h]; simp)
theorem pb_tk {N : Nat} {m : Nat → Nat} {S : Nat} {g : Nat → Bool} {k : Nat} {b : Int32} {mo : Int64} (h : pbI N m S g k b mo) (hk : g k = true) : pbI N m S g (k + 1) b mo := by
  rcases h with ⟨h1, h2, h3⟩ | ⟨h1, h2, h3, h4⟩
  · refine Or.inl ⟨h1, h2, fun i hi => ?_⟩
    by_cases e : i = k
    · subst e; exact hk
    · exact h3 i (by omega)
  · have e : p_gb (p_val N m S g) (k + 1) = p_gb (p_val N m S g) k := if_neg (by rw [pv_t hk, pv_f h3]; omega)
    exact Or.inr ⟨by omega, by rw [e]; exact h2, by rw [e]; exact h3, by rw [e]; exact h4⟩
theorem pb_new {N : Nat} {m : Nat → Nat} {S : Nat} {g : Nat → Bool} {k : Nat} {b : Int32} {mo : Int64} (hS : S < 2 ^ 62) (hS0 : 0 < S) (h : pbI N m S g k b mo) (hk : g k = false) (hc : b = -1 ∨ ¬ lg_cmp (lN (p_r N m S k)) mo ≤ 0) (hb : k < 2 ^ 30) : pbI N m S g (k + 1) (nI k) (lN (p_r N m S k)) := by
  have e : p_gb (p_val N m S g) (k + 1) = k := by
    rcases h with ⟨h1, h2, h3⟩ | ⟨h1, h2, h3, h4⟩
    · by_cases k0 : k = 0
      · subst k0; exact p_gb_1 _
      · exact if_pos (by rw [pv_t (h3 _ (p_gb_lt (by omega))), pv_f hk]; omega)
    · refine if_pos ?_
      rw [pv_f h3, pv_f hk]
      rcases hc with hc | hc
      · rw [h2] at hc
        exact absurd hc (nI_m1 (by have := p_gb_lt (f := p_val N m S g) h1; omega))
      · rw [h4, z_cmp_le, z_lN_toInt (by have := Nat.mod_lt (N * m k) hS0; unfold p_r; omega), z_lN_toInt (by have := Nat.mod_lt (N * m (p_gb (p_val N m S g) k)) hS0; unfold p_r; omega)] at hc
        omega
  exact Or.inr ⟨by omega, by rw [e], by rw [e]; exact hk, by rw [e]⟩
theorem pb_old {N : Nat} {m : Nat → Nat} {S : Nat} {g : Nat → Bool} {k : Nat} {b : Int32} {mo : Int64} (hS : S < 2 ^ 62) (hS0 : 0 < S) (h : pbI N m S g k b mo) (hk : g k = false) (hb : ¬ b = -1) (hc : lg_cmp (lN (p_r N m S k)) mo ≤ 0) : pbI N m S g (k + 1) b mo := by
  rcases h with ⟨h1, h2, h3⟩ | ⟨h1, h2, h3, h4⟩
  · exact absurd h1 hb
  · have e : p_gb (p_val N m S g) (k + 1) = p_gb (p_val N m S g) k := by
      refine if_neg ?_
      rw [pv_f h3, pv_f hk]
      rw [h4, z_cmp_le, z_lN_toInt (by have := Nat.mod_lt (N * m k) hS0; unfold p_r; omega), z_lN_toInt (by have := Nat.mod_lt (N * m (p_gb (p_val N m S g) k)) hS0; unfold p_r; omega)] at hc
      omega
    exact Or.inr ⟨by omega, by rw [e]; exact h2, by rw [e]; exact h3, by rw [e]; exact h4⟩
set_option maxHeartbeats 4000000 in
set_option maxRecDepth 100000 in
theorem m_X12_partAmong (G : z_G) {g : Nat} {w0 w : z_w} {c : r_c} {l : r_l} {r : r_r} (hR : r_p dM (TM g) w0 c l r w) (n N : Nat) (m : Nat → Nat) (h1 : 1 ≤ n) (h2 : n ≤ 12) (hN : N < 2 ^ 22) (hm : ∀ i, i < n → m i < 2 ^ 31 ∧ l (116, 0) i = lN (m i)) (hS : 0 < p_sm m n) : z_M G yX12_partAmong cX12_partAmong 14 none 1 (0) (0) [vr (100, 0), vl (lN N), vi (nI n)] w (fun q w1 => q = none ∧ ∃ mo, r_p dM (TM g) w0 (MP c (fun i => if i < n then nI (part N m n i) else c (117, 0) i) mo) l r w1) := by
  refine z_met ym_X12_partAmong (by decide) ⟨Nat.le_of_ble_eq_true rfl, Nat.le_of_ble_eq_true rfl⟩ (fun X hG hn hmc hms hin h hr => ?_)
  have he := hr.2.2.2.2.2.1
  refine z_lconst (v := 0) h dX12_partAmong_0 (by decide) ?_
  refine z_lstore h dX12_partAmong_1 (by rw [hn]; decide) ?_
  refine z_iconst (v := 0) h dX12_partAmong_3 (by decide) ?_
  refine z_istore h dX12_partAmong_4 (by rw [hn]; decide) ?_
  have loop_6 : ∀ (n_ : Nat) (i : Nat), i ≤ n → n + 1 ≤ i + n_ → z_V X 0 0 w 6 [(0, vr (100, 0)), (1, vl (lN N)), (3, vi (nI n)), (4, vl (lN (p_sm m i))), (6, vi (nI i))] [] := by
    intro n_
    induction n_ with
    | zero => intros; omega
    | succ n_ ih_6 =>
      intro i hi hN2
      refine z_iload h dX12_partAmong_6 rfl ?_
      refine z_iload_n h dX12_partAmong_8 rfl ?_
      refine z_icmp_ge h dX12_partAmong_9 30 (by decide) (fun c_1 => ?_) (fun c_1 => ?_)
      · skip
        have e1 : n ≤ i := (nI_leI (by omega) (by omega)).mp c_1
        have hin : i = n := by omega
        rw [hin]
        have hSb : p_sm m n < 2 ^ 62 := by have h5 := p_sm_bd (f := m) (b := 2 ^ 31) (n := n) (fun i hi => Nat.le_of_lt (hm i hi).1); have : n * 2 ^ 31 ≤ 12 * 2 ^ 31 := Nat.mul_le_mul_right _ h2; omega
        have hql := p_qle (N := N) hS
        have hlfn := (p_pos (N := N) hS).2
        refine z_lload_n h dX12_partAmong_30 rfl ?_
        refine z_lstore h dX12_partAmong_31 (by rw [hn]; decide) ?_
        refine z_iconst (v := 0) h dX12_partAmong_33 (by decide) ?_
        refine z_istore h dX12_partAmong_34 (by rw [hn]; decide) ?_
        have loop_36 : ∀ (m_ : Nat) (i : Nat) (w : z_w), r_p dM (TM g) w0 (MP c (fun k => if k < i then nI ((p_q N m (p_sm m n)) k) else c (117, 0) k) (fun k => if k < i then 0 else c (118, 0) k)) l r w → i ≤ n → n + 1 ≤ i + m_ → z_V X 0 0 w 36 [(0, vr (100, 0)), (1, vl (lN N)), (3, vi (nI n)), (4, vl (lN (p_sm m n))), (6, vl (lN (N - p_sm (p_q N m (p_sm m n)) i))), (8, vi (nI i))] [] := by
          intro m_
          induction m_ with
          | zero => intros; omega
          | succ m_ ih_36 =>
            intro i w hR hi hN2
            refine z_iload h dX12_partAmong_36 rfl ?_
            refine z_iload_n h dX12_partAmong_38 rfl ?_
            refine z_icmp_ge h dX12_partAmong_39 89 (by decide) (fun c_2 => ?_) (fun c_2 => ?_)
            · skip
              have e1 : n ≤ i := (nI_leI (by omega) (by omega)).mp c_2
              have loop_89 : ∀ (n_ : Nat) (j : Nat) (w : z_w), r_p dM (TM g) w0 (MP c (shf N m n (c (117, 0)) j) (mof N m n (c (118, 0)) j)) l r w → j ≤ p_lf N m n → p_lf N m n + 1 ≤ j + n_ → z_V X 0 0 w 89 [(0, vr (100, 0)), (1, vl (lN N)), (3, vi (nI n)), (4, vl (lN (p_sm m n))), (6, vl (lN (p_lf N m n - j)))] [] := by
                intro n_
                induction n_ with
                | zero => intros; omega
                | succ n_ ih_89 =>
                  intro j w hR hj hN2
                  refine z_lload h dX12_partAmong_89 rfl ?_
                  refine z_lconst (v := 0) h dX12_partAmong_91 (by decide) ?_
                  refine z_lcmp h dX12_partAmong_92 ?_
                  refine z_if_le h dX12_partAmong_93 191 (by decide) (fun c_5 => ?_) (fun c_5 => ?_)
                  · skip
                    have e5 : p_lf N m n - j = 0 := by rw [z_cmp_le, z_lN_toInt (by omega)] at c_5; have : (0 : Int64).toInt = 0 := rfl; omega
                    exact z_vret h dX12_partAmong_191 hr (⟨rfl, (mof N m n (c (118, 0)) (p_lf N m n)), by rw [show j = p_lf N m n by omega] at hR; exact hR⟩)
                  · skip
                    have e5 : ¬ p_lf N m n - j = 0 := fun q => c_5 (by rw [z_cmp_le, z_lN_toInt (by omega), q]; decide)
                    refine z_iconst (v := -1) h dX12_partAmong_96 (by decide) ?_
                    refine z_istore h dX12_partAmong_97 (by rw [hn]; decide) ?_
                    refine z_lconst (v := 0) h dX12_partAmong_99 (by decide) ?_
                    refine z_lstore h dX12_partAmong_100 (by rw [hn]; decide) ?_
                    refine z_iconst (v := 0) h dX12_partAmong_102 (by decide) ?_
                    refine z_istore h dX12_partAmong_103 (by rw [hn]; decide) ?_
                    have loop_105 : ∀ (k_ : Nat) (k : Nat) (b : Int32) (mo : Int64), pbI N m (p_sm m n) (p_g N m (p_sm m n) n j) k b mo → k ≤ n → n + 1 ≤ k + k_ → z_V X 0 0 w 105 [(0, vr (100, 0)), (1, vl (lN N)), (3, vi (nI n)), (4, vl (lN (p_sm m n))), (6, vl (lN (p_lf N m n - j))), (8, vi b), (9, vl mo), (11, vi (nI k))] [] := by
                      intro k_
                      induction k_ with
                      | zero => intros; omega
                      | succ k_ ih_105 =>
                        intro k b mo hpb hk hN2
                        refine z_iload h dX12_partAmong_105 rfl ?_
                        refine z_iload_n h dX12_partAmong_107 rfl ?_
                        refine z_icmp_ge h dX12_partAmong_108 163 (by decide) (fun c_3 => ?_) (fun c_3 => ?_)
                        · skip
                          have e1 : n ≤ k := (nI_leI (by omega) (by omega)).mp c_3
                          have hkn : k = n := by omega
                          rw [hkn] at hpb
                          have hpick : b = nI (p_gb (p_val N m (p_sm m n) (p_g N m (p_sm m n) n j)) n) ∧ (p_g N m (p_sm m n) n j) (p_gb (p_val N m (p_sm m n) (p_g N m (p_sm m n) n j)) n) = false := by
                            rcases hpb with ⟨_, _, q3⟩ | ⟨_, q2, q3, _⟩
                            · exfalso
                              obtain ⟨hc1, _⟩ := p_rounds (N := N) hS j (by omega)
                              have := p_ct_all (g := (p_g N m (p_sm m n) n j)) (n := n) q3
                              omega
                            · exact ⟨q2, q3⟩
                          have hjn : p_gb (p_val N m (p_sm m n) (p_g N m (p_sm m n) n j)) n < n := p_gb_lt (by omega)
                          refine z_aload_n h dX12_partAmong_163 rfl ?_
                          refine y_getr h dX12_partAmong_164 hR flX12_41 (by first | assumption | exact Nat.le_of_ble_eq_true rfl) (by first | rfl | assumption | exact tx_2 (by first | assumption | omega) | exact tx_18 (by first | assumption | omega) | exact tx_19 (by first | assumption | omega) | exact tx_20 (by first | assumption | omega) | exact tx_27 (by first | assumption | omega) | exact tx_28 (by first | assumption | omega) | exact tx_30 (by first | assumption | omega) | exact tx_31 (by first | assumption | omega) | exact tx_32 (by first | assumption | omega) | exact tx_33 (by first | assumption | omega)) (by rfl) ?_
                          refine z_iload h dX12_partAmong_167 rfl ?_
                          refine z_iconst (v := 1) h dX12_partAmong_169 (by decide) ?_
                          refine y_zast h dX12_partAmong_170 hR (by first | assumption | exact Nat.le_of_ble_eq_true rfl) (by first | rfl | assumption | exact tx_2 (by first | assumption | omega) | exact tx_18 (by first | assumption | omega) | exact tx_19 (by first | assumption | omega) | exact tx_20 (by first | assumption | omega) | exact tx_27 (by first | assumption | omega) | exact tx_28 (by first | assumption | omega) | exact tx_30 (by first | assumption | omega) | exact tx_31 (by first | assumption | omega) | exact tx_32 (by first | assumption | omega) | exact tx_33 (by first | assumption | omega)) (z_ixe hpick.1 (show _ < 12 by omega) (by decide)) (by decide) (fun w hR => ?_)
                          rw [mp_sM, mof_st rfl hjn] at hR
                          refine z_aload_n h dX12_partAmong_171 rfl ?_
                          refine y_getr h dX12_partAmong_172 hR flX12_38 (by first | assumption | exact Nat.le_of_ble_eq_true rfl) (by first | rfl | assumption | exact tx_2 (by first | assumption | omega) | exact tx_18 (by first | assumption | omega) | exact tx_19 (by first | assumption | omega) | exact tx_20 (by first | assumption | omega) | exact tx_27 (by first | assumption | omega) | exact tx_28 (by first | assumption | omega) | exact tx_30 (by first | assumption | omega) | exact tx_31 (by first | assumption | omega) | exact tx_32 (by first | assumption | omega) | exact tx_33 (by first | assumption | omega)) (by rfl) ?_
                          refine z_iload h dX12_partAmong_175 rfl ?_
                          refine z_dup2_ir h dX12_partAmong_177 ?_
                          refine y_iald h dX12_partAmong_178 hR (by first | assumption | exact Nat.le_of_ble_eq_true rfl) (by first | rfl | assumption | exact tx_2 (by first | assumption | omega) | exact tx_18 (by first | assumption | omega) | exact tx_19 (by first | assumption | omega) | exact tx_20 (by first | assumption | omega) | exact tx_27 (by first | assumption | omega) | exact tx_28 (by first | assumption | omega) | exact tx_30 (by first | assumption | omega) | exact tx_31 (by first | assumption | omega) | exact tx_32 (by first | assumption | omega) | exact tx_33 (by first | assumption | omega)) (z_ixe hpick.1 (show _ < 12 by omega) (by decide)) ?_
                          rw [mp_S]
                          refine z_iconst (v := 1) h dX12_partAmong_179 (by decide) ?_
                          refine z_iadd h dX12_partAmong_180 ?_
                          refine y_iast h dX12_partAmong_181 hR (by first | assumption | exact Nat.le_of_ble_eq_true rfl) (by first | rfl | assumption | exact tx_2 (by first | assumption | omega) | exact tx_18 (by first | assumption | omega) | exact tx_19 (by first | assumption | omega) | exact tx_20 (by first | assumption | omega) | exact tx_27 (by first | assumption | omega) | exact tx_28 (by first | assumption | omega) | exact tx_30 (by first | assumption | omega) | exact tx_31 (by first | assumption | omega) | exact tx_32 (by first | assumption | omega) | exact tx_33 (by first | assumption | omega)) (z_ixe hpick.1 (show _ < 12 by omega) (by decide)) (fun w hR => ?_)
                          refine z_lload h dX12_partAmong_182 rfl ?_
                          refine z_lconst (v := 1) h dX12_partAmong_184 (by decide) ?_
                          refine z_lsub h dX12_partAmong_185 ?_
                          refine z_lstore h dX12_partAmong_186 (by rw [hn]; decide) ?_
                          refine z_goto h dX12_partAmong_188 89 (by decide) ?_
                          refine z_loc [(0, vr (100, 0)), (1, vl (lN N)), (3, vi (nI n)), (4, vl (lN (p_sm m n))), (6, vl (lN (p_lf N m n - (j + 1))))] ⟨rfl, rfl, rfl, rfl, congrArg (fun z => some (vl z)) ?_, trivial⟩ ?_
                          · rw [show (1 : Int64) = lN 1 from rfl, lN_sub (by omega), Nat.sub_sub]
                          exact ih_89 (j + 1) w (by rw [mp_sS, shf_st rfl hjn hpick.2] at hR; exact hR) (by omega) (by omega)
                        · skip
                          have e1 : ¬ n ≤ k := fun q => c_3 ((nI_leI (by omega) (by omega)).mpr q)
                          refine z_lload_n h dX12_partAmong_111 rfl ?_
                          refine z_aload_n h dX12_partAmong_112 rfl ?_
                          refine y_getr h dX12_partAmong_113 hR flX12_34 (by first | assumption | exact Nat.le_of_ble_eq_true rfl) (by first | rfl | assumption | exact tx_2 (by first | assumption | omega) | exact tx_18 (by first | assumption | omega) | exact tx_19 (by first | assumption | omega) | exact tx_20 (by first | assumption | omega) | exact tx_27 (by first | assumption | omega) | exact tx_28 (by first | assumption | omega) | exact tx_30 (by first | assumption | omega) | exact tx_31 (by first | assumption | omega) | exact tx_32 (by first | assumption | omega) | exact tx_33 (by first | assumption | omega)) (by rfl) ?_
                          refine z_iload h dX12_partAmong_116 rfl ?_
                          refine y_lald h dX12_partAmong_118 hR (by first | assumption | exact Nat.le_of_ble_eq_true rfl) (by first | rfl | assumption | exact tx_2 (by first | assumption | omega) | exact tx_18 (by first | assumption | omega) | exact tx_19 (by first | assumption | omega) | exact tx_20 (by first | assumption | omega) | exact tx_27 (by first | assumption | omega) | exact tx_28 (by first | assumption | omega) | exact tx_30 (by first | assumption | omega) | exact tx_31 (by first | assumption | omega) | exact tx_32 (by first | assumption | omega) | exact tx_33 (by first | assumption | omega)) (z_ixn (show k < 12 by omega) (by decide)) ?_
                          have hmk := hm k (by omega)
                          have hpr : N * m k < 2 ^ 62 := Nat.lt_of_le_of_lt (Nat.mul_le_mul (Nat.le_of_lt hN) (Nat.le_of_lt hmk.1)) (by decide)
                          refine z_lmul h dX12_partAmong_119 ?_
                          refine z_lload h dX12_partAmong_120 rfl ?_
                          refine z_lrem h dX12_partAmong_122 (z_lNne hS (by omega)) ?_
                          refine z_tole (y := lN (p_r N m (p_sm m n) k)) (by rw [hmk.2, lN_mul, pk_lRem (by omega) hS (by omega)]; rfl) ?_
                          refine z_lstore h dX12_partAmong_123 (by rw [hn]; decide) ?_
                          refine z_aload_n h dX12_partAmong_125 rfl ?_
                          refine y_getr h dX12_partAmong_126 hR flX12_41 (by first | assumption | exact Nat.le_of_ble_eq_true rfl) (by first | rfl | assumption | exact tx_2 (by first | assumption | omega) | exact tx_18 (by first | assumption | omega) | exact tx_19 (by first | assumption | omega) | exact tx_20 (by first | assumption | omega) | exact tx_27 (by first | assumption | omega) | exact tx_28 (by first | assumption | omega) | exact tx_30 (by first | assumption | omega) | exact tx_31 (by first | assumption | omega) | exact tx_32 (by first | assumption | omega) | exact tx_33 (by first | assumption | omega)) (by rfl) ?_
                          refine z_iload h dX12_partAmong_129 rfl ?_
                          refine y_zald h dX12_partAmong_131 hR (by first | assumption | exact Nat.le_of_ble_eq_true rfl) (by first | rfl | assumption | exact tx_2 (by first | assumption | omega) | exact tx_18 (by first | assumption | omega) | exact tx_19 (by first | assumption | omega) | exact tx_20 (by first | assumption | omega) | exact tx_27 (by first | assumption | omega) | exact tx_28 (by first | assumption | omega) | exact tx_30 (by first | assumption | omega) | exact tx_31 (by first | assumption | omega) | exact tx_32 (by first | assumption | omega) | exact tx_33 (by first | assumption | omega)) (z_ixn (show k < 12 by omega) (by decide)) ?_
                          refine z_toe (y := if (p_g N m (p_sm m n) n j) k = true then 1 else 0) (by rw [mp_M]; exact if_pos (by omega)) ?_
                          refine z_if_ne h dX12_partAmong_132 157 (by decide) (fun c_6 => ?_) (fun c_6 => ?_)
                          · skip
                            have hgk : (p_g N m (p_sm m n) n j) k = true := by
                              cases q : (p_g N m (p_sm m n) n j) k with
                              | true => rfl
                              | false => rw [q] at c_6; exact absurd rfl c_6
                            refine z_iinc (v := 1) h dX12_partAmong_157 rfl (by decide) (by rw [hn]; decide) ?_
                            refine z_goto h dX12_partAmong_160 105 (by decide) ?_
                            refine z_loc [(0, vr (100, 0)), (1, vl (lN N)), (3, vi (nI n)), (4, vl (lN (p_sm m n))), (6, vl (lN (p_lf N m n - j))), (8, vi b), (9, vl mo), (11, vi (nI (k + 1)))] ⟨rfl, rfl, rfl, rfl, rfl, rfl, rfl, congrArg (fun z => some (vi z)) (z_up k), trivial⟩ ?_
                            exact ih_105 (k + 1) b mo (pb_tk hpb hgk) (by omega) (by omega)
                          · skip
                            have hgk : (p_g N m (p_sm m n) n j) k = false := by
                              cases q : (p_g N m (p_sm m n) n j) k with
                              | false => rfl
                              | true => rw [q] at c_6; exact absurd c_6 (by decide)
                            refine z_iload h dX12_partAmong_135 rfl ?_
                            refine z_iconst (v := -1) h dX12_partAmong_137 (by decide) ?_
                            refine z_icmp_eq h dX12_partAmong_138 149 (by decide) (fun c_7 => ?_) (fun c_7 => ?_)
                            · skip
                              refine z_iload h dX12_partAmong_149 rfl ?_
                              refine z_istore h dX12_partAmong_151 (by rw [hn]; decide) ?_
                              refine z_lload h dX12_partAmong_153 rfl ?_
                              refine z_lstore h dX12_partAmong_155 (by rw [hn]; decide) ?_
                              refine z_iinc (v := 1) h dX12_partAmong_157 rfl (by decide) (by rw [hn]; decide) ?_
                              refine z_goto h dX12_partAmong_160 105 (by decide) ?_
                              refine z_loc [(0, vr (100, 0)), (1, vl (lN N)), (3, vi (nI n)), (4, vl (lN (p_sm m n))), (6, vl (lN (p_lf N m n - j))), (8, vi (nI k)), (9, vl (lN (p_r N m (p_sm m n) k))), (11, vi (nI (k + 1)))] ⟨rfl, rfl, rfl, rfl, rfl, rfl, rfl, congrArg (fun z => some (vi z)) (z_up k), trivial⟩ ?_
                              exact ih_105 (k + 1) _ _ (pb_new hSb hS hpb hgk (Or.inl c_7) (by omega)) (by omega) (by omega)
                            · skip
                              refine z_lload h dX12_partAmong_141 rfl ?_
                              refine z_lload h dX12_partAmong_143 rfl ?_
                              refine z_lcmp h dX12_partAmong_145 ?_
                              refine z_if_le h dX12_partAmong_146 157 (by decide) (fun c_8 => ?_) (fun c_8 => ?_)
                              · skip
                                refine z_iinc (v := 1) h dX12_partAmong_157 rfl (by decide) (by rw [hn]; decide) ?_
                                refine z_goto h dX12_partAmong_160 105 (by decide) ?_
                                refine z_loc [(0, vr (100, 0)), (1, vl (lN N)), (3, vi (nI n)), (4, vl (lN (p_sm m n))), (6, vl (lN (p_lf N m n - j))), (8, vi b), (9, vl mo), (11, vi (nI (k + 1)))] ⟨rfl, rfl, rfl, rfl, rfl, rfl, rfl, congrArg (fun z => some (vi z)) (z_up k), trivial⟩ ?_
                                exact ih_105 (k + 1) b mo (pb_old hSb hS hpb hgk c_7 c_8) (by omega) (by omega)
                              · skip
                                refine z_iload h dX12_partAmong_149 rfl ?_
                                refine z_istore h dX12_partAmong_151 (by rw [hn]; decide) ?_
                                refine z_lload h dX12_partAmong_153 rfl ?_
                                refine z_lstore h dX12_partAmong_155 (by rw [hn]; decide) ?_
                                refine z_iinc (v := 1) h dX12_partAmong_157 rfl (by decide) (by rw [hn]; decide) ?_
                                refine z_goto h dX12_partAmong_160 105 (by decide) ?_
                                refine z_loc [(0, vr (100, 0)), (1, vl (lN N)), (3, vi (nI n)), (4, vl (lN (p_sm m n))), (6, vl (lN (p_lf N m n - j))), (8, vi (nI k)), (9, vl (lN (p_r N m (p_sm m n) k))), (11, vi (nI (k + 1)))] ⟨rfl, rfl, rfl, rfl, rfl, rfl, rfl, congrArg (fun z => some (vi z)) (z_up k), trivial⟩ ?_
                                exact ih_105 (k + 1) _ _ (pb_new hSb hS hpb hgk (Or.inr c_8) (by omega)) (by omega) (by omega)
                    exact z_loc [(0, vr (100, 0)), (1, vl (lN N)), (3, vi (nI n)), (4, vl (lN (p_sm m n))), (6, vl (lN (p_lf N m n - j))), (8, vi (-1)), (9, vl 0), (11, vi (nI 0))] ⟨rfl, rfl, rfl, rfl, rfl, rfl, rfl, rfl, trivial⟩ (loop_105 (n + 1) 0 (-1) 0 (Or.inl ⟨rfl, rfl, fun i hi => by omega⟩) (by omega) (by omega))
              have hR0 : r_p dM (TM g) w0 (MP c (shf N m n (c (117, 0)) 0) (mof N m n (c (118, 0)) 0)) l r w := by
                rw [show (shf N m n (c (117, 0)) 0) = (fun k => if k < n then nI ((p_q N m (p_sm m n)) k) else c (117, 0) k) from funext fun k => by show (if k < n then nI (_ + if false = true then 1 else 0) else _) = _; rfl, show (mof N m n (c (118, 0)) 0) = (fun k => if k < n then 0 else c (118, 0) k) from funext fun k => by show (if k < n then (if false = true then 1 else 0) else _) = _; rfl]
                exact (show i = n by omega) ▸ hR
              exact z_loc [(0, vr (100, 0)), (1, vl (lN N)), (3, vi (nI n)), (4, vl (lN (p_sm m n))), (6, vl (lN (p_lf N m n - 0)))] ⟨rfl, rfl, rfl, rfl, by rw [show n = i by omega]; rfl, trivial⟩ (loop_89 (p_lf N m n + 1) 0 w hR0 (by omega) (by omega))
            · skip
              have e1 : ¬ n ≤ i := fun q => c_2 ((nI_leI (by omega) (by omega)).mpr q)
              have hmi := hm i (by omega)
              have hpr : N * m i < 2 ^ 62 := Nat.lt_of_le_of_lt (Nat.mul_le_mul (Nat.le_of_lt hN) (Nat.le_of_lt hmi.1)) (by decide)
              refine z_aload_n h dX12_partAmong_42 rfl ?_
              refine y_getr h dX12_partAmong_43 hR flX12_38 (by first | assumption | exact Nat.le_of_ble_eq_true rfl) (by first | rfl | assumption | exact tx_2 (by first | assumption | omega) | exact tx_18 (by first | assumption | omega) | exact tx_19 (by first | assumption | omega) | exact tx_20 (by first | assumption | omega) | exact tx_27 (by first | assumption | omega) | exact tx_28 (by first | assumption | omega) | exact tx_30 (by first | assumption | omega) | exact tx_31 (by first | assumption | omega) | exact tx_32 (by first | assumption | omega) | exact tx_33 (by first | assumption | omega)) (by rfl) ?_
              refine z_iload h dX12_partAmong_46 rfl ?_
              refine z_lload_n h dX12_partAmong_48 rfl ?_
              refine z_aload_n h dX12_partAmong_49 rfl ?_
              refine y_getr h dX12_partAmong_50 hR flX12_34 (by first | assumption | exact Nat.le_of_ble_eq_true rfl) (by first | rfl | assumption | exact tx_2 (by first | assumption | omega) | exact tx_18 (by first | assumption | omega) | exact tx_19 (by first | assumption | omega) | exact tx_20 (by first | assumption | omega) | exact tx_27 (by first | assumption | omega) | exact tx_28 (by first | assumption | omega) | exact tx_30 (by first | assumption | omega) | exact tx_31 (by first | assumption | omega) | exact tx_32 (by first | assumption | omega) | exact tx_33 (by first | assumption | omega)) (by rfl) ?_
              refine z_iload h dX12_partAmong_53 rfl ?_
              refine y_lald h dX12_partAmong_55 hR (by first | assumption | exact Nat.le_of_ble_eq_true rfl) (by first | rfl | assumption | exact tx_2 (by first | assumption | omega) | exact tx_18 (by first | assumption | omega) | exact tx_19 (by first | assumption | omega) | exact tx_20 (by first | assumption | omega) | exact tx_27 (by first | assumption | omega) | exact tx_28 (by first | assumption | omega) | exact tx_30 (by first | assumption | omega) | exact tx_31 (by first | assumption | omega) | exact tx_32 (by first | assumption | omega) | exact tx_33 (by first | assumption | omega)) (z_ixn (show i < 12 by omega) (by decide)) ?_
              refine z_lmul h dX12_partAmong_56 ?_
              refine z_tole (y := lN (N * m i)) (by rw [hmi.2, lN_mul]) ?_
              refine z_lload h dX12_partAmong_57 rfl ?_
              refine z_ldiv h dX12_partAmong_59 (z_lNne hS (by omega)) ?_
              refine z_l2i h dX12_partAmong_60 ?_
              refine z_toe (y := nI ((p_q N m (p_sm m n)) i)) (by rw [pk_lDiv (by omega) hS (by omega), lN_i]; rfl) ?_
              refine y_iast h dX12_partAmong_61 hR (by first | assumption | exact Nat.le_of_ble_eq_true rfl) (by first | rfl | assumption | exact tx_2 (by first | assumption | omega) | exact tx_18 (by first | assumption | omega) | exact tx_19 (by first | assumption | omega) | exact tx_20 (by first | assumption | omega) | exact tx_27 (by first | assumption | omega) | exact tx_28 (by first | assumption | omega) | exact tx_30 (by first | assumption | omega) | exact tx_31 (by first | assumption | omega) | exact tx_32 (by first | assumption | omega) | exact tx_33 (by first | assumption | omega)) (z_ixn (show i < 12 by omega) (by decide)) (fun w hR => ?_)
              rw [mp_sS] at hR
              refine z_lload h dX12_partAmong_62 rfl ?_
              refine z_aload_n h dX12_partAmong_64 rfl ?_
              refine y_getr h dX12_partAmong_65 hR flX12_38 (by first | assumption | exact Nat.le_of_ble_eq_true rfl) (by first | rfl | assumption | exact tx_2 (by first | assumption | omega) | exact tx_18 (by first | assumption | omega) | exact tx_19 (by first | assumption | omega) | exact tx_20 (by first | assumption | omega) | exact tx_27 (by first | assumption | omega) | exact tx_28 (by first | assumption | omega) | exact tx_30 (by first | assumption | omega) | exact tx_31 (by first | assumption | omega) | exact tx_32 (by first | assumption | omega) | exact tx_33 (by first | assumption | omega)) (by rfl) ?_
              refine z_iload h dX12_partAmong_68 rfl ?_
              refine y_iald h dX12_partAmong_70 hR (by first | assumption | exact Nat.le_of_ble_eq_true rfl) (by first | rfl | assumption | exact tx_2 (by first | assumption | omega) | exact tx_18 (by first | assumption | omega) | exact tx_19 (by first | assumption | omega) | exact tx_20 (by first | assumption | omega) | exact tx_27 (by first | assumption | omega) | exact tx_28 (by first | assumption | omega) | exact tx_30 (by first | assumption | omega) | exact tx_31 (by first | assumption | omega) | exact tx_32 (by first | assumption | omega) | exact tx_33 (by first | assumption | omega)) (z_ixn (show i < 12 by omega) (by decide)) ?_
              refine z_toe (y := nI ((p_q N m (p_sm m n)) i)) (by rw [mp_S, pk_us]) ?_
              have hqi : (p_q N m (p_sm m n)) i < 2 ^ 31 := by
                have h5 := p_sm_mono (f := (p_q N m (p_sm m n))) (show i + 1 ≤ n by omega)
                have h6 : p_sm (p_q N m (p_sm m n)) (i + 1) = p_sm (p_q N m (p_sm m n)) i + (p_q N m (p_sm m n)) i := rfl
                omega
              refine z_i2l h dX12_partAmong_71 ?_
              refine z_tole (y := lN ((p_q N m (p_sm m n)) i)) (nI_l hqi) ?_
              refine z_lsub h dX12_partAmong_72 ?_
              refine z_lstore h dX12_partAmong_73 (by rw [hn]; decide) ?_
              refine z_aload_n h dX12_partAmong_75 rfl ?_
              refine y_getr h dX12_partAmong_76 hR flX12_41 (by first | assumption | exact Nat.le_of_ble_eq_true rfl) (by first | rfl | assumption | exact tx_2 (by first | assumption | omega) | exact tx_18 (by first | assumption | omega) | exact tx_19 (by first | assumption | omega) | exact tx_20 (by first | assumption | omega) | exact tx_27 (by first | assumption | omega) | exact tx_28 (by first | assumption | omega) | exact tx_30 (by first | assumption | omega) | exact tx_31 (by first | assumption | omega) | exact tx_32 (by first | assumption | omega) | exact tx_33 (by first | assumption | omega)) (by rfl) ?_
              refine z_iload h dX12_partAmong_79 rfl ?_
              refine z_iconst (v := 0) h dX12_partAmong_81 (by decide) ?_
              refine y_zast h dX12_partAmong_82 hR (by first | assumption | exact Nat.le_of_ble_eq_true rfl) (by first | rfl | assumption | exact tx_2 (by first | assumption | omega) | exact tx_18 (by first | assumption | omega) | exact tx_19 (by first | assumption | omega) | exact tx_20 (by first | assumption | omega) | exact tx_27 (by first | assumption | omega) | exact tx_28 (by first | assumption | omega) | exact tx_30 (by first | assumption | omega) | exact tx_31 (by first | assumption | omega) | exact tx_32 (by first | assumption | omega) | exact tx_33 (by first | assumption | omega)) (z_ixn (show i < 12 by omega) (by decide)) (by decide) (fun w hR => ?_)
              refine z_iinc (v := 1) h dX12_partAmong_83 rfl (by decide) (by rw [hn]; decide) ?_
              refine z_goto h dX12_partAmong_86 36 (by decide) ?_
              refine z_loc [(0, vr (100, 0)), (1, vl (lN N)), (3, vi (nI n)), (4, vl (lN (p_sm m n))), (6, vl (lN (N - p_sm (p_q N m (p_sm m n)) (i + 1)))), (8, vi (nI (i + 1)))] ⟨rfl, rfl, rfl, rfl, congrArg (fun z => some (vl z)) ?_, congrArg (fun z => some (vi z)) (z_up i), trivial⟩ ?_
              · rw [lN_sub (by have h5 := p_sm_mono (f := (p_q N m (p_sm m n))) (show i + 1 ≤ n by omega); have h6 : p_sm (p_q N m (p_sm m n)) (i + 1) = p_sm (p_q N m (p_sm m n)) i + (p_q N m (p_sm m n)) i := rfl; omega), Nat.sub_sub]; rfl
              exact ih_36 (i + 1) w (by
                rw [mp_sM, z_upd_h (g := fun _ => 0) rfl, z_upd_h (g := fun k => nI ((p_q N m (p_sm m n)) k)) rfl] at hR
                exact hR) (by omega) (by omega)
        have hR0 : r_p dM (TM g) w0 (MP c (fun k => if k < 0 then nI ((p_q N m (p_sm m n)) k) else c (117, 0) k) (fun k => if k < 0 then 0 else c (118, 0) k)) l r w := by
          rw [show (fun k => if k < 0 then nI ((p_q N m (p_sm m n)) k) else c (117, 0) k) = c (117, 0) from funext fun k => if_neg (by omega), show (fun k => if k < 0 then 0 else c (118, 0) k) = c (118, 0) from funext fun k => if_neg (by omega), mp_id]
          exact hR
        exact z_loc [(0, vr (100, 0)), (1, vl (lN N)), (3, vi (nI n)), (4, vl (lN (p_sm m n))), (6, vl (lN (N - p_sm (p_q N m (p_sm m n)) 0))), (8, vi (nI 0))] ⟨rfl, rfl, rfl, rfl, rfl, rfl, trivial⟩ (loop_36 (n + 1) 0 w hR0 (by omega) (by omega))
      · skip
        have e1 : ¬ n ≤ i := fun q => c_1 ((nI_leI (by omega) (by omega)).mpr q)
        refine z_lload h dX12_partAmong_12 rfl ?_
        refine z_aload_n h dX12_partAmong_14 rfl ?_
        refine y_getr h dX12_partAmong_15 hR flX12_34 (by first | assumption | exact Nat.le_of_ble_eq_true rfl) (by first | rfl | assumption | exact tx_2 (by first | assumption | omega) | exact tx_18 (by first | assumption | omega) | exact tx_19 (by first | assumption | omega) | exact tx_20 (by first | assumption | omega) | exact tx_27 (by first | assumption | omega) | exact tx_28 (by first | assumption | omega) | exact tx_30 (by first | assumption | omega) | exact tx_31 (by first | assumption | omega) | exact tx_32 (by first | assumption | omega) | exact tx_33 (by first | assumption | omega)) (by rfl) ?_
        refine z_iload h dX12_partAmong_18 rfl ?_
        refine y_lald h dX12_partAmong_20 hR (by first | assumption | exact Nat.le_of_ble_eq_true rfl) (by first | rfl | assumption | exact tx_2 (by first | assumption | omega) | exact tx_18 (by first | assumption | omega) | exact tx_19 (by first | assumption | omega) | exact tx_20 (by first | assumption | omega) | exact tx_27 (by first | assumption | omega) | exact tx_28 (by first | assumption | omega) | exact tx_30 (by first | assumption | omega) | exact tx_31 (by first | assumption | omega) | exact tx_32 (by first | assumption | omega) | exact tx_33 (by first | assumption | omega)) (z_ixn (show i < 12 by omega) (by decide)) ?_
        refine z_ladd h dX12_partAmong_21 ?_
        refine z_lstore h dX12_partAmong_22 (by rw [hn]; decide) ?_
        refine z_iinc (v := 1) h dX12_partAmong_24 rfl (by decide) (by rw [hn]; decide) ?_
        refine z_goto h dX12_partAmong_27 6 (by decide) ?_
        refine z_loc [(0, vr (100, 0)), (1, vl (lN N)), (3, vi (nI n)), (4, vl (lN (p_sm m (i + 1)))), (6, vi (nI (i + 1)))] ⟨rfl, rfl, rfl, congrArg (fun z => some (vl z)) ?_, congrArg (fun z => some (vi z)) (z_up i), trivial⟩ ?_
        · rw [(hm i (by omega)).2, lN_add]; rfl
        exact ih_6 (i + 1) (by omega) (by omega)
  exact z_loc [(0, vr (100, 0)), (1, vl (lN N)), (3, vi (nI n)), (4, vl (lN (p_sm m 0))), (6, vi (nI 0))] ⟨rfl, rfl, rfl, rfl, rfl, trivial⟩ (loop_6 (n + 1) 0 (by omega) (by omega))
