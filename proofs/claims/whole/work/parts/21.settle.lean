/-! the class: settling a pay -/
def s_cl (c : r_c) (bi nr : Nat) (y : Int32) (h : Nat) : Int32 := z_sum (fun k => c (19, bi) k * (i_f (c (22, 0)) (c (23, 0)) (c (24, 0)) (c (25, 0)) (nI k) (nI h) y nr).2) 12
def s_sh (co : Nat) (m : Nat → Nat) (h : Nat) : Int32 := if p_sm m 8 = 0 then (if h = 0 then nI co else 0) else nI (part co m 8 h)
def cn (d : Nat → Int32) : Nat → Nat
  | 0 => 0
  | h + 1 => cn d h + if d h = 0 then 0 else 1
theorem cn_le (d : Nat → Int32) : ∀ h, cn d h ≤ h
  | 0 => Nat.le_refl 0
  | h + 1 => by
    have := cn_le d h
    show cn d h + _ ≤ h + 1
    split <;> omega
theorem cn_mono (d : Nat → Int32) : ∀ {h k : Nat}, h ≤ k → cn d h ≤ cn d k
  | h, 0, q => by rw [show h = 0 by omega]; exact Nat.le_refl _
  | h, k + 1, q => by
    by_cases e : h = k + 1
    · rw [e]; exact Nat.le_refl _
    · have := cn_mono d (show h ≤ k by omega)
      show cn d h ≤ cn d k + _
      omega
theorem cn_lt (d : Nat → Int32) {j h : Nat} (hj : j < h) (hd : d j ≠ 0) : cn d j < cn d h := by
  have h1 := cn_mono d (show j + 1 ≤ h by omega)
  have h2 : cn d (j + 1) = cn d j + 1 := by show cn d j + (if d j = 0 then 0 else 1) = _; rw [if_neg hd]
  omega
/-- the ledger, h holders on -/
def LN (c : r_c) (g nl p : Nat) (d : Nat → Int32) (now : Int32) (h : Nat) (c1 : r_c) (g1 : Nat) : Prop :=
  ((g1 = g ∧ nl + cn d h ≤ 64 * 2 ^ g) ∨ (g1 = g + 1 ∧ 64 * 2 ^ g < nl + cn d h)) ∧ (∀ k, k < nl → c1 (30, g1) k = c (30, g) k ∧ c1 (31, g1) k = c (31, g) k ∧ c1 (32, g1) k = c (32, g) k ∧ c1 (33, g1) k = c (33, g) k) ∧
  (∀ j, j < h → d j ≠ 0 → c1 (30, g1) (nl + cn d j) = now ∧ c1 (31, g1) (nl + cn d j) = nI p ∧ c1 (32, g1) (nl + cn d j) = nI j ∧ c1 (33, g1) (nl + cn d j) = d j) ∧
  (∀ j, c1 (34, 0) j = if j < h then c (34, 0) j + d j else c (34, 0) j) ∧ c1 (29, 0) 5 = nI (nl + cn d h)
theorem LN_0 {c c1 : r_c} {g nl p : Nat} {d : Nat → Int32} {now : Int32} (hn : nl ≤ 64 * 2 ^ g) (h5 : c (29, 0) 5 = nI nl) (hf : ∀ t : z_T, 29 ≤ t.1 → t.1 ≤ 34 → c1 t = c t) : LN c g nl p d now 0 c1 g := by
  refine ⟨Or.inl ⟨rfl, hn⟩, fun k _ => ?_, fun j hj => absurd hj (Nat.not_lt_zero j), fun j => ?_, ?_⟩
  · rw [hf (30, g) (by simp) (by simp), hf (31, g) (by simp) (by simp), hf (32, g) (by simp) (by simp), hf (33, g) (by simp) (by simp)]
    exact ⟨rfl, rfl, rfl, rfl⟩
  · rw [hf (34, 0) (by simp) (by simp), if_neg (Nat.not_lt_zero j)]
  · rw [hf (29, 0) (by simp) (by simp)]
    exact h5
theorem LN_skip {c c1 : r_c} {g g1 nl p h : Nat} {d : Nat → Int32} {now : Int32} (H : LN c g nl p d now h c1 g1) (hd : d h = 0) : LN c g nl p d now (h + 1) c1 g1 := by
  have e : cn d (h + 1) = cn d h := by show cn d h + (if d h = 0 then 0 else 1) = _; rw [if_pos hd]; rfl
  obtain ⟨h1, h2, h3, h4, h5⟩ := H
  refine ⟨by rw [e]; exact h1, h2, fun j hj hdj => ?_, fun j => ?_, by rw [e]; exact h5⟩
  · by_cases q : j = h
    · subst q; exact absurd hd hdj
    · exact h3 j (by omega) hdj
  · rw [h4 j]
    by_cases q : j = h
    · subst q; rw [if_neg (by omega), if_pos (by omega), hd, Int32.add_zero]
    · by_cases q2 : j < h
      · rw [if_pos q2, if_pos (by omega)]
      · rw [if_neg q2, if_neg (by omega)]
theorem LN_eqv {c c1 c2 : r_c} {g g1 nl p h : Nat} {d : Nat → Int32} {now : Int32} (H : LN c g nl p d now h c1 g1) (hf : ∀ t : z_T, 29 ≤ t.1 → t.1 ≤ 34 → c2 t = c1 t) : LN c g nl p d now h c2 g1 := by
  obtain ⟨h1, h2, h3, h4, h5⟩ := H
  refine ⟨h1, fun k hk => ?_, fun j hj hdj => ?_, fun j => ?_, ?_⟩
  · rw [hf (30, g1) (by simp) (by simp), hf (31, g1) (by simp) (by simp), hf (32, g1) (by simp) (by simp), hf (33, g1) (by simp) (by simp)]
    exact h2 k hk
  · rw [hf (30, g1) (by simp) (by simp), hf (31, g1) (by simp) (by simp), hf (32, g1) (by simp) (by simp), hf (33, g1) (by simp) (by simp)]
    exact h3 j hj hdj
  · rw [hf (34, 0) (by simp) (by simp)]
    exact h4 j
  · rw [hf (29, 0) (by simp) (by simp)]
    exact h5
theorem LN_step {c c1 c2 : r_c} {g g1 g2 nl p h : Nat} {d : Nat → Int32} {now : Int32} (H : LN c g nl p d now h c1 g1) (hd : d h ≠ 0) (hn : nl ≤ 64 * 2 ^ g) (hh : h < 8) (G : LG c1 g1 (nl + cn d h) h now (nI p) (d h) c2 g2) : LN c g nl p d now (h + 1) c2 g2 := by
  have e : cn d (h + 1) = cn d h + 1 := by show cn d h + (if d h = 0 then 0 else 1) = _; rw [if_neg hd]
  have hc := cn_le d h
  have hp : 0 < 2 ^ g := Nat.pow_pos (by omega)
  obtain ⟨h1, h2, h3, h4, h5⟩ := H
  obtain ⟨k1, k2, k3, k4, k5, k6, k7, k8, k9⟩ := G
  refine ⟨?_, fun k hk => ?_, fun j hj hdj => ?_, fun j => ?_, ?_⟩
  · rw [e]
    rcases h1 with ⟨q1, q2⟩ | ⟨q1, q2⟩
    · subst q1
      by_cases q3 : nl + cn d h < 64 * 2 ^ g1
      · rw [if_pos q3] at k1; exact Or.inl ⟨k1, by omega⟩
      · rw [if_neg q3] at k1; exact Or.inr ⟨k1, by omega⟩
    · subst q1
      rw [if_pos (by rw [Nat.pow_succ]; omega)] at k1
      exact Or.inr ⟨k1, by omega⟩
  · obtain ⟨b1, b2, b3, b4⟩ := h2 k hk
    obtain ⟨a1, a2, a3, a4⟩ := k2 k (by omega)
    exact ⟨a1.trans b1, a2.trans b2, a3.trans b3, a4.trans b4⟩
  · by_cases q : j = h
    · subst q; exact ⟨k3, k4, k5, k6⟩
    · have hl := cn_lt d (show j < h by omega) hdj
      obtain ⟨b1, b2, b3, b4⟩ := h3 j (by omega) hdj
      obtain ⟨a1, a2, a3, a4⟩ := k2 (nl + cn d j) (by omega)
      exact ⟨a1.trans b1, a2.trans b2, a3.trans b3, a4.trans b4⟩
  · rw [k7]
    by_cases q : j = h
    · subst q; rw [pk_us, h4 j, if_neg (by omega), if_pos (by omega)]
    · rw [pk_un q, h4 j]
      by_cases q2 : j < h
      · rw [if_pos q2, if_pos (by omega)]
      · rw [if_neg q2, if_neg (by omega)]
  · rw [e, ← Nat.add_assoc]; exact k8
theorem x_write_a (G : z_G) {nb na np g : Nat} {w0 w : z_w} {c : r_c} {l : r_l} {r : r_r} (hR : r_p dX (TX nb na np g) w0 c l r w) (nl h_ : Nat) (hc : c (29, 0) 5 = nI nl) (hnl : nl ≤ 64 * 2 ^ g) (hnl4 : nl < 4096) (hg6 : g ≤ 6) (hh : h_ < 8) (y p a : Int32) (hq : nl < 64 * 2 ^ g) : z_M G yX4_write cX4_write 5 none 4 (0) (0) [vr (29, 0), vi y, vi p, vi (nI h_), vi a] w (fun q w1 => q = none ∧ ∃ g1 c1, r_p dX (TX nb na np g1) w0 (c1) (l) (r) w1 ∧ LG c g nl h_ y p a c1 g1) := by
  have := m_X4_write G hR nl h_ hc hnl hnl4 hg6 hh y p a
  rw [if_pos hq, if_pos hq] at this
  exact this
theorem x_write_b (G : z_G) {nb na np g : Nat} {w0 w : z_w} {c : r_c} {l : r_l} {r : r_r} (hR : r_p dX (TX nb na np g) w0 c l r w) (nl h_ : Nat) (hc : c (29, 0) 5 = nI nl) (hnl : nl ≤ 64 * 2 ^ g) (hnl4 : nl < 4096) (hg6 : g ≤ 6) (hh : h_ < 8) (y p a : Int32) (hq : ¬ nl < 64 * 2 ^ g) : z_M G yX4_write cX4_write 5 none 4 (4) (8 * (64 * 2 ^ g)) [vr (29, 0), vi y, vi p, vi (nI h_), vi a] w (fun q w1 => q = none ∧ ∃ g1 c1, r_p dX (TX nb na np g1) w0 (c1) (l) (r) w1 ∧ LG c g nl h_ y p a c1 g1) := by
  have := m_X4_write G hR nl h_ hc hnl hnl4 hg6 hh y p a
  rw [if_neg hq, if_neg hq] at this
  exact this
theorem z_sub0 {a b : Int32} (h : a - b = 0) : a = b := by
  have := congrArg (· + b) h
  simp only [Int32.sub_add_cancel, Int32.zero_add] at this
  exact this
set_option maxHeartbeats 4000000 in
set_option maxRecDepth 100000 in
theorem m_X11_settle (G : z_G) {nb na np g : Nat} {w0 w : z_w} {c : r_c} {l : r_l} {r : r_r} (hR : r_p dX (TX nb na np g) w0 c l r w) (hna : na ≤ 100) (hnp : np ≤ 60) (hg6 : g ≤ 6) (hc8 : c (0, 0) 8 = nI na) (hr17 : ∀ i, i < na → r (17, 0) i = some (18, i)) (hr26 : ∀ i, i < np → r (26, 0) i = some (27, i)) (p bi co nl nr : Nat) (m : Nat → Nat) (hp : p < np) (hpb : c (27, p) 0 = nI bi) (hbi : bi < na) (hpc : c (27, p) 1 = nI co) (hco : co < 2 ^ 22) (hcl : c (29, 0) 5 = nI nl) (hnl : nl ≤ 64 * 2 ^ g) (hnl8 : nl + 8 ≤ 4096) (hcr : c (21, 0) 4 = nI nr) (hnr : nr ≤ 100) (hm : ∀ h, h < 8 → m h < 2 ^ 31 ∧ s_cl c bi nr (c (27, p) 2) h = nI (m h)) : z_M G yX11_settle cX11_settle 7 (some .int) 5 (if nl + cn (fun h => s_sh co m h - c (28, p) h) 8 ≤ 64 * 2 ^ g then 0 else 4) (if nl + cn (fun h => s_sh co m h - c (28, p) h) 8 ≤ 64 * 2 ^ g then 0 else 8 * (64 * 2 ^ g)) [vr (0, 0), vi (nI p)] w (fun q w1 => q = some (vi (nI (cn (fun h => s_sh co m h - c (28, p) h) 8))) ∧ ∃ g1 c1 l1, r_p dX (TX nb na np g1) w0 (c1) (l1) (r) w1 ∧ LN c g nl p (fun h => s_sh co m h - c (28, p) h) (c (0, 0) 0) 8 c1 g1 ∧ (∀ j, c1 (28, p) j = if j < 8 then s_sh co m j else c (28, p) j) ∧ (∀ t, t ≠ (47, 0) → t ≠ (45, 0) → t ≠ (28, p) → ¬ (29 ≤ t.1 ∧ t.1 ≤ 34) → c1 t = c t)) := by
  refine z_met ym_X11_settle (by decide) ⟨Nat.le_of_ble_eq_true rfl, Nat.le_of_ble_eq_true rfl⟩ (fun X hG hn hmc hms hin h hr => ?_)
  have he := hr.2.2.2.2.2.1
  obtain ⟨d_, hdd'⟩ : ∃ d_, d_ = (fun h => s_sh co m h - c (28, p) h) := ⟨_, rfl⟩
  have hdd : ∀ h, d_ h = s_sh co m h - c (28, p) h := fun h => by rw [hdd']
  rw [← hdd']
  obtain ⟨kC0, hkC0⟩ : ∃ k, k = (if nl + cn d_ 8 ≤ 64 * 2 ^ g then 0 else 4) := ⟨_, rfl⟩
  obtain ⟨kS0, hkS0⟩ : ∃ k, k = (if nl + cn d_ 8 ≤ 64 * 2 ^ g then 0 else 8 * (64 * 2 ^ g)) := ⟨_, rfl⟩
  rw [← hkC0, ← hkS0]
  have hgp : 0 < 2 ^ g := Nat.pow_pos (by omega)
  refine z_iload_n h dX11_settle_0 rfl ?_
  refine z_if_lt h dX11_settle_1 22 (by decide) (fun c_1 => ?_) (fun c_1 => ?_)
  · skip
    exact absurd c_1 (nI_pos (by omega))
  · skip
    refine z_iload_n h dX11_settle_4 rfl ?_
    refine z_aload_n h dX11_settle_5 rfl ?_
    refine y_getr h dX11_settle_6 hR flX11_58 (by first | assumption | exact Nat.le_of_ble_eq_true rfl) (by first | rfl | assumption | exact tx_2 (by first | assumption | omega) | exact tx_18 (by first | assumption | omega) | exact tx_19 (by first | assumption | omega) | exact tx_20 (by first | assumption | omega) | exact tx_27 (by first | assumption | omega) | exact tx_28 (by first | assumption | omega) | exact tx_30 (by first | assumption | omega) | exact tx_31 (by first | assumption | omega) | exact tx_32 (by first | assumption | omega) | exact tx_33 (by first | assumption | omega)) (by rfl) ?_
    refine y_len h dX11_settle_9 hR (by first | assumption | exact Nat.le_of_ble_eq_true rfl) (by first | rfl | assumption | exact tx_2 (by first | assumption | omega) | exact tx_18 (by first | assumption | omega) | exact tx_19 (by first | assumption | omega) | exact tx_20 (by first | assumption | omega) | exact tx_27 (by first | assumption | omega) | exact tx_28 (by first | assumption | omega) | exact tx_30 (by first | assumption | omega) | exact tx_31 (by first | assumption | omega) | exact tx_32 (by first | assumption | omega) | exact tx_33 (by first | assumption | omega)) (by rfl) ?_
    refine z_icmp_ge h dX11_settle_10 22 (by decide) (fun c_2 => ?_) (fun c_2 => ?_)
    · skip
      exact absurd ((nI_leI (a := 60) (by omega) (by omega)).mp c_2) (by omega)
    · skip
      refine z_aload_n h dX11_settle_13 rfl ?_
      refine y_getr h dX11_settle_14 hR flX11_58 (by first | assumption | exact Nat.le_of_ble_eq_true rfl) (by first | rfl | assumption | exact tx_2 (by first | assumption | omega) | exact tx_18 (by first | assumption | omega) | exact tx_19 (by first | assumption | omega) | exact tx_20 (by first | assumption | omega) | exact tx_27 (by first | assumption | omega) | exact tx_28 (by first | assumption | omega) | exact tx_30 (by first | assumption | omega) | exact tx_31 (by first | assumption | omega) | exact tx_32 (by first | assumption | omega) | exact tx_33 (by first | assumption | omega)) (by rfl) ?_
      refine z_iload_n h dX11_settle_17 rfl ?_
      refine y_aald h dX11_settle_18 hR (by first | assumption | exact Nat.le_of_ble_eq_true rfl) (by first | rfl | assumption | exact tx_2 (by first | assumption | omega) | exact tx_18 (by first | assumption | omega) | exact tx_19 (by first | assumption | omega) | exact tx_20 (by first | assumption | omega) | exact tx_27 (by first | assumption | omega) | exact tx_28 (by first | assumption | omega) | exact tx_30 (by first | assumption | omega) | exact tx_31 (by first | assumption | omega) | exact tx_32 (by first | assumption | omega) | exact tx_33 (by first | assumption | omega)) rfl (by first | assumption | exact z_ixn (by omega) (by omega)) (hr26 p hp) ?_
      refine z_goto h dX11_settle_19 23 (by decide) ?_
      refine z_astore_n h dX11_settle_23 (by rw [hn]; decide) ?_
      refine z_aload_n h dX11_settle_24 rfl ?_
      refine z_ifnonnull h dX11_settle_25 32 (by decide) ?_
      refine z_aload_n h dX11_settle_32 rfl ?_
      refine z_aload_n h dX11_settle_33 rfl ?_
      refine y_geti h dX11_settle_34 hR flX11_313 (by first | assumption | exact Nat.le_of_ble_eq_true rfl) (tx_27 hp) (by rfl) ?_
      rw [hpb]
      refine z_callV h dX11_settle_37 (fun _ _ q => z_okv_no he q) (fun _ _ _ t q => absurd q (he t)) (m_X11_barAt _ hR (nI bi) hc8 hna hr17) ym_X11_barAt mlX11_258 im_X11_barAt (ci := 11) rfl se_X11_barAt icX11 rfl (r_p.ob hR (by first | assumption | exact Nat.le_of_ble_eq_true rfl) (by first | rfl | assumption | exact tx_2 (by first | assumption | omega) | exact tx_18 (by first | assumption | omega) | exact tx_19 (by first | assumption | omega) | exact tx_20 (by first | assumption | omega) | exact tx_27 (by first | assumption | omega) | exact tx_28 (by first | assumption | omega) | exact tx_30 (by first | assumption | omega) | exact tx_31 (by first | assumption | omega) | exact tx_32 (by first | assumption | omega) | exact tx_33 (by first | assumption | omega))) rfl (by decide) (Nat.le_of_ble_eq_true rfl) ?_
      rintro q1 w1 ⟨hw1, hq⟩
      have hw1 := hw1.symm; subst hw1
      rw [if_pos (ix_of hbi (by omega)), nI_clamp (by omega)] at hq
      subst hq
      refine z_astore_n h dX11_settle_40 (by rw [hn]; decide) ?_
      refine z_aload_n h dX11_settle_41 rfl ?_
      refine z_ifnonnull h dX11_settle_42 47 (by decide) ?_
      have join_113 : ∀ (w1 : z_w) (c1 : r_c) (l1 : r_l), r_p dX (TX nb na np g) w0 (c1) (l1) (r) w1 → (c1 (45, 0) = fun j => if j < 8 then s_sh co m j else 0) → (∀ t, t ≠ (47, 0) → t ≠ (45, 0) → c1 t = c t) → z_V X kC0 kS0 w1 113 [(0, vr (0, 0)), (1, vi (nI p)), (2, vr (27, p)), (3, vr (18, bi))] [] := by
        intro w c1 l1 hR h45 hfr0
        refine z_iconst (v := 0) h dX11_settle_113 (by decide) ?_
        refine z_istore h dX11_settle_114 (by rw [hn]; decide) ?_
        refine z_iconst (v := 0) h dX11_settle_116 (by decide) ?_
        refine z_istore h dX11_settle_117 (by rw [hn]; decide) ?_
        have loop_119 : ∀ (n_ : Nat) (h_ : Nat) (w1 : z_w) (c1 : r_c) (l1 : r_l) (g1 kC kS : Nat), h_ ≤ 8 → 8 + 1 ≤ h_ + n_ → r_p dX (TX nb na np g1) w0 (c1) (l1) (r) w1 → LN c g nl p d_ (c (0, 0) 0) h_ c1 g1 → (c1 (45, 0) = fun j => if j < 8 then s_sh co m j else 0) → (∀ j, c1 (28, p) j = if j < h_ then s_sh co m j else c (28, p) j) → (∀ t, t ≠ (47, 0) → t ≠ (45, 0) → t ≠ (28, p) → ¬ (29 ≤ t.1 ∧ t.1 ≤ 34) → c1 t = c t) → ((g1 = g ∧ (nl + cn d_ 8 ≤ 64 * 2 ^ g ∨ (kC = 4 ∧ kS = 8 * (64 * 2 ^ g)))) ∨ g1 = g + 1) → z_V X kC kS w1 119 [(0, vr (0, 0)), (1, vi (nI p)), (2, vr (27, p)), (3, vr (18, bi)), (4, vi (nI (cn d_ h_))), (5, vi (nI h_))] [] := by
          intro n_
          induction n_ with
          | zero => intros; omega
          | succ n_ ih_119 =>
            intro h_ w c1 l1 g1 kC kS hi hN hR hLN h45 h28 hfr hbud
            have hcl8 := cn_le d_ h_
            have hcm := cn_mono d_ hi
            refine z_iload h dX11_settle_119 rfl ?_
            refine z_bipush (v := 8) h dX11_settle_121 (by decide) ?_
            refine z_icmp_ge h dX11_settle_123 188 (by decide) (fun c_5 => ?_) (fun c_5 => ?_)
            · skip
              have e1 : 8 ≤ h_ := (nI_leI (a := 8) (by omega) (by omega)).mp c_5
              refine z_iload h dX11_settle_188 rfl ?_
              exact z_iret h dX11_settle_190 hr (⟨by rw [← hdd', show h_ = 8 by omega], g1, c1, l1, hR, by rw [← hdd', show 8 = h_ by omega]; exact hLN, fun j => by rw [h28 j, show h_ = 8 by omega], hfr⟩)
            · skip
              have e1 : ¬ 8 ≤ h_ := fun q => c_5 ((nI_leI (a := 8) (by omega) (by omega)).mpr q)
              refine z_aload_n h dX11_settle_126 rfl ?_
              refine y_getr h dX11_settle_127 hR flX11_79 (by first | assumption | exact Nat.le_of_ble_eq_true rfl) (by first | rfl | assumption | exact tx_2 (by first | assumption | omega) | exact tx_18 (by first | assumption | omega) | exact tx_19 (by first | assumption | omega) | exact tx_20 (by first | assumption | omega) | exact tx_27 (by first | assumption | omega) | exact tx_28 (by first | assumption | omega) | exact tx_30 (by first | assumption | omega) | exact tx_31 (by first | assumption | omega) | exact tx_32 (by first | assumption | omega) | exact tx_33 (by first | assumption | omega)) (by rfl) ?_
              refine y_getr h dX11_settle_130 hR flX11_333 (by first | assumption | exact Nat.le_of_ble_eq_true rfl) (by first | rfl | assumption | exact tx_2 (by first | assumption | omega) | exact tx_18 (by first | assumption | omega) | exact tx_19 (by first | assumption | omega) | exact tx_20 (by first | assumption | omega) | exact tx_27 (by first | assumption | omega) | exact tx_28 (by first | assumption | omega) | exact tx_30 (by first | assumption | omega) | exact tx_31 (by first | assumption | omega) | exact tx_32 (by first | assumption | omega) | exact tx_33 (by first | assumption | omega)) (by rfl) ?_
              refine z_iload h dX11_settle_133 rfl ?_
              refine y_iald h dX11_settle_135 hR (by first | assumption | exact Nat.le_of_ble_eq_true rfl) (by first | rfl | assumption | exact tx_2 (by first | assumption | omega) | exact tx_18 (by first | assumption | omega) | exact tx_19 (by first | assumption | omega) | exact tx_20 (by first | assumption | omega) | exact tx_27 (by first | assumption | omega) | exact tx_28 (by first | assumption | omega) | exact tx_30 (by first | assumption | omega) | exact tx_31 (by first | assumption | omega) | exact tx_32 (by first | assumption | omega) | exact tx_33 (by first | assumption | omega)) (by first | assumption | exact z_ixn (by omega) (by omega)) ?_
              refine z_aload_n h dX11_settle_136 rfl ?_
              refine y_getr h dX11_settle_137 hR flX11_336 (by first | assumption | exact Nat.le_of_ble_eq_true rfl) (tx_27 hp) (by rfl) ?_
              refine z_iload h dX11_settle_140 rfl ?_
              refine y_iald h dX11_settle_142 hR (by first | assumption | exact Nat.le_of_ble_eq_true rfl) (tx_28 hp) (by first | assumption | exact z_ixn (by omega) (by omega)) ?_
              refine z_isub h dX11_settle_143 ?_
              refine z_toe (y := d_ h_) (by rw [h45]; show (if h_ < 8 then s_sh co m h_ else 0) - _ = _; rw [if_pos (by omega), h28 h_, if_neg (by omega), hdd]) ?_
              refine z_istore h dX11_settle_144 (by rw [hn]; decide) ?_
              refine z_iload h dX11_settle_146 rfl ?_
              refine z_if_eq h dX11_settle_148 182 (by decide) (fun c_6 => ?_) (fun c_6 => ?_)
              · skip
                have hd0 : d_ h_ = 0 := c_6
                refine z_iinc (v := 1) h dX11_settle_182 rfl (by decide) (by rw [hn]; decide) ?_
                refine z_goto h dX11_settle_185 119 (by decide) ?_
                refine z_loc [(0, vr (0, 0)), (1, vi (nI p)), (2, vr (27, p)), (3, vr (18, bi)), (4, vi (nI (cn d_ (h_ + 1)))), (5, vi (nI (h_ + 1)))] ⟨rfl, rfl, rfl, rfl, congrArg (fun z => some (vi z)) ?_, congrArg (fun z => some (vi z)) (z_up h_), trivial⟩ ?_
                · show nI (cn d_ h_) = nI (cn d_ h_ + if d_ h_ = 0 then 0 else 1); rw [if_pos hd0]; rfl
                exact ih_119 (h_ + 1) _ _ _ _ _ _ (by omega) (by omega) hR (LN_skip hLN hd0) h45 (fun j => by
                  rw [h28 j]
                  by_cases q : j = h_
                  · subst q
                    rw [if_neg (by omega), if_pos (by omega)]
                    exact (z_sub0 (by rw [hdd] at hd0; exact hd0)).symm
                  · by_cases q2 : j < h_
                    · rw [if_pos q2, if_pos (by omega)]
                    · rw [if_neg q2, if_neg (by omega)]) hfr hbud
              · skip
                have hd0 : ¬ d_ h_ = 0 := c_6
                refine z_aload_n h dX11_settle_151 rfl ?_
                refine y_getr h dX11_settle_152 hR flX11_65 (by first | assumption | exact Nat.le_of_ble_eq_true rfl) (by first | rfl | assumption | exact tx_2 (by first | assumption | omega) | exact tx_18 (by first | assumption | omega) | exact tx_19 (by first | assumption | omega) | exact tx_20 (by first | assumption | omega) | exact tx_27 (by first | assumption | omega) | exact tx_28 (by first | assumption | omega) | exact tx_30 (by first | assumption | omega) | exact tx_31 (by first | assumption | omega) | exact tx_32 (by first | assumption | omega) | exact tx_33 (by first | assumption | omega)) (by rfl) ?_
                refine z_aload_n h dX11_settle_155 rfl ?_
                refine y_geti h dX11_settle_156 hR flX11_110 (by first | assumption | exact Nat.le_of_ble_eq_true rfl) (by first | rfl | assumption | exact tx_2 (by first | assumption | omega) | exact tx_18 (by first | assumption | omega) | exact tx_19 (by first | assumption | omega) | exact tx_20 (by first | assumption | omega) | exact tx_27 (by first | assumption | omega) | exact tx_28 (by first | assumption | omega) | exact tx_30 (by first | assumption | omega) | exact tx_31 (by first | assumption | omega) | exact tx_32 (by first | assumption | omega) | exact tx_33 (by first | assumption | omega)) (by rfl) ?_
                refine z_toe (y := c (0, 0) 0) (by rw [hfr (0, 0) (by simp) (by simp) (by simp) (by simp)]) ?_
                refine z_iload_n h dX11_settle_159 rfl ?_
                refine z_iload h dX11_settle_160 rfl ?_
                refine z_iload h dX11_settle_162 rfl ?_
                have hle : nl + cn d_ h_ ≤ 64 * 2 ^ g1 := by
                  rcases hLN.1 with ⟨q1, q2⟩ | ⟨q1, q2⟩
                  · rw [q1]; exact q2
                  · rw [q1, Nat.pow_succ]; omega
                have hg16 : g1 ≤ 6 := by
                  rcases hLN.1 with ⟨q1, q2⟩ | ⟨q1, q2⟩
                  · omega
                  · have := lg_pow (g := g) (nl := 64 * 2 ^ g) (by omega) (by omega)
                    omega
                by_cases hw : nl + cn d_ h_ < 64 * 2 ^ g1
                · skip
                  refine z_callV h dX11_settle_164 (fun _ _ q => z_okv_no he q) (fun _ _ _ t q => absurd q (he t)) (x_write_a _ hR (nl + cn d_ h_) h_ hLN.2.2.2.2 hle (by omega) hg16 (by omega) (c (0, 0) 0) (nI p) (d_ h_) hw) ym_X4_write mlX11_337 im_X4_write (ci := 4) rfl se_X4_write icX4 rfl (r_p.ob hR (Nat.le_of_ble_eq_true rfl) rfl) rfl (by decide) (Nat.le_of_ble_eq_true rfl) ?_
                  rintro q1 w ⟨rfl, g2, c2, hR, hLG⟩
                  have k9 := hLG.2.2.2.2.2.2.2.2
                  have hbud2 : (g2 = g ∧ (nl + cn d_ 8 ≤ 64 * 2 ^ g ∨ (kC = 4 ∧ kS = 8 * (64 * 2 ^ g)))) ∨ g2 = g + 1 := by
                    have e := hLG.1
                    rw [if_pos hw] at e
                    rw [e]; exact hbud
                  refine z_aload_n h dX11_settle_167 rfl ?_
                  refine y_getr h dX11_settle_168 hR flX11_336 (by first | assumption | exact Nat.le_of_ble_eq_true rfl) (tx_27 hp) (by rfl) ?_
                  refine z_iload h dX11_settle_171 rfl ?_
                  refine z_dup2_ir h dX11_settle_173 ?_
                  refine y_iald h dX11_settle_174 hR (by first | assumption | exact Nat.le_of_ble_eq_true rfl) (tx_28 hp) (by first | assumption | exact z_ixn (by omega) (by omega)) ?_
                  refine z_iload h dX11_settle_175 rfl ?_
                  refine z_iadd h dX11_settle_177 ?_
                  refine y_iast h dX11_settle_178 hR (by first | assumption | exact Nat.le_of_ble_eq_true rfl) (tx_28 hp) (by first | assumption | exact z_ixn (by omega) (by omega)) (fun w hR => ?_)
                  refine z_iinc (v := 1) h dX11_settle_179 rfl (by decide) (by rw [hn]; decide) ?_
                  refine z_iinc (v := 1) h dX11_settle_182 rfl (by decide) (by rw [hn]; decide) ?_
                  refine z_goto h dX11_settle_185 119 (by decide) ?_
                  refine z_loc [(0, vr (0, 0)), (1, vi (nI p)), (2, vr (27, p)), (3, vr (18, bi)), (4, vi (nI (cn d_ (h_ + 1)))), (5, vi (nI (h_ + 1)))] ⟨rfl, rfl, rfl, rfl, congrArg (fun z => some (vi z)) ?_, congrArg (fun z => some (vi z)) (z_up h_), trivial⟩ ?_
                  · show nI (cn d_ h_) + 1 = nI (cn d_ h_ + if d_ h_ = 0 then 0 else 1); rw [if_neg hd0]; exact z_up _
                  exact ih_119 (h_ + 1) _ _ _ _ _ _ (by omega) (by omega) hR (LN_eqv (LN_step hLN hd0 hnl (by omega) hLG) (fun t h1 h2 => by rw [r_cs, r_cf_ne (fun e => by rw [e] at h1; simp at h1)])) (by rw [r_cs, r_cf_ne (by simp), k9 (45, 0) (by simp)]; exact h45) (fun j => by
                    rw [r_cs, r_cf_self]
                    by_cases q : j = h_
                    · subst q
                      rw [pk_us, if_pos (by omega), k9 (28, p) (by simp), h28 j, if_neg (by omega), hdd]
                      show c (28, p) j + (s_sh co m j - c (28, p) j) = _
                      rw [Int32.add_comm, Int32.sub_add_cancel]
                    · rw [pk_un q, k9 (28, p) (by simp), h28 j]
                      by_cases q2 : j < h_
                      · rw [if_pos q2, if_pos (by omega)]
                      · rw [if_neg q2, if_neg (by omega)]) (fun t h1 h2 h3 h4 => by rw [r_cs, r_cf_ne h3, k9 t h4]; exact hfr t h1 h2 h3 h4) hbud2
                · skip
                  have hgg : g1 = g ∧ kC = 4 ∧ kS = 8 * (64 * 2 ^ g) := by
                    have hlt : cn d_ h_ < cn d_ 8 := cn_lt d_ (by omega) hd0
                    rcases hLN.1 with ⟨q1, q2⟩ | ⟨q1, q2⟩
                    · subst q1
                      rcases hbud with ⟨-, b⟩ | b
                      · rcases b with b | b
                        · omega
                        · exact ⟨rfl, b⟩
                      · omega
                    · exact absurd hw (by rw [q1, Nat.pow_succ]; omega)
                  obtain ⟨q1, q2, q3⟩ := hgg
                  refine z_less (kC' := 0 + 4) (kS' := 0 + 8 * (64 * 2 ^ g1)) (by omega) (by rw [q3, q1]; omega) ?_
                  refine z_callV h dX11_settle_164 (fun _ _ q => z_okv_no he q) (fun _ _ _ t q => absurd q (he t)) (x_write_b _ hR (nl + cn d_ h_) h_ hLN.2.2.2.2 hle (by omega) hg16 (by omega) (c (0, 0) 0) (nI p) (d_ h_) hw) ym_X4_write mlX11_337 im_X4_write (ci := 4) rfl se_X4_write icX4 rfl (r_p.ob hR (Nat.le_of_ble_eq_true rfl) rfl) rfl (by decide) (Nat.le_of_ble_eq_true rfl) ?_
                  rintro q1 w ⟨rfl, g2, c2, hR, hLG⟩
                  have k9 := hLG.2.2.2.2.2.2.2.2
                  have hbud2 : (g2 = g ∧ (nl + cn d_ 8 ≤ 64 * 2 ^ g ∨ (0 = 4 ∧ 0 = 8 * (64 * 2 ^ g)))) ∨ g2 = g + 1 := by
                    have e := hLG.1
                    rw [if_neg hw, q1] at e
                    exact Or.inr e
                  refine z_aload_n h dX11_settle_167 rfl ?_
                  refine y_getr h dX11_settle_168 hR flX11_336 (by first | assumption | exact Nat.le_of_ble_eq_true rfl) (tx_27 hp) (by rfl) ?_
                  refine z_iload h dX11_settle_171 rfl ?_
                  refine z_dup2_ir h dX11_settle_173 ?_
                  refine y_iald h dX11_settle_174 hR (by first | assumption | exact Nat.le_of_ble_eq_true rfl) (tx_28 hp) (by first | assumption | exact z_ixn (by omega) (by omega)) ?_
                  refine z_iload h dX11_settle_175 rfl ?_
                  refine z_iadd h dX11_settle_177 ?_
                  refine y_iast h dX11_settle_178 hR (by first | assumption | exact Nat.le_of_ble_eq_true rfl) (tx_28 hp) (by first | assumption | exact z_ixn (by omega) (by omega)) (fun w hR => ?_)
                  refine z_iinc (v := 1) h dX11_settle_179 rfl (by decide) (by rw [hn]; decide) ?_
                  refine z_iinc (v := 1) h dX11_settle_182 rfl (by decide) (by rw [hn]; decide) ?_
                  refine z_goto h dX11_settle_185 119 (by decide) ?_
                  refine z_loc [(0, vr (0, 0)), (1, vi (nI p)), (2, vr (27, p)), (3, vr (18, bi)), (4, vi (nI (cn d_ (h_ + 1)))), (5, vi (nI (h_ + 1)))] ⟨rfl, rfl, rfl, rfl, congrArg (fun z => some (vi z)) ?_, congrArg (fun z => some (vi z)) (z_up h_), trivial⟩ ?_
                  · show nI (cn d_ h_) + 1 = nI (cn d_ h_ + if d_ h_ = 0 then 0 else 1); rw [if_neg hd0]; exact z_up _
                  exact ih_119 (h_ + 1) _ _ _ _ _ _ (by omega) (by omega) hR (LN_eqv (LN_step hLN hd0 hnl (by omega) hLG) (fun t h1 h2 => by rw [r_cs, r_cf_ne (fun e => by rw [e] at h1; simp at h1)])) (by rw [r_cs, r_cf_ne (by simp), k9 (45, 0) (by simp)]; exact h45) (fun j => by
                    rw [r_cs, r_cf_self]
                    by_cases q : j = h_
                    · subst q
                      rw [pk_us, if_pos (by omega), k9 (28, p) (by simp), h28 j, if_neg (by omega), hdd]
                      show c (28, p) j + (s_sh co m j - c (28, p) j) = _
                      rw [Int32.add_comm, Int32.sub_add_cancel]
                    · rw [pk_un q, k9 (28, p) (by simp), h28 j]
                      by_cases q2 : j < h_
                      · rw [if_pos q2, if_pos (by omega)]
                      · rw [if_neg q2, if_neg (by omega)]) (fun t h1 h2 h3 h4 => by rw [r_cs, r_cf_ne h3, k9 t h4]; exact hfr t h1 h2 h3 h4) hbud2
        refine z_loc [(0, vr (0, 0)), (1, vi (nI p)), (2, vr (27, p)), (3, vr (18, bi)), (4, vi (nI (cn d_ 0))), (5, vi (nI 0))] ⟨rfl, rfl, rfl, rfl, rfl, rfl, trivial⟩ ?_
        refine loop_119 (8 + 1) 0 _ _ _ g _ _ (by omega) (by omega) hR (LN_0 hnl hcl (fun t h1 h2 => hfr0 t (fun e => by rw [e] at h2; exact absurd h2 (by decide)) (fun e => by rw [e] at h2; exact absurd h2 (by decide)))) h45 (fun j => by rw [hfr0 (28, p) (by simp) (by simp), if_neg (Nat.not_lt_zero j)]) (fun t h1 h2 _ _ => hfr0 t h1 h2) (Or.inl ⟨rfl, ?_⟩)
        by_cases q : nl + cn d_ 8 ≤ 64 * 2 ^ g
        · exact Or.inl q
        · exact Or.inr ⟨by rw [hkC0, if_neg q], by rw [hkS0, if_neg q]⟩
      refine z_iconst (v := 0) h dX11_settle_47 (by decide) ?_
      refine z_istore h dX11_settle_48 (by rw [hn]; decide) ?_
      have loop_50 : ∀ (n_ : Nat) (h_ : Nat) (w1 : z_w), h_ ≤ 8 → 8 + 1 ≤ h_ + n_ → r_p dX (TX nb na np g) w0 (r_cf c (47, 0) (fun k => if k < h_ then s_cl c bi nr (c (27, p) 2) k else c (47, 0) k)) (l) (r) w1 → z_V X kC0 kS0 w1 50 [(0, vr (0, 0)), (1, vi (nI p)), (2, vr (27, p)), (3, vr (18, bi)), (4, vi (nI h_))] [] := by
        intro n_
        induction n_ with
        | zero => intros; omega
        | succ n_ ih_50 =>
          intro h_ w hi hN hR
          refine z_iload h dX11_settle_50 rfl ?_
          refine z_bipush (v := 8) h dX11_settle_52 (by decide) ?_
          refine z_icmp_ge h dX11_settle_54 84 (by decide) (fun c_3 => ?_) (fun c_3 => ?_)
          · skip
            have e1 : 8 ≤ h_ := (nI_leI (a := 8) (by omega) (by omega)).mp c_3
            have e8 : h_ = 8 := by omega
            subst e8
            refine y_cong (t := (47, 0)) (n := 8) (f := fun k => nI (m k)) hR (Nat.le_of_ble_eq_true rfl) rfl (fun j hj => by rw [r_cf_self, if_pos hj]; exact (hm j hj).2) (fun w hR => ?_)
            rw [r_cf_cf] at hR
            refine z_aload_n h dX11_settle_84 rfl ?_
            refine y_getr h dX11_settle_85 hR flX11_79 (by first | assumption | exact Nat.le_of_ble_eq_true rfl) (by first | rfl | assumption | exact tx_2 (by first | assumption | omega) | exact tx_18 (by first | assumption | omega) | exact tx_19 (by first | assumption | omega) | exact tx_20 (by first | assumption | omega) | exact tx_27 (by first | assumption | omega) | exact tx_28 (by first | assumption | omega) | exact tx_30 (by first | assumption | omega) | exact tx_31 (by first | assumption | omega) | exact tx_32 (by first | assumption | omega) | exact tx_33 (by first | assumption | omega)) (by rfl) ?_
            refine z_aload_n h dX11_settle_88 rfl ?_
            refine y_geti h dX11_settle_89 hR flX11_323 (by first | assumption | exact Nat.le_of_ble_eq_true rfl) (tx_27 hp) (by rfl) ?_
            refine z_toe (y := nI co) (by show c (27, p) 1 = _; exact hpc) ?_
            refine z_aload_n h dX11_settle_92 rfl ?_
            refine y_getr h dX11_settle_93 hR flX11_83 (by first | assumption | exact Nat.le_of_ble_eq_true rfl) (by first | rfl | assumption | exact tx_2 (by first | assumption | omega) | exact tx_18 (by first | assumption | omega) | exact tx_19 (by first | assumption | omega) | exact tx_20 (by first | assumption | omega) | exact tx_27 (by first | assumption | omega) | exact tx_28 (by first | assumption | omega) | exact tx_30 (by first | assumption | omega) | exact tx_31 (by first | assumption | omega) | exact tx_32 (by first | assumption | omega) | exact tx_33 (by first | assumption | omega)) (by rfl) ?_
            refine z_callV h dX11_settle_96 (fun _ _ q => z_okv_no he q) (fun _ _ _ t q => absurd q (he t)) (m_X6_divide _ hR (47, 0) 8 co m (Nat.le_of_ble_eq_true rfl) rfl rfl (by omega) (by omega) hco (fun i hi => ⟨(hm i hi).1, by rw [r_cf_self]⟩)) ym_X6_divide mlX11_326 im_X6_divide (ci := 6) rfl se_X6_divide icX6 rfl (r_p.ob hR (by first | assumption | exact Nat.le_of_ble_eq_true rfl) (by first | rfl | assumption | exact tx_2 (by first | assumption | omega) | exact tx_18 (by first | assumption | omega) | exact tx_19 (by first | assumption | omega) | exact tx_20 (by first | assumption | omega) | exact tx_27 (by first | assumption | omega) | exact tx_28 (by first | assumption | omega) | exact tx_30 (by first | assumption | omega) | exact tx_31 (by first | assumption | omega) | exact tx_32 (by first | assumption | omega) | exact tx_33 (by first | assumption | omega))) rfl (by decide) (Nat.le_of_ble_eq_true rfl) ?_
            rintro q1 w ⟨lf, hq⟩
            obtain ⟨x, hx, hdv⟩ : ∃ x, q1 = some (vi x) ∧ ((x = 0 ∧ p_sm m 8 = 0 ∧ ∃ l1, r_p dX (TX nb na np g) w0 (r_cf (r_cf c (47, 0) (fun k => nI (m k))) (45, 0) (fun _ => 0)) (l1) (r) w) ∨ (x = 1 ∧ ¬ p_sm m 8 = 0 ∧ ∃ l1, r_p dX (TX nb na np g) w0 (r_cf (r_cf c (47, 0) (fun k => nI (m k))) (45, 0) (fun i => if i < 8 then nI (part co m 8 i) else 0)) (l1) (r) w)) :=
              z_ifq hq (fun h1 h2 => ⟨0, h2.1, Or.inl ⟨rfl, h1, _, h2.2⟩⟩) (fun h1 h2 => ⟨1, h2.1, Or.inr ⟨rfl, h1, _, h2.2⟩⟩)
            subst hx
            refine z_if_ne h dX11_settle_99 113 (by decide) (fun c_4 => ?_) (fun c_4 => ?_)
            · skip
              rcases hdv with ⟨hx, -, -⟩ | ⟨-, hS, l1, hR⟩; · exact absurd hx c_4
              refine z_loc [(0, vr (0, 0)), (1, vi (nI p)), (2, vr (27, p)), (3, vr (18, bi))] ⟨rfl, rfl, rfl, rfl, trivial⟩ ?_
              exact join_113 _ _ _ hR (by rw [r_cf_self]; funext j; by_cases q : j < 8; rw [if_pos q, if_pos q]; unfold s_sh; rw [if_neg hS]; rw [if_neg q, if_neg q]) (fun t h1 h2 => by rw [r_cf_ne h2, r_cf_ne h1])
            · skip
              rcases hdv with ⟨-, hS, l1, hR⟩ | ⟨hx, -, -⟩
              rotate_left
              · exact absurd (hx.symm.trans c_4) (by decide)
              refine z_aload_n h dX11_settle_102 rfl ?_
              refine y_getr h dX11_settle_103 hR flX11_79 (by first | assumption | exact Nat.le_of_ble_eq_true rfl) (by first | rfl | assumption | exact tx_2 (by first | assumption | omega) | exact tx_18 (by first | assumption | omega) | exact tx_19 (by first | assumption | omega) | exact tx_20 (by first | assumption | omega) | exact tx_27 (by first | assumption | omega) | exact tx_28 (by first | assumption | omega) | exact tx_30 (by first | assumption | omega) | exact tx_31 (by first | assumption | omega) | exact tx_32 (by first | assumption | omega) | exact tx_33 (by first | assumption | omega)) (by rfl) ?_
              refine z_aload_n h dX11_settle_106 rfl ?_
              refine y_geti h dX11_settle_107 hR flX11_323 (by first | assumption | exact Nat.le_of_ble_eq_true rfl) (tx_27 hp) (by rfl) ?_
              refine z_toe (y := nI co) (by show c (27, p) 1 = _; exact hpc) ?_
              refine z_callV h dX11_settle_110 (fun _ _ q => z_okv_no he q) (fun _ _ _ t q => absurd q (he t)) (m_X6_giveAllToFirst _ hR (nI co)) ym_X6_giveAllToFirst mlX11_330 im_X6_giveAllToFirst (ci := 6) rfl se_X6_giveAllToFirst icX6 rfl (r_p.ob hR (by first | assumption | exact Nat.le_of_ble_eq_true rfl) (by first | rfl | assumption | exact tx_2 (by first | assumption | omega) | exact tx_18 (by first | assumption | omega) | exact tx_19 (by first | assumption | omega) | exact tx_20 (by first | assumption | omega) | exact tx_27 (by first | assumption | omega) | exact tx_28 (by first | assumption | omega) | exact tx_30 (by first | assumption | omega) | exact tx_31 (by first | assumption | omega) | exact tx_32 (by first | assumption | omega) | exact tx_33 (by first | assumption | omega))) rfl (by decide) (Nat.le_of_ble_eq_true rfl) ?_
              rintro q1 w ⟨rfl, hR⟩
              refine z_loc [(0, vr (0, 0)), (1, vi (nI p)), (2, vr (27, p)), (3, vr (18, bi))] ⟨rfl, rfl, rfl, rfl, trivial⟩ ?_
              rw [r_cf_cf] at hR
              exact join_113 _ _ _ hR (by rw [r_cf_self]; funext j; by_cases q : j < 8; rw [if_pos q]; unfold s_sh; rw [if_pos hS]; simp only [upd]; rw [if_neg q]; simp only [upd]; rw [if_neg (by omega)]) (fun t h1 h2 => by rw [r_cf_ne h2, r_cf_ne h1])
          · skip
            have e1 : ¬ 8 ≤ h_ := fun q => c_3 ((nI_leI (a := 8) (by omega) (by omega)).mpr q)
            refine z_aload_n h dX11_settle_57 rfl ?_
            refine y_getr h dX11_settle_58 hR flX11_83 (by first | assumption | exact Nat.le_of_ble_eq_true rfl) (by first | rfl | assumption | exact tx_2 (by first | assumption | omega) | exact tx_18 (by first | assumption | omega) | exact tx_19 (by first | assumption | omega) | exact tx_20 (by first | assumption | omega) | exact tx_27 (by first | assumption | omega) | exact tx_28 (by first | assumption | omega) | exact tx_30 (by first | assumption | omega) | exact tx_31 (by first | assumption | omega) | exact tx_32 (by first | assumption | omega) | exact tx_33 (by first | assumption | omega)) (by rfl) ?_
            refine z_iload h dX11_settle_61 rfl ?_
            refine z_aload_n h dX11_settle_63 rfl ?_
            refine y_getr h dX11_settle_64 hR flX11_52 (by first | assumption | exact Nat.le_of_ble_eq_true rfl) (by first | rfl | assumption | exact tx_2 (by first | assumption | omega) | exact tx_18 (by first | assumption | omega) | exact tx_19 (by first | assumption | omega) | exact tx_20 (by first | assumption | omega) | exact tx_27 (by first | assumption | omega) | exact tx_28 (by first | assumption | omega) | exact tx_30 (by first | assumption | omega) | exact tx_31 (by first | assumption | omega) | exact tx_32 (by first | assumption | omega) | exact tx_33 (by first | assumption | omega)) (by rfl) ?_
            refine z_iload h dX11_settle_67 rfl ?_
            refine z_aload_n h dX11_settle_69 rfl ?_
            refine z_aload_n h dX11_settle_70 rfl ?_
            refine y_geti h dX11_settle_71 hR flX11_316 (by first | assumption | exact Nat.le_of_ble_eq_true rfl) (tx_27 hp) (by rfl) ?_
            refine z_callV h dX11_settle_74 (fun _ _ q => z_okv_no he q) (fun _ _ _ t q => absurd q (he t)) (m_X8_claimOf _ hR nr hcr hnr bi hbi (nI h_) _) ym_X8_claimOf mlX11_319 im_X8_claimOf (ci := 8) rfl se_X8_claimOf icX8 rfl (r_p.ob hR (by first | assumption | exact Nat.le_of_ble_eq_true rfl) (by first | rfl | assumption | exact tx_2 (by first | assumption | omega) | exact tx_18 (by first | assumption | omega) | exact tx_19 (by first | assumption | omega) | exact tx_20 (by first | assumption | omega) | exact tx_27 (by first | assumption | omega) | exact tx_28 (by first | assumption | omega) | exact tx_30 (by first | assumption | omega) | exact tx_31 (by first | assumption | omega) | exact tx_32 (by first | assumption | omega) | exact tx_33 (by first | assumption | omega))) rfl (by decide) (Nat.le_of_ble_eq_true rfl) ?_
            rintro q1 w1 ⟨rfl, hw1⟩
            have hw1 := hw1.symm; subst hw1
            refine y_iast h dX11_settle_77 hR (by first | assumption | exact Nat.le_of_ble_eq_true rfl) (by first | rfl | assumption | exact tx_2 (by first | assumption | omega) | exact tx_18 (by first | assumption | omega) | exact tx_19 (by first | assumption | omega) | exact tx_20 (by first | assumption | omega) | exact tx_27 (by first | assumption | omega) | exact tx_28 (by first | assumption | omega) | exact tx_30 (by first | assumption | omega) | exact tx_31 (by first | assumption | omega) | exact tx_32 (by first | assumption | omega) | exact tx_33 (by first | assumption | omega)) (z_ixn (by omega) (by omega)) (fun w hR => ?_)
            refine z_iinc (v := 1) h dX11_settle_78 rfl (by decide) (by rw [hn]; decide) ?_
            refine z_goto h dX11_settle_81 50 (by decide) ?_
            simp only [r_cs, r_cf_self, r_cf_cf] at hR
            have hR : r_p dX (TX nb na np g) w0 (r_cf c (47, 0) (fun k => if k < h_ + 1 then s_cl c bi nr (c (27, p) 2) k else c (47, 0) k)) (l) (r) w := by
              rw [← z_upd_h (g := fun k => s_cl c bi nr (c (27, p) 2) k) (f := c (47, 0)) (i := h_) (x := s_cl c bi nr (c (27, p) 2) h_) rfl]
              exact hR
            refine z_loc [(0, vr (0, 0)), (1, vi (nI p)), (2, vr (27, p)), (3, vr (18, bi)), (4, vi (nI (h_ + 1)))] ⟨rfl, rfl, rfl, rfl, congrArg (fun z => some (vi z)) (z_up h_), trivial⟩ ?_
            exact ih_50 (h_ + 1) _ (by omega) (by omega) hR
      have hR0 : r_p dX (TX nb na np g) w0 (r_cf c (47, 0) (fun k => if k < 0 then s_cl c bi nr (c (27, p) 2) k else c (47, 0) k)) (l) (r) w := by
        have e : (fun k => if k < 0 then s_cl c bi nr (c (27, p) 2) k else c (47, 0) k) = c (47, 0) := by funext k; simp
        rw [e, r_cf_same]
        exact hR
      exact z_loc [(0, vr (0, 0)), (1, vi (nI p)), (2, vr (27, p)), (3, vr (18, bi)), (4, vi (nI 0))] ⟨rfl, rfl, rfl, rfl, rfl, trivial⟩ (loop_50 (8 + 1) 0 _ (by omega) (by omega) hR0)
