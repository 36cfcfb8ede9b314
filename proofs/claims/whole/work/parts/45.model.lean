/-! the reference: orders, the matching as its methods make it -/
def MC (c : r_c) (Gv B A : Nat → Int32) : r_c := r_cf (r_cf (r_cf c (166, 0) Gv) (167, 0) B) (168, 0) A
section MCs
variable {c : r_c} {Gv B A f : Nat → Int32} {k : Nat} {v : Int32}
theorem mc_ne {t : z_T} (h1 : t ≠ (166, 0)) (h2 : t ≠ (167, 0)) (h3 : t ≠ (168, 0)) : MC c Gv B A t = c t := by
  unfold MC; rw [r_cf_ne h3, r_cf_ne h2, r_cf_ne h1]
theorem mc_ob : MC c Gv B A (100, 0) = c (100, 0) := mc_ne (by simp) (by simp) (by simp)
theorem mc_G : MC c Gv B A (166, 0) = Gv := by unfold MC; rw [r_cf_ne (by simp), r_cf_ne (by simp), r_cf_self]
theorem mc_B : MC c Gv B A (167, 0) = B := by unfold MC; rw [r_cf_ne (by simp), r_cf_self]
theorem mc_A : MC c Gv B A (168, 0) = A := by unfold MC; rw [r_cf_self]
theorem mc_sA : r_cs (MC c Gv B A) (168, 0) k v = MC c Gv B (upd A k v) := by rw [r_cs, mc_A]; unfold MC; rw [r_cf_cf]
theorem mc_sB : r_cs (MC c Gv B A) (167, 0) k v = MC c Gv (upd B k v) A := by rw [r_cs, mc_B]; unfold MC; rw [r_cf_comm (t := (168, 0)) rfl, r_cf_cf]
theorem mc_sG : r_cs (MC c Gv B A) (166, 0) k v = MC c (upd Gv k v) B A := by rw [r_cs, mc_G]; unfold MC; rw [r_cf_comm (t := (168, 0)) rfl, r_cf_comm (t := (167, 0)) rfl, r_cf_cf]
theorem mc_id : MC c (c (166, 0)) (c (167, 0)) (c (168, 0)) = c := by unfold MC; rw [r_cf_same, r_cf_same, r_cf_same]
end MCs
/-- does bar b fit order o -/
def mft (c : r_c) (o b : Nat) : Bool := decide ((if 0 < c (148, 0) b - c (149, 0) b / 2 then c (148, 0) b - c (149, 0) b / 2 else 0) ≤ c (164, 0) o ∧ c (165, 0) o ≤ c (146, 0) b)
theorem m_fits (G : z_G) {g : Nat} {w0 w : z_w} {c : r_c} {l : r_l} {r : r_r} {Gv B A : Nat → Int32} (hR : r_p dM (TM g) w0 (MC c Gv B A) l r w) (o b : Nat) (ho : o < 8) (hb : b < 100) : z_M G yX12_fits cX12_fits 3 (some .boolean) 2 0 0 [vr (100, 0), vi (nI o), vi (nI b)] w (fun q w1 => q = some (vi (z_b (mft c o b = true))) ∧ w1 = w) := by
  refine (m_X12_fits G hR o b ho hb).imp (fun r1 w1 q => ⟨q.1.trans ?_, q.2⟩)
  have e : ∀ k : Nat, k ≠ 166 → k ≠ 167 → k ≠ 168 → MC c Gv B A (k, 0) = c (k, 0) := fun k h1 h2 h3 => mc_ne (by simp [h1]) (by simp [h2]) (by simp [h3])
  rw [e 148 (by decide) (by decide) (by decide), e 149 (by decide) (by decide) (by decide), e 164 (by decide) (by decide) (by decide), e 165 (by decide) (by decide) (by decide), e 146 (by decide) (by decide) (by decide)]
  refine congrArg (fun z => some (vi z)) (z_b_congr ?_)
  unfold mft
  exact decide_eq_true_iff.symm
abbrev fdS : Type := Int32 × ((Nat → Int32) × (Nat → Int32))
abbrev fdR : Type := Nat → (Nat → Int32) → (Nat → Int32) → fdS
def fdl (ft : Nat → Nat → Bool) (s : Int32) (rec : fdR) (o : Nat) : Nat → Nat → (Nat → Int32) → (Nat → Int32) → fdS
  | 0, _, B, A => (0, B, A)
  | k + 1, y, B, A =>
    if ¬ A y = 0 ∨ ft o y = false then fdl ft s rec o k (y + 1) B A
    else if B y = -1 then (1, upd B y (nI o), upd A y 1)
    else if B y < s then fdl ft s rec o k (y + 1) B (upd A y 1)
    else if (rec (B y).toNatClampNeg B (upd A y 1)).1 = 0 then fdl ft s rec o k (y + 1) (rec (B y).toNatClampNeg B (upd A y 1)).2.1 (rec (B y).toNatClampNeg B (upd A y 1)).2.2
    else (1, upd (rec (B y).toNatClampNeg B (upd A y 1)).2.1 y (nI o), (rec (B y).toNatClampNeg B (upd A y 1)).2.2)
def fd (ft : Nat → Nat → Bool) (s : Int32) (m : Nat) : Nat → fdR
  | 0, o, B, A => fdl ft s (fun _ B A => (0, B, A)) o m 0 B A
  | f + 1, o, B, A => fdl ft s (fd ft s m f) o m 0 B A
def bOK (m : Nat) (B : Nat → Int32) : Prop := ∀ y, y < m → B y = -1 ∨ ∃ x, x < 8 ∧ B y = nI x
def aCt (m : Nat) (A : Nat → Int32) : Nat := o_cnt (fun y => decide (A y = 0)) m
theorem aCt_upd {m : Nat} {A : Nat → Int32} {y : Nat} (hy : y < m) (h : A y = 0) : aCt m A = aCt m (upd A y 1) + 1 := by
  unfold aCt
  rw [o_cnt_rm (x := y) (by simpa using h) hy]
  refine congrArg (· + 1) (o_cnt_congr fun i hi => ?_)
  by_cases e : i = y
  · subst e
    rw [pk_us, z_beq]
    simp
  · rw [pk_un e, z_beq]
    simp [e]
theorem o_cnt_le2 {P P' : Nat → Bool} : ∀ {n}, (∀ i, i < n → P i = true → P' i = true) → o_cnt P n ≤ o_cnt P' n
  | 0, _ => Nat.le_refl 0
  | n + 1, h => by
    have ih := o_cnt_le2 (n := n) (fun i hi => h i (by omega))
    rw [o_cnt, o_cnt]
    by_cases hp : P n = true
    · rw [if_pos hp, if_pos (h n (by omega) hp)]; omega
    · rw [if_neg hp]; omega
theorem aCt_mono {m : Nat} {A A' : Nat → Int32} (h : ∀ y, ¬ A y = 0 → ¬ A' y = 0) : aCt m A' ≤ aCt m A := o_cnt_le2 (fun i _ hp => by
  have hp : A' i = 0 := of_decide_eq_true hp
  refine decide_eq_true ?_
  by_cases q : A i = 0
  · exact q
  · exact absurd hp (h i q))
def recOK (m : Nat) (rec : fdR) : Prop := (∀ o B A, o < 8 → bOK m B → bOK m (rec o B A).2.1) ∧ (∀ o B A y, ¬ A y = 0 → ¬ (rec o B A).2.2 y = 0) ∧ ∀ o B A, (rec o B A).1 = 0 ∨ (rec o B A).1 = 1
theorem bOK_upd {m : Nat} {B : Nat → Int32} (h : bOK m B) {y o : Nat} (ho : o < 8) : bOK m (upd B y (nI o)) := fun z hz => by
  by_cases e : z = y
  · subst e; rw [pk_us]; exact Or.inr ⟨o, ho, rfl⟩
  · rw [pk_un e]; exact h z hz
theorem updne {A : Nat → Int32} {y z : Nat} (h : ¬ A z = 0) : ¬ (upd A y 1) z = 0 := by
  by_cases e : z = y
  · subst e; rw [pk_us]; decide
  · rw [pk_un e]; exact h
theorem fdl_ok {ft : Nat → Nat → Bool} {s : Int32} {m : Nat} {rec : fdR} (hr : recOK m rec) (o : Nat) : ∀ k y B A, y + k = m → (o < 8 → bOK m B → bOK m (fdl ft s rec o k y B A).2.1) ∧ (∀ z, ¬ A z = 0 → ¬ (fdl ft s rec o k y B A).2.2 z = 0) ∧ ((fdl ft s rec o k y B A).1 = 0 ∨ (fdl ft s rec o k y B A).1 = 1)
  | 0, y, B, A, _ => ⟨fun _ => id, fun _ => id, Or.inl rfl⟩
  | k + 1, y, B, A, hk => by
    rw [fdl]
    split
    · exact fdl_ok hr o k (y + 1) B A (by omega)
    · split
      · exact ⟨fun ho h => bOK_upd h ho, fun z h => updne h, Or.inr rfl⟩
      · split
        · have := fdl_ok (ft := ft) (s := s) hr o k (y + 1) B (upd A y 1) (by omega)
          exact ⟨this.1, fun z h => this.2.1 z (updne h), this.2.2⟩
        · rename_i h1 h2 h3
          have hx : bOK m B → (B y).toNatClampNeg < 8 := fun h => by
            rcases h y (by omega) with q | ⟨x, x1, x2⟩
            · exact absurd q h2
            · rw [x2, nI_clamp (by omega)]; exact x1
          split
          · have := fdl_ok (ft := ft) (s := s) hr o k (y + 1) (rec (B y).toNatClampNeg B (upd A y 1)).2.1 (rec (B y).toNatClampNeg B (upd A y 1)).2.2 (by omega)
            exact ⟨fun ho h => this.1 ho (hr.1 _ _ _ (hx h) h), fun z h => this.2.1 z (hr.2.1 _ _ _ z (updne h)), this.2.2⟩
          · exact ⟨fun ho h => bOK_upd (hr.1 _ _ _ (hx h) h) ho, fun z h => hr.2.1 _ _ _ z (updne h), Or.inr rfl⟩
theorem fd_ok {ft : Nat → Nat → Bool} {s : Int32} {m : Nat} : ∀ f, recOK m (fd ft s m f)
  | 0 => by
    have h0 : recOK m (fun _ B A => ((0 : Int32), B, A)) := ⟨fun _ _ _ _ h => h, fun _ _ _ _ h => h, fun _ _ _ => Or.inl rfl⟩
    exact ⟨fun o B A ho h => (fdl_ok h0 o m 0 B A (by omega)).1 ho h, fun o B A y h => (fdl_ok h0 o m 0 B A (by omega)).2.1 y h, fun o B A => (fdl_ok h0 o m 0 B A (by omega)).2.2⟩
  | f + 1 => by
    have h0 := fd_ok (ft := ft) (s := s) (m := m) f
    exact ⟨fun o B A ho h => (fdl_ok h0 o m 0 B A (by omega)).1 ho h, fun o B A y h => (fdl_ok h0 o m 0 B A (by omega)).2.1 y h, fun o B A => (fdl_ok h0 o m 0 B A (by omega)).2.2⟩
set_option maxHeartbeats 4000000 in
set_option maxRecDepth 100000 in
theorem m_finds_1 (G : z_G) {g : Nat} {w0 w : z_w} {c : r_c} {l : r_l} {r : r_r} {Gv B A : Nat → Int32} (hR : r_p dM (TM g) w0 (MC c Gv B A) l r w) (na : Nat) (hc2 : c (100, 0) 2 = nI na) (hna : na ≤ 100) (s o f : Nat) (ho : o < 8) (rec : fdR) (hrec1 : recOK na rec) (hrec : ∀ o1 B1 A1 w1, r_p dM (TM g) w0 (MC c Gv B1 A1) l r w1 → o1 < 8 → bOK na B1 → aCt na A1 + 1 ≤ f → z_M G yX12_finds cX12_finds 5 (some .boolean) (f + 2) 0 0 [vr (100, 0), vi (nI o1), vi (nI s)] w1 (fun q w1 => q = some (vi (rec o1 B1 A1).1) ∧ r_p dM (TM g) w0 (MC c Gv (rec o1 B1 A1).2.1 (rec o1 B1 A1).2.2) l r w1)) (hB0 : bOK na B) (hA0 : aCt na A ≤ f) : z_M G yX12_finds cX12_finds 5 (some .boolean) (f + 3) (0) (0) [vr (100, 0), vi (nI o), vi (nI s)] w (fun q w1 => q = some (vi (fdl (mft c) (nI s) rec o na 0 B A).1) ∧ r_p dM (TM g) w0 (MC c Gv (fdl (mft c) (nI s) rec o na 0 B A).2.1 (fdl (mft c) (nI s) rec o na 0 B A).2.2) l r w1) := by
  refine z_met ym_X12_finds (by omega) ⟨Nat.le_of_ble_eq_true rfl, Nat.le_of_ble_eq_true rfl⟩ (fun X hG hn hmc hms hin h hr => ?_)
  have he := hr.2.2.2.2.2.1
  refine z_iconst (v := 0) h dX12_finds_0 (by decide) ?_
  refine z_istore_n h dX12_finds_1 (by rw [hn]; decide) ?_
  have loop_2 : ∀ (n_ : Nat) (y : Nat) (B1 A1 : Nat → Int32) (w : z_w), r_p dM (TM g) w0 (MC c Gv B1 A1) l r w → fdl (mft c) (nI s) rec o (na - y) y B1 A1 = fdl (mft c) (nI s) rec o na 0 B A → aCt na A1 ≤ f → bOK na B1 → y ≤ na → na + 1 ≤ y + n_ → z_V X 0 0 w 2 [(0, vr (100, 0)), (1, vi (nI o)), (2, vi (nI s)), (3, vi (nI y))] [] := by
    intro n_
    induction n_ with
    | zero => intros; omega
    | succ n_ ih_2 =>
      intro y B1 A1 w hR hH hct hB1 hy hN
      refine z_iload_n h dX12_finds_2 rfl ?_
      refine z_aload_n h dX12_finds_3 rfl ?_
      refine y_geti h dX12_finds_4 hR flX12_257 (by first | assumption | exact Nat.le_of_ble_eq_true rfl) (by first | rfl | assumption | exact tx_2 (by first | assumption | omega) | exact tx_18 (by first | assumption | omega) | exact tx_19 (by first | assumption | omega) | exact tx_20 (by first | assumption | omega) | exact tx_27 (by first | assumption | omega) | exact tx_28 (by first | assumption | omega) | exact tx_30 (by first | assumption | omega) | exact tx_31 (by first | assumption | omega) | exact tx_32 (by first | assumption | omega) | exact tx_33 (by first | assumption | omega)) (by rfl) ?_
      rw [mc_ob, hc2]
      refine z_icmp_ge h dX12_finds_7 83 (by decide) (fun c_1 => ?_) (fun c_1 => ?_)
      · skip
        have e1 : na ≤ y := (nI_leI (by omega) (by omega)).mp c_1
        refine z_iconst (v := 0) h dX12_finds_83 (by decide) ?_
        exact z_zret h dX12_finds_84 hr rfl (⟨z_e1 (by rw [← hH, show na - y = 0 by omega, fdl]), by rw [← hH, show na - y = 0 by omega, fdl]; exact hR⟩)
      · skip
        have e1 : ¬ na ≤ y := fun q => c_1 ((nI_leI (by omega) (by omega)).mpr q)
        refine z_aload_n h dX12_finds_10 rfl ?_
        refine y_getr h dX12_finds_11 hR flX12_163 (by first | assumption | exact Nat.le_of_ble_eq_true rfl) (by first | rfl | assumption | exact tx_2 (by first | assumption | omega) | exact tx_18 (by first | assumption | omega) | exact tx_19 (by first | assumption | omega) | exact tx_20 (by first | assumption | omega) | exact tx_27 (by first | assumption | omega) | exact tx_28 (by first | assumption | omega) | exact tx_30 (by first | assumption | omega) | exact tx_31 (by first | assumption | omega) | exact tx_32 (by first | assumption | omega) | exact tx_33 (by first | assumption | omega)) (by rfl) ?_
        refine z_iload_n h dX12_finds_14 rfl ?_
        refine y_zald h dX12_finds_15 hR (by first | assumption | exact Nat.le_of_ble_eq_true rfl) (by first | rfl | assumption | exact tx_2 (by first | assumption | omega) | exact tx_18 (by first | assumption | omega) | exact tx_19 (by first | assumption | omega) | exact tx_20 (by first | assumption | omega) | exact tx_27 (by first | assumption | omega) | exact tx_28 (by first | assumption | omega) | exact tx_30 (by first | assumption | omega) | exact tx_31 (by first | assumption | omega) | exact tx_32 (by first | assumption | omega) | exact tx_33 (by first | assumption | omega)) (z_ixn (show y < 100 by omega) (by decide)) ?_
        rw [mc_A]
        refine z_if_ne h dX12_finds_16 77 (by decide) (fun c_2 => ?_) (fun c_2 => ?_)
        · skip
          refine z_iinc (v := 1) h dX12_finds_77 rfl (by decide) (by rw [hn]; decide) ?_
          refine z_goto h dX12_finds_80 2 (by decide) ?_
          refine z_loc [(0, vr (100, 0)), (1, vi (nI o)), (2, vi (nI s)), (3, vi (nI (y + 1)))] ⟨rfl, rfl, rfl, congrArg (fun z => some (vi z)) (z_up y), trivial⟩ ?_
          exact ih_2 (y + 1) B1 A1 w hR (by rw [← hH, show na - y = (na - (y + 1)) + 1 by omega, fdl, if_pos (Or.inl c_2)]) hct hB1 (by omega) (by omega)
        · skip
          have c_2 : A1 y = 0 := c_2
          have hcu := aCt_upd (m := na) (show y < na by omega) c_2
          refine z_aload_n h dX12_finds_19 rfl ?_
          refine z_iload_n h dX12_finds_20 rfl ?_
          refine z_iload_n h dX12_finds_21 rfl ?_
          refine z_callV h dX12_finds_22 (fun _ _ q => z_okv_no he q) (fun _ _ _ t q => absurd q (he t)) (m_fits _ hR o y ho (by omega)) ym_X12_fits mlX12_303 im_X12_fits (ci := 12) rfl se_X12_fits icX12 rfl (r_p.ob hR (by first | assumption | exact Nat.le_of_ble_eq_true rfl) (by first | rfl | assumption | exact tx_2 (by first | assumption | omega) | exact tx_18 (by first | assumption | omega) | exact tx_19 (by first | assumption | omega) | exact tx_20 (by first | assumption | omega) | exact tx_27 (by first | assumption | omega) | exact tx_28 (by first | assumption | omega) | exact tx_30 (by first | assumption | omega) | exact tx_31 (by first | assumption | omega) | exact tx_32 (by first | assumption | omega) | exact tx_33 (by first | assumption | omega))) rfl (by omega) (Nat.le_of_ble_eq_true rfl) ?_
          rintro q1 w1 ⟨rfl, hw1⟩
          have hw1 := hw1.symm; subst hw1
          refine z_if_ne h dX12_finds_25 31 (by decide) (fun c_3 => ?_) (fun c_3 => ?_)
          · skip
            refine z_aload_n h dX12_finds_31 rfl ?_
            refine y_getr h dX12_finds_32 hR flX12_163 (by first | assumption | exact Nat.le_of_ble_eq_true rfl) (by first | rfl | assumption | exact tx_2 (by first | assumption | omega) | exact tx_18 (by first | assumption | omega) | exact tx_19 (by first | assumption | omega) | exact tx_20 (by first | assumption | omega) | exact tx_27 (by first | assumption | omega) | exact tx_28 (by first | assumption | omega) | exact tx_30 (by first | assumption | omega) | exact tx_31 (by first | assumption | omega) | exact tx_32 (by first | assumption | omega) | exact tx_33 (by first | assumption | omega)) (by rfl) ?_
            refine z_iload_n h dX12_finds_35 rfl ?_
            refine z_iconst (v := 1) h dX12_finds_36 (by decide) ?_
            refine y_zast h dX12_finds_37 hR (by first | assumption | exact Nat.le_of_ble_eq_true rfl) (by first | rfl | assumption | exact tx_2 (by first | assumption | omega) | exact tx_18 (by first | assumption | omega) | exact tx_19 (by first | assumption | omega) | exact tx_20 (by first | assumption | omega) | exact tx_27 (by first | assumption | omega) | exact tx_28 (by first | assumption | omega) | exact tx_30 (by first | assumption | omega) | exact tx_31 (by first | assumption | omega) | exact tx_32 (by first | assumption | omega) | exact tx_33 (by first | assumption | omega)) (z_ixn (show y < 100 by omega) (by decide)) (by decide) (fun w hR => ?_)
            rw [mc_sA] at hR
            refine z_aload_n h dX12_finds_38 rfl ?_
            refine y_getr h dX12_finds_39 hR flX12_160 (by first | assumption | exact Nat.le_of_ble_eq_true rfl) (by first | rfl | assumption | exact tx_2 (by first | assumption | omega) | exact tx_18 (by first | assumption | omega) | exact tx_19 (by first | assumption | omega) | exact tx_20 (by first | assumption | omega) | exact tx_27 (by first | assumption | omega) | exact tx_28 (by first | assumption | omega) | exact tx_30 (by first | assumption | omega) | exact tx_31 (by first | assumption | omega) | exact tx_32 (by first | assumption | omega) | exact tx_33 (by first | assumption | omega)) (by rfl) ?_
            refine z_iload_n h dX12_finds_42 rfl ?_
            refine y_iald h dX12_finds_43 hR (by first | assumption | exact Nat.le_of_ble_eq_true rfl) (by first | rfl | assumption | exact tx_2 (by first | assumption | omega) | exact tx_18 (by first | assumption | omega) | exact tx_19 (by first | assumption | omega) | exact tx_20 (by first | assumption | omega) | exact tx_27 (by first | assumption | omega) | exact tx_28 (by first | assumption | omega) | exact tx_30 (by first | assumption | omega) | exact tx_31 (by first | assumption | omega) | exact tx_32 (by first | assumption | omega) | exact tx_33 (by first | assumption | omega)) (z_ixn (show y < 100 by omega) (by decide)) ?_
            rw [mc_B]
            refine z_istore h dX12_finds_44 (by rw [hn]; decide) ?_
            refine z_iload h dX12_finds_46 rfl ?_
            refine z_iconst (v := -1) h dX12_finds_48 (by decide) ?_
            refine z_icmp_eq h dX12_finds_49 68 (by decide) (fun c_4 => ?_) (fun c_4 => ?_)
            · skip
              refine z_aload_n h dX12_finds_68 rfl ?_
              refine y_getr h dX12_finds_69 hR flX12_160 (by first | assumption | exact Nat.le_of_ble_eq_true rfl) (by first | rfl | assumption | exact tx_2 (by first | assumption | omega) | exact tx_18 (by first | assumption | omega) | exact tx_19 (by first | assumption | omega) | exact tx_20 (by first | assumption | omega) | exact tx_27 (by first | assumption | omega) | exact tx_28 (by first | assumption | omega) | exact tx_30 (by first | assumption | omega) | exact tx_31 (by first | assumption | omega) | exact tx_32 (by first | assumption | omega) | exact tx_33 (by first | assumption | omega)) (by rfl) ?_
              refine z_iload_n h dX12_finds_72 rfl ?_
              refine z_iload_n h dX12_finds_73 rfl ?_
              refine y_iast h dX12_finds_74 hR (by first | assumption | exact Nat.le_of_ble_eq_true rfl) (by first | rfl | assumption | exact tx_2 (by first | assumption | omega) | exact tx_18 (by first | assumption | omega) | exact tx_19 (by first | assumption | omega) | exact tx_20 (by first | assumption | omega) | exact tx_27 (by first | assumption | omega) | exact tx_28 (by first | assumption | omega) | exact tx_30 (by first | assumption | omega) | exact tx_31 (by first | assumption | omega) | exact tx_32 (by first | assumption | omega) | exact tx_33 (by first | assumption | omega)) (z_ixn (show y < 100 by omega) (by decide)) (fun w hR => ?_)
              rw [mc_sB] at hR
              refine z_iconst (v := 1) h dX12_finds_75 (by decide) ?_
              exact z_zret h dX12_finds_76 hr rfl (⟨z_e1 (by rw [← hH, show na - y = (na - (y + 1)) + 1 by omega, fdl, if_neg (fun q => q.elim (fun z => z c_2) (fun z => by rw [z] at c_3; exact c_3 (z_b0 (by decide)))), if_pos c_4]), by rw [← hH, show na - y = (na - (y + 1)) + 1 by omega, fdl, if_neg (fun q => q.elim (fun z => z c_2) (fun z => by rw [z] at c_3; exact c_3 (z_b0 (by decide)))), if_pos c_4]; exact hR⟩)
            · skip
              refine z_iload h dX12_finds_52 rfl ?_
              refine z_iload_n h dX12_finds_54 rfl ?_
              refine z_icmp_lt h dX12_finds_55 77 (by decide) (fun c_5 => ?_) (fun c_5 => ?_)
              · skip
                refine z_iinc (v := 1) h dX12_finds_77 rfl (by decide) (by rw [hn]; decide) ?_
                refine z_goto h dX12_finds_80 2 (by decide) ?_
                refine z_loc [(0, vr (100, 0)), (1, vi (nI o)), (2, vi (nI s)), (3, vi (nI (y + 1)))] ⟨rfl, rfl, rfl, congrArg (fun z => some (vi z)) (z_up y), trivial⟩ ?_
                exact ih_2 (y + 1) B1 _ w hR (by rw [← hH, show na - y = (na - (y + 1)) + 1 by omega, fdl, if_neg (fun q => q.elim (fun z => z c_2) (fun z => by rw [z] at c_3; exact c_3 (z_b0 (by decide)))), if_neg c_4, if_pos c_5]) (by omega) hB1 (by omega) (by omega)
              · skip
                refine z_aload_n h dX12_finds_58 rfl ?_
                refine z_iload h dX12_finds_59 rfl ?_
                obtain ⟨x, hx, ex⟩ := (hB1 y (by omega)).resolve_left c_4
                have ex2 : (B1 y).toNatClampNeg = x := by rw [ex, nI_clamp (by omega)]
                refine z_toe (y := nI x) ex ?_
                have hcon := hrec x B1 (upd A1 y 1) w hR hx hB1 (by omega)
                rw [← hG] at hcon
                refine z_iload_n h dX12_finds_61 rfl ?_
                refine z_callV h dX12_finds_62 (fun _ _ q => z_okv_no he q) (fun _ _ _ t q => absurd q (he t)) (hcon) ym_X12_finds mlX12_307 im_X12_finds (ci := 12) rfl se_X12_finds icX12 rfl (r_p.ob hR (by first | assumption | exact Nat.le_of_ble_eq_true rfl) (by first | rfl | assumption | exact tx_2 (by first | assumption | omega) | exact tx_18 (by first | assumption | omega) | exact tx_19 (by first | assumption | omega) | exact tx_20 (by first | assumption | omega) | exact tx_27 (by first | assumption | omega) | exact tx_28 (by first | assumption | omega) | exact tx_30 (by first | assumption | omega) | exact tx_31 (by first | assumption | omega) | exact tx_32 (by first | assumption | omega) | exact tx_33 (by first | assumption | omega))) rfl (by omega) (Nat.le_of_ble_eq_true rfl) ?_
                rintro q1 w ⟨rfl, hR⟩
                refine z_if_eq h dX12_finds_65 77 (by decide) (fun c_6 => ?_) (fun c_6 => ?_)
                · skip
                  refine z_iinc (v := 1) h dX12_finds_77 rfl (by decide) (by rw [hn]; decide) ?_
                  refine z_goto h dX12_finds_80 2 (by decide) ?_
                  refine z_loc [(0, vr (100, 0)), (1, vi (nI o)), (2, vi (nI s)), (3, vi (nI (y + 1)))] ⟨rfl, rfl, rfl, congrArg (fun z => some (vi z)) (z_up y), trivial⟩ ?_
                  exact ih_2 (y + 1) _ _ w hR (by rw [← hH, show na - y = (na - (y + 1)) + 1 by omega, fdl, if_neg (fun q => q.elim (fun z => z c_2) (fun z => by rw [z] at c_3; exact c_3 (z_b0 (by decide)))), if_neg c_4, if_neg c_5, ex2, if_pos c_6]) (Nat.le_trans (aCt_mono (hrec1.2.1 x B1 (upd A1 y 1))) (by omega)) (hrec1.1 x B1 (upd A1 y 1) hx hB1) (by omega) (by omega)
                · skip
                  refine z_aload_n h dX12_finds_68 rfl ?_
                  refine y_getr h dX12_finds_69 hR flX12_160 (by first | assumption | exact Nat.le_of_ble_eq_true rfl) (by first | rfl | assumption | exact tx_2 (by first | assumption | omega) | exact tx_18 (by first | assumption | omega) | exact tx_19 (by first | assumption | omega) | exact tx_20 (by first | assumption | omega) | exact tx_27 (by first | assumption | omega) | exact tx_28 (by first | assumption | omega) | exact tx_30 (by first | assumption | omega) | exact tx_31 (by first | assumption | omega) | exact tx_32 (by first | assumption | omega) | exact tx_33 (by first | assumption | omega)) (by rfl) ?_
                  refine z_iload_n h dX12_finds_72 rfl ?_
                  refine z_iload_n h dX12_finds_73 rfl ?_
                  refine y_iast h dX12_finds_74 hR (by first | assumption | exact Nat.le_of_ble_eq_true rfl) (by first | rfl | assumption | exact tx_2 (by first | assumption | omega) | exact tx_18 (by first | assumption | omega) | exact tx_19 (by first | assumption | omega) | exact tx_20 (by first | assumption | omega) | exact tx_27 (by first | assumption | omega) | exact tx_28 (by first | assumption | omega) | exact tx_30 (by first | assumption | omega) | exact tx_31 (by first | assumption | omega) | exact tx_32 (by first | assumption | omega) | exact tx_33 (by first | assumption | omega)) (z_ixn (show y < 100 by omega) (by decide)) (fun w hR => ?_)
                  rw [mc_sB] at hR
                  refine z_iconst (v := 1) h dX12_finds_75 (by decide) ?_
                  exact z_zret h dX12_finds_76 hr rfl (⟨z_e1 (by rw [← hH, show na - y = (na - (y + 1)) + 1 by omega, fdl, if_neg (fun q => q.elim (fun z => z c_2) (fun z => by rw [z] at c_3; exact c_3 (z_b0 (by decide)))), if_neg c_4, if_neg c_5, ex2, if_neg c_6]), by rw [← hH, show na - y = (na - (y + 1)) + 1 by omega, fdl, if_neg (fun q => q.elim (fun z => z c_2) (fun z => by rw [z] at c_3; exact c_3 (z_b0 (by decide)))), if_neg c_4, if_neg c_5, ex2, if_neg c_6]; exact hR⟩)
          · skip
            have e3 : mft c o y = false := by
              cases q : mft c o y with
              | false => rfl
              | true => exact absurd q (z_bf c_3)
            refine z_goto h dX12_finds_28 77 (by decide) ?_
            refine z_iinc (v := 1) h dX12_finds_77 rfl (by decide) (by rw [hn]; decide) ?_
            refine z_goto h dX12_finds_80 2 (by decide) ?_
            refine z_loc [(0, vr (100, 0)), (1, vi (nI o)), (2, vi (nI s)), (3, vi (nI (y + 1)))] ⟨rfl, rfl, rfl, congrArg (fun z => some (vi z)) (z_up y), trivial⟩ ?_
            exact ih_2 (y + 1) B1 A1 w hR (by rw [← hH, show na - y = (na - (y + 1)) + 1 by omega, fdl, if_pos (Or.inr e3)]) hct hB1 (by omega) (by omega)
  exact z_loc [(0, vr (100, 0)), (1, vi (nI o)), (2, vi (nI s)), (3, vi (nI 0))] ⟨rfl, rfl, rfl, rfl, trivial⟩ (loop_2 (na + 1) 0 B A w hR rfl hA0 hB0 (by omega) (by omega))
theorem m_X12_finds (G : z_G) {g : Nat} {w0 : z_w} {c : r_c} {l : r_l} {r : r_r} {Gv : Nat → Int32} (na : Nat) (hc2 : c (100, 0) 2 = nI na) (hna : na ≤ 100) (s : Nat) : ∀ f o B A w, r_p dM (TM g) w0 (MC c Gv B A) l r w → o < 8 → bOK na B → aCt na A ≤ f → z_M G yX12_finds cX12_finds 5 (some .boolean) (f + 3) 0 0 [vr (100, 0), vi (nI o), vi (nI s)] w (fun q w1 => q = some (vi (fd (mft c) (nI s) na f o B A).1) ∧ r_p dM (TM g) w0 (MC c Gv (fd (mft c) (nI s) na f o B A).2.1 (fd (mft c) (nI s) na f o B A).2.2) l r w1)
  | 0, o, B, A, w, hR, ho, hB, hA => m_finds_1 G hR na hc2 hna s o 0 ho _ ⟨fun _ _ _ _ h => h, fun _ _ _ _ h => h, fun _ _ _ => Or.inl rfl⟩ (fun o1 B1 A1 w1 _ _ _ h => by omega) hB hA
  | f + 1, o, B, A, w, hR, ho, hB, hA => m_finds_1 G hR na hc2 hna s o (f + 1) ho _ (fd_ok f) (fun o1 B1 A1 w1 h1 h2 h3 h4 => m_X12_finds G na hc2 hna s f o1 B1 A1 w1 h1 h2 h3 (by omega)) hB hA
