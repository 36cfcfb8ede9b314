/-! the reference: fault, rules -/
theorem ca_same {c : r_c} {a : Nat} (h : c (100, 0) 33 = nI a) : r_cs c (100, 0) 33 (nI a) = c := by rw [← h, r_cs, upd_same, r_cf_same]
set_option maxHeartbeats 4000000 in
set_option maxRecDepth 100000 in
theorem m_X12_fault (G : z_G) {g : Nat} {w0 w : z_w} {c : r_c} {l : r_l} {r : r_r} (hR : r_p dM (TM g) w0 c l r w) (nt : Nat) (hct : c (100, 0) 32 = nI nt) (hlt : nt ≤ 200) (hfb : ∀ i, i < nt → c (131, 0) i ≠ -1) (cX : r_c) : z_M G yX12_fault cX12_fault 2 (some .int) 3 (0) (0) [vr (100, 0)] w (fun q w1 => q = some (vi (tp_ff (c (131, 0)) nt)) ∧ ∃ c1, r_p dM (TM g) w0 c1 l r w1 ∧ (∀ k, k ≠ 33 → k ≠ 35 → c1 (100, 0) k = c (100, 0) k) ∧ (∀ t, t ≠ (100, 0) → t ≠ (140, 0) → t ≠ (141, 0) → t ≠ (142, 0) → t ≠ (143, 0) → c1 t = c t) ∧ (tp_ff (c (131, 0)) nt = -1 → ∃ m, c1 (100, 0) 35 = nI m ∧ m ≤ 40 ∧ lq cX (c (131, 0)) nt m c1)) := by
  refine z_met ym_X12_fault (by decide) ⟨Nat.le_of_ble_eq_true rfl, Nat.le_of_ble_eq_true rfl⟩ (fun X hG hn hmc hms hin h hr => ?_)
  have he := hr.2.2.2.2.2.1
  refine z_aload_n h dX12_fault_0 rfl ?_
  refine z_iconst (v := 0) h dX12_fault_1 (by decide) ?_
  refine y_put h dX12_fault_2 he hR flX12_237 rfl (Nat.le_of_ble_eq_true rfl) (by rfl) (by rfl) (fun w hR => ?_)
  obtain ⟨cA, hcA⟩ : ∃ cA, cA = r_cs c (100, 0) (33) (0) := ⟨_, rfl⟩
  rw [← hcA] at hR
  have eA : cA (100, 0) = upd (c (100, 0)) (33) (0) := by rw [hcA, r_cs, r_cf_self]
  have nA : ∀ t, t ≠ (100, 0) → cA t = c t := fun t h => by rw [hcA, r_cs, r_cf_ne h]
  refine z_aload_n h dX12_fault_5 rfl ?_
  refine z_iconst (v := 0) h dX12_fault_6 (by decide) ?_
  refine y_put h dX12_fault_7 he hR flX12_247 rfl (Nat.le_of_ble_eq_true rfl) (by rfl) (by rfl) (fun w hR => ?_)
  obtain ⟨cB, hcB⟩ : ∃ cB, cB = r_cs cA (100, 0) (35) (0) := ⟨_, rfl⟩
  rw [← hcB] at hR
  have eB : cB (100, 0) = upd (cA (100, 0)) (35) (0) := by rw [hcB, r_cs, r_cf_self]
  have nB : ∀ t, t ≠ (100, 0) → cB t = cA t := fun t h => by rw [hcB, r_cs, r_cf_ne h]
  have b33 : cB (100, 0) 33 = nI 0 := by rw [eB, pk_un (by decide), eA, pk_us]; rfl
  have b35 : cB (100, 0) 35 = nI 0 := by rw [eB, pk_us]; rfl
  have bk : ∀ k, k ≠ 33 → k ≠ 35 → cB (100, 0) k = c (100, 0) k := fun k h1 h2 => by rw [eB, pk_un h2, eA, pk_un h1]
  have bn : ∀ t, t ≠ (100, 0) → cB t = c t := fun t h => (nB t h).trans (nA t h)
  have b131 : cB (131, 0) = c (131, 0) := bn _ (by simp)
  have hR : r_p dM (TM g) w0 (r_cs cB (100, 0) 33 (nI 0)) l r w := by rw [ca_same b33]; exact hR
  refine z_aload_n h dX12_fault_10 rfl ?_
  refine z_callV h dX12_fault_11 (fun _ _ q => z_okv_no he q) (fun _ _ _ t q => absurd q (he t)) (m_X12_look _ hR nt ((bk 32 (by decide) (by decide)).trans hct) hlt (Nat.zero_le nt)) ym_X12_look mlX12_240 im_X12_look (ci := 12) rfl se_X12_look icX12 rfl (r_p.ob hR (Nat.le_of_ble_eq_true rfl) (by rfl)) rfl (by decide) (Nat.le_of_ble_eq_true rfl) ?_
  rintro q1 w ⟨rfl, hR⟩
  rw [b131] at hR ⊢
  obtain ⟨h0a, h0b, h0c⟩ := skp_ge (f := (c (131, 0))) (n := nt) (a := 0) (by omega)
  have hD0 : tD (c (131, 0)) (skp (c (131, 0)) nt 0) 0 := skp_D (by omega) (tD_0 _) (by decide) (by decide)
  have hq0 : lq cX (c (131, 0)) (skp (c (131, 0)) nt 0) 0 cB := lq_sk (by omega) lq_0
  obtain ⟨a0, ha0⟩ : ∃ x, x = skp (c (131, 0)) nt 0 := ⟨_, rfl⟩
  rw [← ha0] at hR h0a h0b h0c hD0 hq0 ⊢
  obtain ⟨cE, hcE⟩ : ∃ cE, cE = r_cs cB (100, 0) 33 (nI a0) := ⟨_, rfl⟩
  rw [← hcE] at hR
  have e33 : cE (100, 0) 33 = nI a0 := by rw [hcE, ca_33]
  have e35 : cE (100, 0) 35 = nI 0 := by rw [hcE, ca_k (by decide)]; exact b35
  have ek : ∀ k, k ≠ 33 → k ≠ 35 → cE (100, 0) k = c (100, 0) k := fun k h1 h2 => by rw [hcE, ca_k h1]; exact bk k h1 h2
  have en : ∀ t, t ≠ (100, 0) → cE t = c t := fun t h => by rw [hcE, ca_ne h]; exact bn t h
  have hqE : lq cX (c (131, 0)) a0 0 cE := lq_R hq0 (by rw [hcE, ca_ne (by simp)]) (by rw [hcE, ca_ne (by simp)]) (by rw [hcE, ca_ne (by simp)]) (by rw [hcE, ca_ne (by simp)])
  refine z_iconst (v := -1) h dX12_fault_14 (by decide) ?_
  refine z_icmp_ne h dX12_fault_15 20 (by decide) (fun c_1 => ?_) (fun c_1 => ?_)
  · skip
    have hl0 : a0 < nt := by
      by_cases q : a0 < nt
      · exact q
      · exact absurd (by unfold tv; rw [if_neg q]) c_1
    have loop_20 : ∀ (n_ : Nat) (a rm : Nat) (s0 : Int32) (c1 : r_c) (w : z_w), r_p dM (TM g) w0 c1 l r w → c1 (100, 0) 33 = nI a → c1 (100, 0) 35 = nI rm → (∀ k, k ≠ 33 → k ≠ 35 → c1 (100, 0) k = c (100, 0) k) → (∀ t, t ≠ (100, 0) → t ≠ (140, 0) → t ≠ (141, 0) → t ≠ (142, 0) → t ≠ (143, 0) → c1 t = c t) → tD (c (131, 0)) a s0 → (s0 = 11 ∨ (s0 = 0 ∧ skp (c (131, 0)) nt a < nt)) → lq cX (c (131, 0)) a rm c1 → 6 * rm ≤ a → a ≤ nt → nt + 1 ≤ a + n_ → z_V X 0 0 w 20 [(0, vr (100, 0))] [] := by
      intro n_
      induction n_ with
      | zero => intros; omega
      | succ n_ ih_20 =>
        intro a rm s0 c1 w hR h33 h35 hk1 hfr hDa hs0 hqa hrm ha hN
        refine z_aload_n h dX12_fault_20 rfl ?_
        have c131 : c1 (131, 0) = c (131, 0) := hfr _ (by simp) (by simp) (by simp) (by simp) (by simp)
        have hR : r_p dM (TM g) w0 (r_cs c1 (100, 0) 33 (nI a)) l r w := by rw [ca_same h33]; exact hR
        refine z_callV h dX12_fault_21 (fun _ _ q => z_okv_no he q) (fun _ _ _ t q => absurd q (he t)) (m_X12_clause _ hR nt ((hk1 32 (by decide) (by decide)).trans hct) hlt ha rm h35 hrm s0 (by rw [c131]; exact hDa) (by rw [c131]; exact hs0) cX (by rw [c131]; exact hqa)) ym_X12_clause mlX12_250 im_X12_clause (ci := 12) rfl se_X12_clause icX12 rfl (r_p.ob hR (Nat.le_of_ble_eq_true rfl) (by rfl)) rfl (by decide) (Nat.le_of_ble_eq_true rfl) ?_
        rintro q1 w hz
        rw [c131] at hz
        obtain ⟨y, hy, hyz⟩ : ∃ y, q1 = some (vi y) ∧ ((y = 0 ∧ ∃ a1, a1 ≤ nt ∧ r_p dM (TM g) w0 (r_cs c1 (100, 0) 33 (nI a1)) l r w ∧ tp_ff (c (131, 0)) nt = nI a1) ∨ (y = 1 ∧ ∃ a1 c2, a + 5 ≤ a1 ∧ a1 ≤ nt ∧ tD (c (131, 0)) a1 10 ∧ r_p dM (TM g) w0 c2 l r w ∧ c2 (100, 0) 33 = nI a1 ∧ c2 (100, 0) 35 = nI (rm + 1) ∧ (∀ k, k ≠ 33 → k ≠ 35 → c2 (100, 0) k = c1 (100, 0) k) ∧ lq cX (c (131, 0)) a1 (rm + 1) c2 ∧ (∀ t, t ≠ (100, 0) → t ≠ (140, 0) → t ≠ (141, 0) → t ≠ (142, 0) → t ≠ (143, 0) → c2 t = c1 t))) := by
          rcases hz with ⟨z1, z2⟩ | ⟨z1, z2⟩
          · exact ⟨0, z1, Or.inl ⟨rfl, z2⟩⟩
          · exact ⟨1, z1, Or.inr ⟨rfl, z2⟩⟩
        subst hy
        refine z_if_ne h dX12_fault_24 32 (by decide) (fun c_2 => ?_) (fun c_2 => ?_)
        · skip
          obtain ⟨a1, c2, ha5, ha1, hD1, hR, g33, g35, gk, gq, gfr⟩ := (hyz.resolve_left (fun q => c_2 q.1)).2
          have f131 : c2 (131, 0) = c (131, 0) := (gfr _ (by simp) (by simp) (by simp) (by simp) (by simp)).trans c131
          have hR : r_p dM (TM g) w0 (r_cs c2 (100, 0) 33 (nI a1)) l r w := by rw [ca_same g33]; exact hR
          refine z_aload_n h dX12_fault_32 rfl ?_
          refine z_callV h dX12_fault_33 (fun _ _ q => z_okv_no he q) (fun _ _ _ t q => absurd q (he t)) (m_X12_look _ hR nt (((gk 32 (by decide) (by decide)).trans (hk1 32 (by decide) (by decide))).trans hct) hlt ha1) ym_X12_look mlX12_240 im_X12_look (ci := 12) rfl se_X12_look icX12 rfl (r_p.ob hR (Nat.le_of_ble_eq_true rfl) (by rfl)) rfl (by decide) (Nat.le_of_ble_eq_true rfl) ?_
          rintro q1 w ⟨rfl, hR⟩
          rw [f131] at hR ⊢
          obtain ⟨h3a, h3b, h3c⟩ := skp_ge (f := (c (131, 0))) (n := nt) (a := a1) ha1
          have hD3 : tD (c (131, 0)) (skp (c (131, 0)) nt a1) 10 := skp_D ha1 hD1 (by decide) (by decide)
          have hq3 : lq cX (c (131, 0)) (skp (c (131, 0)) nt a1) (rm + 1) c2 := lq_sk ha1 gq
          obtain ⟨a3, ha3⟩ : ∃ x, x = skp (c (131, 0)) nt a1 := ⟨_, rfl⟩
          rw [← ha3] at hR h3a h3b h3c hD3 hq3 ⊢
          obtain ⟨cF, hcF⟩ : ∃ cF, cF = r_cs c2 (100, 0) 33 (nI a3) := ⟨_, rfl⟩
          rw [← hcF] at hR
          have f33 : cF (100, 0) 33 = nI a3 := by rw [hcF, ca_33]
          have f35 : cF (100, 0) 35 = nI (rm + 1) := by rw [hcF, ca_k (by decide)]; exact g35
          have fk : ∀ k, k ≠ 33 → k ≠ 35 → cF (100, 0) k = c (100, 0) k := fun k h1 h2 => by rw [hcF, ca_k h1]; exact (gk k h1 h2).trans (hk1 k h1 h2)
          have ffr : (∀ t, t ≠ (100, 0) → t ≠ (140, 0) → t ≠ (141, 0) → t ≠ (142, 0) → t ≠ (143, 0) → cF t = c t) := fun t h1 h2 h3 h4 h5 => by rw [hcF, ca_ne h1]; exact (gfr t h1 h2 h3 h4 h5).trans (hfr t h1 h2 h3 h4 h5)
          have hqF : lq cX (c (131, 0)) a3 (rm + 1) cF := lq_R hq3 (by rw [hcF, ca_ne (by simp)]) (by rw [hcF, ca_ne (by simp)]) (by rw [hcF, ca_ne (by simp)]) (by rw [hcF, ca_ne (by simp)])
          refine z_istore_n h dX12_fault_36 (by rw [hn]; decide) ?_
          refine z_iload_n h dX12_fault_37 rfl ?_
          refine z_iconst (v := -1) h dX12_fault_38 (by decide) ?_
          refine z_icmp_ne h dX12_fault_39 44 (by decide) (fun c_3 => ?_) (fun c_3 => ?_)
          · skip
            have hl3 : a3 < nt := by
              by_cases q : a3 < nt
              · exact q
              · exact absurd (by unfold tv; rw [if_neg q]) c_3
            have ev3 : tv (c (131, 0)) nt a3 = (c (131, 0)) a3 := if_pos hl3
            have h32 : (c (131, 0)) a3 ≠ 32 := fun q => h3c ⟨hl3, q⟩
            refine z_iload_n h dX12_fault_44 rfl ?_
            refine z_bipush (v := 59) h dX12_fault_45 (by decide) ?_
            refine z_icmp_eq h dX12_fault_47 55 (by decide) (fun c_4 => ?_) (fun c_4 => ?_)
            · skip
              have hb : (c (131, 0)) a3 = 59 := by rw [← ev3]; exact c_4
              have hD4 : tD (c (131, 0)) (a3 + 1) 11 := tD_st hD3 (by rw [hb]; rfl) (by decide)
              have hq4 : lq cX (c (131, 0)) (a3 + 1) (rm + 1) cF := lq_no hqF hb (by decide) (by decide) (by decide) (by decide)
              refine z_aload_n h dX12_fault_55 rfl ?_
              refine z_dup_r h dX12_fault_56 ?_
              refine y_geti h dX12_fault_57 hR flX12_237 (Nat.le_of_ble_eq_true rfl) (by rfl) (by rfl) ?_
              refine z_iconst (v := 1) h dX12_fault_60 (by decide) ?_
              refine z_iadd h dX12_fault_61 ?_
              refine z_toe (y := nI (a3 + 1)) (by rw [f33]; exact z_up a3) ?_
              refine y_put h dX12_fault_62 he hR flX12_237 rfl (Nat.le_of_ble_eq_true rfl) (by rfl) (by rfl) (fun w hR => ?_)
              obtain ⟨cG, hcG⟩ : ∃ cG, cG = r_cs cF (100, 0) (33) (nI (a3 + 1)) := ⟨_, rfl⟩
              rw [← hcG] at hR
              have eG : cG (100, 0) = upd (cF (100, 0)) (33) (nI (a3 + 1)) := by rw [hcG, r_cs, r_cf_self]
              have nG : ∀ t, t ≠ (100, 0) → cG t = cF t := fun t h => by rw [hcG, r_cs, r_cf_ne h]
              refine z_goto h dX12_fault_65 20 (by decide) ?_
              refine z_loc [(0, vr (100, 0))] ⟨rfl, trivial⟩ ?_
              exact ih_20 (a3 + 1) (rm + 1) 11 cG w hR (by rw [eG, pk_us]) (by rw [eG, pk_un (by decide)]; exact f35) (fun k h1 h2 => by rw [eG, pk_un h1]; exact fk k h1 h2) (fun t h1 h2 h3 h4 h5 => (nG t h1).trans (ffr t h1 h2 h3 h4 h5)) hD4 (Or.inl rfl) (lq_R hq4 (nG _ (by simp)) (nG _ (by simp)) (nG _ (by simp)) (nG _ (by simp))) (by omega) (by omega) (by omega)
            · skip
              have hff : tp_ff (c (131, 0)) nt = nI a3 := tD_brk hD3 (by rw [af_10 h32, if_neg (fun q => c_4 (by rw [ev3]; exact q))]) hl3
              refine z_aload_n h dX12_fault_50 rfl ?_
              refine y_geti h dX12_fault_51 hR flX12_237 (Nat.le_of_ble_eq_true rfl) (by rfl) (by rfl) ?_
              exact z_iret h dX12_fault_54 hr (⟨z_e1 (by rw [f33]; exact hff.symm), cF, hR, fk, ffr, fun q => absurd (hff.symm.trans q) (nI_m1 (by omega))⟩)
          · skip
            have e3 : a3 = nt := by
              by_cases q : a3 < nt
              · exact absurd c_3 (by unfold tv; rw [if_pos q]; exact hfb a3 q)
              · omega
            rw [e3] at hD3 hqF
            have hff : tp_ff (c (131, 0)) nt = -1 := tD_ok hD3 (Or.inr rfl)
            refine z_iconst (v := -1) h dX12_fault_42 (by decide) ?_
            exact z_iret h dX12_fault_43 hr (⟨z_e1 hff.symm, cF, hR, fk, ffr, fun _ => ⟨rm + 1, f35, by omega, hqF⟩⟩)
        · skip
          obtain ⟨a1, ha1, hR, hff⟩ := (hyz.resolve_right (fun q => by rw [q.1] at c_2; exact absurd c_2 (by decide))).2
          refine z_aload_n h dX12_fault_27 rfl ?_
          refine y_geti h dX12_fault_28 hR flX12_237 (Nat.le_of_ble_eq_true rfl) (by rfl) (by rfl) ?_
          exact z_iret h dX12_fault_31 hr (⟨z_e1 (by rw [ca_33]; exact hff.symm), _, hR, fun k h1 h2 => by rw [ca_k h1]; exact hk1 k h1 h2, fun t h1 h2 h3 h4 h5 => by rw [ca_ne h1]; exact hfr t h1 h2 h3 h4 h5, fun q => absurd (hff.symm.trans q) (nI_m1 (by omega))⟩)
    exact z_loc [(0, vr (100, 0))] ⟨rfl, trivial⟩ (loop_20 (nt + 1) a0 0 0 cE w hR e33 e35 ek (fun t h _ _ _ _ => en t h) hD0 (Or.inr ⟨rfl, by rw [skp_no h0c]; exact hl0⟩) hqE (by omega) (by omega) (by omega))
  · skip
    have e0 : a0 = nt := by
      by_cases q : a0 < nt
      · exact absurd c_1 (by unfold tv; rw [if_pos q]; exact hfb a0 q)
      · omega
    rw [e0] at hD0 hqE
    have hff : tp_ff (c (131, 0)) nt = -1 := tD_ok hD0 (Or.inl rfl)
    refine z_iconst (v := -1) h dX12_fault_18 (by decide) ?_
    exact z_iret h dX12_fault_19 hr (⟨z_e1 hff.symm, cE, hR, ek, fun t h _ _ _ _ => en t h, fun _ => ⟨0, e35, by omega, hqE⟩⟩)
/-- the rules read, laid down up to i -/
def CRl (c : r_c) (i : Nat) : r_c := r_cf (r_cf (r_cf (r_cf c (136, 0) (fun q => if q < i then c (140, 0) q else c (136, 0) q)) (137, 0) (fun q => if q < i then c (141, 0) q else c (137, 0) q)) (138, 0) (fun q => if q < i then c (142, 0) q else c (138, 0) q)) (139, 0) (fun q => if q < i then c (143, 0) q else c (139, 0) q)
theorem crl_0 {c : r_c} : CRl c 0 = c := by
  unfold CRl
  have z : ∀ (f g : Nat → Int32), (fun q => if q < 0 then g q else f q) = f := fun f g => funext fun q => if_neg (by omega)
  rw [z, z, z, z, r_cf_same, r_cf_same, r_cf_same, r_cf_same]
theorem crl_ne {c : r_c} {i : Nat} {t : z_T} (h1 : t ≠ (136, 0)) (h2 : t ≠ (137, 0)) (h3 : t ≠ (138, 0)) (h4 : t ≠ (139, 0)) : CRl c i t = c t := by
  unfold CRl; rw [r_cf_ne h4, r_cf_ne h3, r_cf_ne h2, r_cf_ne h1]
theorem crl_6 {c : r_c} {i : Nat} : CRl c i (136, 0) = fun q => if q < i then c (140, 0) q else c (136, 0) q := by
  unfold CRl; rw [r_cf_ne (by simp), r_cf_ne (by simp), r_cf_ne (by simp), r_cf_self]
theorem crl_7 {c : r_c} {i : Nat} : CRl c i (137, 0) = fun q => if q < i then c (141, 0) q else c (137, 0) q := by
  unfold CRl; rw [r_cf_ne (by simp), r_cf_ne (by simp), r_cf_self]
theorem crl_8 {c : r_c} {i : Nat} : CRl c i (138, 0) = fun q => if q < i then c (142, 0) q else c (138, 0) q := by
  unfold CRl; rw [r_cf_ne (by simp), r_cf_self]
theorem crl_9 {c : r_c} {i : Nat} : CRl c i (139, 0) = fun q => if q < i then c (143, 0) q else c (139, 0) q := by
  unfold CRl; rw [r_cf_self]
theorem crl_st {c d1 d2 d3 d4 : r_c} {i : Nat} (h1 : d1 = r_cs (CRl c i) (136, 0) i (c (140, 0) i)) (h2 : d2 = r_cs d1 (137, 0) i (c (141, 0) i)) (h3 : d3 = r_cs d2 (138, 0) i (c (142, 0) i)) (h4 : d4 = r_cs d3 (139, 0) i (c (143, 0) i)) : d4 = CRl c (i + 1) := by
  have z : ∀ (f g : Nat → Int32), upd (fun q => if q < i then g q else f q) i (g i) = fun q => if q < i + 1 then g q else f q := fun f g => z_upd_h rfl
  funext t
  by_cases e9 : t = (139, 0)
  · subst e9; rw [h4, r_cs, r_cf_self, h3, r_cs, r_cf_ne (by simp), h2, r_cs, r_cf_ne (by simp), h1, r_cs, r_cf_ne (by simp), crl_9, crl_9, z]
  · rw [h4, r_cs, r_cf_ne e9]
    by_cases e8 : t = (138, 0)
    · subst e8; rw [h3, r_cs, r_cf_self, h2, r_cs, r_cf_ne (by simp), h1, r_cs, r_cf_ne (by simp), crl_8, crl_8, z]
    · rw [h3, r_cs, r_cf_ne e8]
      by_cases e7 : t = (137, 0)
      · subst e7; rw [h2, r_cs, r_cf_self, h1, r_cs, r_cf_ne (by simp), crl_7, crl_7, z]
      · rw [h2, r_cs, r_cf_ne e7]
        by_cases e6 : t = (136, 0)
        · subst e6; rw [h1, r_cs, r_cf_self, crl_6, crl_6, z]
        · rw [h1, r_cs, r_cf_ne e6, crl_ne e6 e7 e8 e9, crl_ne e6 e7 e8 e9]
set_option maxHeartbeats 4000000 in
set_option maxRecDepth 100000 in
theorem m_X12_rules (G : z_G) {g : Nat} {w0 w : z_w} {c : r_c} {l : r_l} {r : r_r} (hR : r_p dM (TM g) w0 c l r w) (nt : Nat) (hct : c (100, 0) 32 = nI nt) (hlt : nt ≤ 200) (hfb : ∀ i, i < nt → c (131, 0) i ≠ -1) (cX : r_c) : z_M G yX12_rules cX12_rules 2 (some .boolean) 4 (0) (0) [vr (100, 0)] w (fun q w1 => if tp_ff (c (131, 0)) nt = -1 then q = some (vi 1) ∧ ∃ c1 m, r_p dM (TM g) w0 c1 l r w1 ∧ c1 (100, 0) 34 = nI m ∧ m ≤ 40 ∧ (tp_ln cX (c (131, 0)) nt).1 = m ∧ (∀ k, k < m → c1 (136, 0) k = (tp_ln cX (c (131, 0)) nt).2.2 (9, 0) k ∧ c1 (137, 0) k = (tp_ln cX (c (131, 0)) nt).2.2 (10, 0) k ∧ c1 (138, 0) k = (tp_ln cX (c (131, 0)) nt).2.2 (11, 0) k ∧ c1 (139, 0) k = (tp_ln cX (c (131, 0)) nt).2.2 (12, 0) k) ∧ c1 (100, 0) 32 = 0 ∧ (∀ k, k ≠ 32 → k ≠ 33 → k ≠ 34 → k ≠ 35 → c1 (100, 0) k = c (100, 0) k) ∧ (∀ t, t ≠ (100, 0) → t ≠ (136, 0) → t ≠ (137, 0) → t ≠ (138, 0) → t ≠ (139, 0) → t ≠ (140, 0) → t ≠ (141, 0) → t ≠ (142, 0) → t ≠ (143, 0) → c1 t = c t) else q = some (vi 0) ∧ ∃ c1, r_p dM (TM g) w0 c1 l r w1 ∧ (∀ k, k ≠ 33 → k ≠ 35 → c1 (100, 0) k = c (100, 0) k) ∧ (∀ t, t ≠ (100, 0) → t ≠ (140, 0) → t ≠ (141, 0) → t ≠ (142, 0) → t ≠ (143, 0) → c1 t = c t)) := by
  refine z_met ym_X12_rules (by decide) ⟨Nat.le_of_ble_eq_true rfl, Nat.le_of_ble_eq_true rfl⟩ (fun X hG hn hmc hms hin h hr => ?_)
  have he := hr.2.2.2.2.2.1
  refine z_aload_n h dX12_rules_0 rfl ?_
  refine z_callV h dX12_rules_1 (fun _ _ q => z_okv_no he q) (fun _ _ _ t q => absurd q (he t)) (m_X12_fault _ hR nt hct hlt hfb cX) ym_X12_fault mlX12_254 im_X12_fault (ci := 12) rfl se_X12_fault icX12 rfl (r_p.ob hR (Nat.le_of_ble_eq_true rfl) (by rfl)) rfl (by decide) (Nat.le_of_ble_eq_true rfl) ?_
  rintro q1 w ⟨rfl, cE, hR, ek, efr, em⟩
  refine z_iconst (v := -1) h dX12_rules_4 (by decide) ?_
  refine z_icmp_eq h dX12_rules_5 10 (by decide) (fun c_1 => ?_) (fun c_1 => ?_)
  · skip
    obtain ⟨m, m35, m40, C_a, C_, mC, mg⟩ := em c_1
    refine z_aload_n h dX12_rules_10 rfl ?_
    refine z_aload_n h dX12_rules_11 rfl ?_
    refine y_geti h dX12_rules_12 hR flX12_247 (Nat.le_of_ble_eq_true rfl) (by rfl) (by rfl) ?_
    refine z_toe (y := nI m) m35 ?_
    refine y_put h dX12_rules_15 he hR flX12_215 rfl (Nat.le_of_ble_eq_true rfl) (by rfl) (by rfl) (fun w hR => ?_)
    obtain ⟨c2, hc2⟩ : ∃ c2, c2 = r_cs cE (100, 0) (34) (nI m) := ⟨_, rfl⟩
    rw [← hc2] at hR
    have e2 : c2 (100, 0) = upd (cE (100, 0)) (34) (nI m) := by rw [hc2, r_cs, r_cf_self]
    have n2 : ∀ t, t ≠ (100, 0) → c2 t = cE t := fun t h => by rw [hc2, r_cs, r_cf_ne h]
    have k35 : c2 (100, 0) 35 = nI m := by rw [e2, pk_un (by decide)]; exact m35
    refine z_iconst (v := 0) h dX12_rules_18 (by decide) ?_
    refine z_istore_n h dX12_rules_19 (by rw [hn]; decide) ?_
    have loop_20 : ∀ (n_ : Nat) (i : Nat) (w : z_w), r_p dM (TM g) w0 (CRl c2 i) l r w → i ≤ m → m + 1 ≤ i + n_ → z_V X 0 0 w 20 [(0, vr (100, 0)), (1, vi (nI i))] [] := by
      intro n_
      induction n_ with
      | zero => intros; omega
      | succ n_ ih_20 =>
        intro i w hR hi hN
        refine z_iload_n h dX12_rules_20 rfl ?_
        refine z_aload_n h dX12_rules_21 rfl ?_
        refine y_geti h dX12_rules_22 hR flX12_247 (Nat.le_of_ble_eq_true rfl) (by rfl) (by rfl) ?_
        refine z_toe (y := nI m) (by rw [crl_ne (by simp) (by simp) (by simp) (by simp)]; exact k35) ?_
        refine z_icmp_ge h dX12_rules_25 82 (by decide) (fun c_2 => ?_) (fun c_2 => ?_)
        · skip
          have e1 : m ≤ i := (nI_leI (by omega) (by omega)).mp c_2
          have him : i = m := by omega
          rw [him] at hR
          obtain ⟨cL, hcL⟩ : ∃ cL, cL = CRl c2 m := ⟨_, rfl⟩
          rw [← hcL] at hR
          have l100 : cL (100, 0) = c2 (100, 0) := by rw [hcL, crl_ne (by simp) (by simp) (by simp) (by simp)]
          refine z_aload_n h dX12_rules_82 rfl ?_
          refine z_iconst (v := 0) h dX12_rules_83 (by decide) ?_
          refine y_put h dX12_rules_84 he hR flX12_234 rfl (Nat.le_of_ble_eq_true rfl) (by rfl) (by rfl) (fun w hR => ?_)
          obtain ⟨cZ, hcZ⟩ : ∃ cZ, cZ = r_cs cL (100, 0) (32) (0) := ⟨_, rfl⟩
          rw [← hcZ] at hR
          have eZ : cZ (100, 0) = upd (cL (100, 0)) (32) (0) := by rw [hcZ, r_cs, r_cf_self]
          have nZ : ∀ t, t ≠ (100, 0) → cZ t = cL t := fun t h => by rw [hcZ, r_cs, r_cf_ne h]
          refine z_iconst (v := 1) h dX12_rules_87 (by decide) ?_
          exact z_zret h dX12_rules_88 hr rfl (z_t c_1 ⟨rfl, cZ, m, hR, by rw [eZ, pk_un (by decide), l100, e2, pk_us], m40, by rw [mC], fun k hk => by
            obtain ⟨g1, g2, g3, g4⟩ := mg k hk
            rw [mC]
            refine ⟨?_, ?_, ?_, ?_⟩
            · rw [nZ _ (by simp), hcL, crl_6]; show (if k < m then c2 (140, 0) k else _) = _; rw [if_pos hk, n2 _ (by simp)]; exact g1.symm
            · rw [nZ _ (by simp), hcL, crl_7]; show (if k < m then c2 (141, 0) k else _) = _; rw [if_pos hk, n2 _ (by simp)]; exact g2.symm
            · rw [nZ _ (by simp), hcL, crl_8]; show (if k < m then c2 (142, 0) k else _) = _; rw [if_pos hk, n2 _ (by simp)]; exact g3.symm
            · rw [nZ _ (by simp), hcL, crl_9]; show (if k < m then c2 (143, 0) k else _) = _; rw [if_pos hk, n2 _ (by simp)]; exact g4.symm, by rw [eZ, pk_us], fun k h1 h2 h3 h4 => by rw [eZ, pk_un h1, l100, e2, pk_un h3]; exact ek k h2 h4, fun t h1 h2 h3 h4 h5 h6 h7 h8 h9 => by rw [nZ t h1, hcL, crl_ne h2 h3 h4 h5, n2 t h1]; exact efr t h1 h6 h7 h8 h9⟩)
        · skip
          have e1 : ¬ m ≤ i := fun q => c_2 ((nI_leI (by omega) (by omega)).mpr q)
          refine z_aload_n h dX12_rules_28 rfl ?_
          refine y_getr h dX12_rules_29 hR flX12_67 (Nat.le_of_ble_eq_true rfl) (by rfl) (by rfl) ?_
          refine z_iload_n h dX12_rules_32 rfl ?_
          refine z_aload_n h dX12_rules_33 rfl ?_
          refine y_getr h dX12_rules_34 hR flX12_79 (Nat.le_of_ble_eq_true rfl) (by rfl) (by rfl) ?_
          refine z_iload_n h dX12_rules_37 rfl ?_
          refine y_iald h dX12_rules_38 hR (Nat.le_of_ble_eq_true rfl) (by rfl) (z_ixn (show i < 60 by omega) (by decide)) ?_
          rw [crl_ne (by simp) (by simp) (by simp) (by simp)]
          refine y_iast h dX12_rules_39 hR (Nat.le_of_ble_eq_true rfl) (by rfl) (z_ixn (show i < 60 by omega) (by decide)) (fun w hR => ?_)
          obtain ⟨cP, hcP⟩ : ∃ cP, cP = r_cs (CRl c2 i) (136, 0) i (c2 (140, 0) i) := ⟨_, rfl⟩
          rw [← hcP] at hR
          refine z_aload_n h dX12_rules_40 rfl ?_
          refine y_getr h dX12_rules_41 hR flX12_70 (Nat.le_of_ble_eq_true rfl) (by rfl) (by rfl) ?_
          refine z_iload_n h dX12_rules_44 rfl ?_
          refine z_aload_n h dX12_rules_45 rfl ?_
          refine y_getr h dX12_rules_46 hR flX12_82 (Nat.le_of_ble_eq_true rfl) (by rfl) (by rfl) ?_
          refine z_iload_n h dX12_rules_49 rfl ?_
          refine y_iald h dX12_rules_50 hR (Nat.le_of_ble_eq_true rfl) (by rfl) (z_ixn (show i < 60 by omega) (by decide)) ?_
          refine z_toe (y := c2 (141, 0) i) (by rw [hcP, r_cs, r_cf_ne (by simp), crl_ne (by simp) (by simp) (by simp) (by simp)]) ?_
          refine y_iast h dX12_rules_51 hR (Nat.le_of_ble_eq_true rfl) (by rfl) (z_ixn (show i < 60 by omega) (by decide)) (fun w hR => ?_)
          obtain ⟨cQ, hcQ⟩ : ∃ cQ, cQ = r_cs cP (137, 0) i (c2 (141, 0) i) := ⟨_, rfl⟩
          rw [← hcQ] at hR
          refine z_aload_n h dX12_rules_52 rfl ?_
          refine y_getr h dX12_rules_53 hR flX12_73 (Nat.le_of_ble_eq_true rfl) (by rfl) (by rfl) ?_
          refine z_iload_n h dX12_rules_56 rfl ?_
          refine z_aload_n h dX12_rules_57 rfl ?_
          refine y_getr h dX12_rules_58 hR flX12_85 (Nat.le_of_ble_eq_true rfl) (by rfl) (by rfl) ?_
          refine z_iload_n h dX12_rules_61 rfl ?_
          refine y_iald h dX12_rules_62 hR (Nat.le_of_ble_eq_true rfl) (by rfl) (z_ixn (show i < 60 by omega) (by decide)) ?_
          refine z_toe (y := c2 (142, 0) i) (by rw [hcQ, r_cs, r_cf_ne (by simp), hcP, r_cs, r_cf_ne (by simp), crl_ne (by simp) (by simp) (by simp) (by simp)]) ?_
          refine y_iast h dX12_rules_63 hR (Nat.le_of_ble_eq_true rfl) (by rfl) (z_ixn (show i < 60 by omega) (by decide)) (fun w hR => ?_)
          obtain ⟨cS, hcS⟩ : ∃ cS, cS = r_cs cQ (138, 0) i (c2 (142, 0) i) := ⟨_, rfl⟩
          rw [← hcS] at hR
          refine z_aload_n h dX12_rules_64 rfl ?_
          refine y_getr h dX12_rules_65 hR flX12_76 (Nat.le_of_ble_eq_true rfl) (by rfl) (by rfl) ?_
          refine z_iload_n h dX12_rules_68 rfl ?_
          refine z_aload_n h dX12_rules_69 rfl ?_
          refine y_getr h dX12_rules_70 hR flX12_88 (Nat.le_of_ble_eq_true rfl) (by rfl) (by rfl) ?_
          refine z_iload_n h dX12_rules_73 rfl ?_
          refine y_iald h dX12_rules_74 hR (Nat.le_of_ble_eq_true rfl) (by rfl) (z_ixn (show i < 60 by omega) (by decide)) ?_
          refine z_toe (y := c2 (143, 0) i) (by rw [hcS, r_cs, r_cf_ne (by simp), hcQ, r_cs, r_cf_ne (by simp), hcP, r_cs, r_cf_ne (by simp), crl_ne (by simp) (by simp) (by simp) (by simp)]) ?_
          refine y_iast h dX12_rules_75 hR (Nat.le_of_ble_eq_true rfl) (by rfl) (z_ixn (show i < 60 by omega) (by decide)) (fun w hR => ?_)
          obtain ⟨cT, hcT⟩ : ∃ cT, cT = r_cs cS (139, 0) i (c2 (143, 0) i) := ⟨_, rfl⟩
          rw [← hcT] at hR
          refine z_iinc (v := 1) h dX12_rules_76 rfl (by decide) (by rw [hn]; decide) ?_
          refine z_goto h dX12_rules_79 20 (by decide) ?_
          refine z_loc [(0, vr (100, 0)), (1, vi (nI (i + 1)))] ⟨rfl, congrArg (fun z => some (vi z)) (z_up i), trivial⟩ ?_
          exact ih_20 (i + 1) w (by rw [← crl_st hcP hcQ hcS hcT]; exact hR) (by omega) (by omega)
    exact z_loc [(0, vr (100, 0)), (1, vi (nI 0))] ⟨rfl, rfl, trivial⟩ (loop_20 (m + 1) 0 w (by rw [crl_0]; exact hR) (by omega) (by omega))
  · skip
    refine z_iconst (v := 0) h dX12_rules_8 (by decide) ?_
    exact z_zret h dX12_rules_9 hr rfl (z_f c_1 ⟨rfl, cE, hR, ek, efr⟩)
