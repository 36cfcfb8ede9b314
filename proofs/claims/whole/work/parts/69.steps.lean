/-! one lemma a call: met, count, want -/
theorem fit_eq {nb na no : Nat} {c d : r_c} (hA : cpA nb na c d) (hO : cpO no c d) : xfit ((o_wc c no na na) (39, 0)) no na = fR (mft d) no na := by
  have hno := hO.2.1
  have ew : (o_wc c no na na) (39, 0) = o_w c no na := by unfold o_wc; rw [r_cf_self]
  rw [ew]
  have key : ∀ x y, x < no → y < na → (¬ (o_w c no na y >>> (nI x &&& 31)) &&& 1 = 0 ↔ mft d x y = true) := fun x y hx hy => by
    have h256 : o_cm c no y < 256 := Nat.lt_of_lt_of_le (o_bits_lt _ no) (Nat.pow_le_pow_right (n := 2) (by omega) (show no ≤ 8 from hno))
    obtain ⟨_, _, ⟨b1, b2, b3, b4, b5⟩, _⟩ := hA.2.1 y hy
    obtain ⟨o1, o2⟩ := hO.2.2.2 x hx
    have e : mft d x y = o_ad c y x := by
      unfold mft o_ad o_fit o_so
      rw [b1, b3, b4, o1, o2]
    rw [show o_w c no na y = nI (o_cm c no y) from if_pos hy, o_tb_ x (by omega) (o_cm c no y) h256, o_cm, o_bits_test, e]
    cases o_ad c y x
    · simp
    · simp [hx]
  funext x y
  exact propext ⟨fun q => ⟨q.1, q.2.1, (key x y q.1 q.2.1).mp q.2.2⟩, fun q => ⟨q.1, q.2.1, (key x y q.1 q.2.1).mpr q.2.2⟩⟩
theorem xmet_can {c d : r_c} {nb na no : Nat} (hA : cpA nb na c d) (hO : cpO no c d) (hna : na ≤ 100) : (∃ T, oM no na (xmet c no na) T) ∧ mcan (fR (mft d) no na) (xR no na (xmet c no na)) no := by
  have h := mtc_can (cm := (o_wc c no na na) (39, 0)) (P := (o_wc c no na na) (41, 0)) hO.2.1 hna
  rw [fit_eq hA hO] at h
  exact ⟨⟨_, h.1⟩, h.2⟩
theorem met_eq {fit : mR} {n m : Nat} {F T G1 : Nat → Int32} (hm : m ≤ 100) (h1 : oM n m F T) (h2 : mcan fit (xR n m F) n) (g1 : gOK m n G1) (g2 : mcan fit (xR n m G1) n) {x : Nat} (hx : x < n) : G1 x = F x := by
  have hu := mcan_uq h2 g2 x hx
  rcases h1.1 x hx with q | ⟨y, y1, y2, _⟩
  · rcases g1 x hx with z | ⟨y, y1, y2⟩
    · rw [q, z]
    · exact absurd ⟨y, (hu y).mpr ⟨hx, y1, y2⟩⟩ (xR_no hm q)
  · rw [y2]
    exact ((hu y).mp ⟨hx, y1, y2⟩).2.2
theorem mc_F {n m : Nat} {F T : Nat → Int32} (hm : m ≤ 100) (h1 : oM n m F T) : mc (xR n m F) n = o_cnt (fun o => decide (¬ F o = -1)) n := by
  refine o_cnt_congr (fun i hi => Bool.eq_iff_iff.mpr (mbo_t.trans (Iff.trans ?_ decide_eq_true_iff.symm)))
  exact ⟨fun h q => xR_no hm q h, fun q => (oM_mh h1 hi).resolve_left q⟩
theorem nu_mc {fit G M : mR} {n k : Nat} (hk : isnu fit G 0 n k) (h : mcan fit M n) : k = mc M n := by
  obtain ⟨R, r1, _, r3, r4⟩ := hk
  rw [mfx_0] at r1 r4
  exact Nat.le_antisymm (r3 ▸ h.2.1 R r1) (r4 M h.1)
theorem ox_fr {c c1 : r_c} (h : OX c c1) : frX [35, 38, 39, 40, 41, 42, 43] [] c c1 := ⟨fun t ht h0 => h.1 t (fun e => ht (by rw [e]; simp)) (fun e => ht (by rw [e]; simp)) (fun e => ht (by rw [e]; simp)) (fun e => ht (by rw [e]; simp)) (fun e => ht (by rw [e]; simp)) (fun e => ht (by rw [e]; simp)) (fun e => ht (by rw [e]; simp)), fun k _ => by rw [h.1 (0, 0) (by simp) (by simp) (by simp) (by simp) (by simp) (by simp) (by simp)]⟩
theorem mc_fr (d : r_c) (Gv B A : Nat → Int32) : frM [166, 167, 168] [] d (MC d Gv B A) := ((frM.rf.cf (by simp) (by simp)).cf (by simp) (by simp)).cf (by simp) (by simp)
theorem cp_ox {t gX gM nb na np : Nat} {c c1 d d1 : r_c} (h : CP t gX gM nb na np c d) (hO : OX c c1) (fM : frM [166, 167, 168] [] d d1) : CP (t + 1) gX gM nb na np c1 d1 := by
  obtain ⟨y, nc, nt, nr, nl, no, bu, mi, yo, yc, ra, bl, ch, u, p1, p2, p3, p4, p5, p6, p7, p8, p9, p10⟩ := h
  have fX := ox_fr hO
  exact ⟨y, nc, nt, nr, nl, no, bu, mi, yo, yc, ra, bl, ch, u, p1.tr fX fM (by decide), p2.tr fX fM (by decide), p3.tr fX fM (Nat.le_refl _) (Nat.le_succ _) (by decide), p4.tr fX fM (Nat.le_refl _) (Nat.le_succ _) (by decide), p5.tr fX fM (by decide), p6.tr fX fM (by decide), p7.tr fX fM (Nat.le_refl _) (by decide), p8.tr fX fM (by decide), p9.tr fX fM (Nat.le_refl _) (Nat.le_succ _) (by decide), p10.tr fX fM (hO.2 3 (by decide)) (by decide)⟩
theorem k_met (G : z_G) {t gX gM : Nat} {w : z_w} (hL : KS t gX gM w) (x : Int32) : z_M G yX11_met cX11_met 2 (some .int) 7 (0) (0) [vr (0, 0), vi x] w (fun q w1 => (∀ tt, ¬ dX tt → w1 tt = w tt) ∧ z_M G yX12_met cX12_met 2 (some .int) 106 (0) (0) [vr (100, 0), vi x] w1 (KQ (t + 1) gX gM q)) := by
  obtain ⟨nb, na, np, c, l, r, d, lM, rM, hX, hM, hC⟩ := hL
  have hC0 := hC
  obtain ⟨y, nc, nt, nr, nl, no, bu, mi, yo, yc, ra, bl, ch, u, p1, p2, p3, p4, p5, p6, p7, p8, p9, p10⟩ := hC
  obtain ⟨bnb, bna, bnp, bgX⟩ : nb ≤ 12 ∧ na ≤ 100 ∧ np ≤ 60 ∧ gX ≤ 6 := ⟨hX.2.1, hX.2.2.1, hX.2.2.2.1, hX.2.2.2.2.1⟩
  refine (m_X11_met G hX no p10.1 p10.2.1 x).imp (fun q w1 h => ⟨?_, ?_⟩)
  · have hs : ∀ {T : z_T → Option r_sh} {c' : r_c} {l' : r_l} {r' : r_r}, r_p dX T w c' l' r' w1 → ∀ tt, ¬ dX tt → w1 tt = w tt := fun z => z.2
    first
    | exact fun _ _ => congrFun h.2 _
    | exact hs h.2
    | (obtain ⟨_, c1, _, z⟩ := h; exact hs z)
    | (refine z_ifq h (fun _ h => ?_) (fun _ h => ?_) <;> first | exact fun _ _ => congrFun h.2 _ | exact hs h.2 | (obtain ⟨_, c1, z, _⟩ := h; exact hs z) | (obtain ⟨_, c1, l1, z, _⟩ := h; exact hs z) | (obtain ⟨_, g1, c1, l1, z, _⟩ := h; exact hs z) | (obtain ⟨_, c1, _, _, _, z⟩ := h; exact hs z))
  obtain ⟨hq, c1, hOX, hX1⟩ := h
  refine (m_X12_met G (kM hX1 hM) na p7.1 bna no p10.2.2.1 p10.2.1 x).imp (fun q2 w2 h2 => ?_)
  obtain ⟨⟨T, f1⟩, f2⟩ := xmet_can p7 p10 bna
  by_cases hx : ix_ok x no
  · rw [if_pos hx] at h2 hq
    obtain ⟨all, G1, B1, A1, hnu, hgv, hq2, hM1⟩ := h2
    have g1 := hgv.1
    have g2 := (GV_can hgv hnu).1
    exact kq_com hX hX1 hM1 (ox_fr hOX) rfl (cp_ox hC0 hOX (mc_fr d _ _ _)) hq (hq2.trans (congrArg (fun z => some (vi z)) (met_eq bna f1 f2 g1 g2 (ix_lt hx (by have := p10.2.1; omega)))))
  · rw [if_neg hx] at h2 hq
    obtain ⟨hq2, hw⟩ := h2
    subst hw
    exact kq_com hX hX1 (kM hX1 hM) (ox_fr hOX) rfl (cp_ox hC0 hOX frM.rf) hq hq2
theorem k_count (G : z_G) {t gX gM : Nat} {w : z_w} (hL : KS t gX gM w) (x : Int32) : z_M G yX11_count cX11_count 2 (some .int) 7 (0) (0) [vr (0, 0), vi x] w (fun q w1 => (∀ tt, ¬ dX tt → w1 tt = w tt) ∧ z_M G yX12_count cX12_count 2 (some .int) 105 (0) (0) [vr (100, 0), vi x] w1 (KQ (t + 1) gX gM q)) := by
  obtain ⟨nb, na, np, c, l, r, d, lM, rM, hX, hM, hC⟩ := hL
  have hC0 := hC
  obtain ⟨y, nc, nt, nr, nl, no, bu, mi, yo, yc, ra, bl, ch, u, p1, p2, p3, p4, p5, p6, p7, p8, p9, p10⟩ := hC
  obtain ⟨bnb, bna, bnp, bgX⟩ : nb ≤ 12 ∧ na ≤ 100 ∧ np ≤ 60 ∧ gX ≤ 6 := ⟨hX.2.1, hX.2.2.1, hX.2.2.2.1, hX.2.2.2.2.1⟩
  refine (m_X11_count G hX no p10.1 p10.2.1 x).imp (fun q w1 h => ⟨?_, ?_⟩)
  · have hs : ∀ {T : z_T → Option r_sh} {c' : r_c} {l' : r_l} {r' : r_r}, r_p dX T w c' l' r' w1 → ∀ tt, ¬ dX tt → w1 tt = w tt := fun z => z.2
    first
    | exact fun _ _ => congrFun h.2 _
    | exact hs h.2
    | (obtain ⟨_, c1, _, z⟩ := h; exact hs z)
    | (refine z_ifq h (fun _ h => ?_) (fun _ h => ?_) <;> first | exact fun _ _ => congrFun h.2 _ | exact hs h.2 | (obtain ⟨_, c1, z, _⟩ := h; exact hs z) | (obtain ⟨_, c1, l1, z, _⟩ := h; exact hs z) | (obtain ⟨_, g1, c1, l1, z, _⟩ := h; exact hs z) | (obtain ⟨_, c1, _, _, _, z⟩ := h; exact hs z))
  obtain ⟨hq, c1, hOX, hX1⟩ := h
  refine (m_X12_count G (kM hX1 hM) na p7.1 bna no p10.2.2.1 p10.2.1 x).imp (fun q2 w2 h2 => ?_)
  obtain ⟨k, k1, hnu, hq2, B1, A1, hM1⟩ := h2
  obtain ⟨⟨T, f1⟩, f2⟩ := xmet_can p7 p10 bna
  have ek : k = o_cnt (fun o => decide (¬ xmet c no na o = -1)) no := (nu_mc hnu f2).trans (mc_F bna f1)
  have e8 : z_sum (d (115, 0)) 8 = z_sum (c (5, 0)) 8 := z_sum_cg (fun i hi => by rw [p3.2.2.2.2.2.1 i hi, p3.2.2.2.2.1 i])
  refine kq_com hX hX1 hM1 (ox_fr hOX) rfl (cp_ox hC0 hOX (mc_fr d _ _ _)) hq (hq2.trans (congrArg (fun z => some (vi z)) ?_))
  rw [← ek, e8, p1.2.1, p1.1, p2.1, hX.2.2.2.2.2.1, p7.1, hX.2.2.2.2.2.2.1, p9.1, hX.2.2.2.2.2.2.2.1, p9.2.2.2.1, p9.2.2.2.2.1, p10.1, p10.2.2.1, p6.1, p6.2.2.1, p1.2.2.2]
theorem chv_iff {ft : Nat → Nat → Bool} {st b : Nat} : ∀ {n}, chv ft st b n = true ↔ ∃ k, k < n ∧ st.testBit k = true ∧ ft k b = true
  | 0 => ⟨fun h => by simp [chv] at h, fun ⟨k, h, _⟩ => by omega⟩
  | n + 1 => by
    rw [chv, Bool.or_eq_true, chv_iff (n := n), Bool.and_eq_true]
    constructor
    · rintro (⟨k, h1, h2⟩ | h)
      · exact ⟨k, by omega, h2⟩
      · exact ⟨n, by omega, h⟩
    · rintro ⟨k, h1, h2⟩
      by_cases e : k = n
      · subst e; exact Or.inr h2
      · exact Or.inl ⟨k, by omega, h2⟩
theorem cm_iff {c : r_c} {no j s : Nat} : ¬ o_cm c no j &&& s = 0 ↔ ∃ k, k < no ∧ s.testBit k = true ∧ o_ad c j k = true := by
  constructor
  · intro h
    refine Classical.byContradiction (fun hn => h (Nat.eq_of_testBit_eq (fun k => ?_)))
    rw [Nat.testBit_and, o_cm, o_bits_test, Nat.zero_testBit]
    cases h1 : s.testBit k <;> cases h2 : o_ad c j k <;> simp
    exact Nat.le_of_not_lt (fun hk => hn ⟨k, hk, h1, h2⟩)
  · rintro ⟨k, h1, h2, h3⟩ h
    have h4 : (o_cm c no j &&& s).testBit k = true := by
      rw [Nat.testBit_and, o_cm, o_bits_test, h2, h3]; simp [h1]
    rw [h, Nat.zero_testBit] at h4
    cases h4
theorem o_fs_cg {P P' : Nat → Bool} : ∀ {n}, (∀ i, i < n → P i = P' i) → o_fs P n = o_fs P' n
  | 0, _ => rfl
  | n + 1, h => by rw [o_fs, o_fs, o_fs_cg (n := n) (fun i hi => h i (by omega)), h n (by omega)]
theorem o_fs_no {P : Nat → Bool} : ∀ {n}, (∀ i, i < n → P i = false) → o_fs P n = 0
  | 0, _ => rfl
  | n + 1, h => o_fs_nx (o_fs_no (fun i hi => h i (by omega))) (by rw [h n (by omega)]; simp)
theorem o_cnt_full {P : Nat → Bool} : ∀ {n}, o_cnt P n = n → ∀ i, i < n → P i = true
  | 0, _, i, hi => by omega
  | n + 1, h, i, hi => by
    rw [o_cnt] at h
    have hl := o_cnt_le P n
    by_cases hp : P n = true
    · rw [if_pos hp] at h
      by_cases e : i = n
      · subst e; exact hp
      · exact o_cnt_full (n := n) (by omega) i (by omega)
    · rw [if_neg hp] at h; omega
/-- when all can be met, no set is short -/
theorem all_met {ft : Nat → Nat → Bool} {G : mR} {n m s : Nat} (hk : isnu (fR ft n m) G 0 n n) (hs : s < 2 ^ n) : o_pc s ≤ o_cnt (fun b => chv ft s b n) m := by
  obtain ⟨R, r1, _, r3, _⟩ := hk
  rw [mfx_0] at r1
  have hf : ∀ o, ∃ b, o < n → R o b := fun o => by
    by_cases ho : o < n
    · obtain ⟨b, hb⟩ := mbo_t.mp (o_cnt_full r3 o ho)
      exact ⟨b, fun _ => hb⟩
    · exact ⟨0, fun z => absurd z ho⟩
  have hlt : ∀ o, s.testBit o = true → o < n := fun o ho => Nat.lt_of_not_le (fun hn => by
    rw [Nat.testBit_lt_two_pow (Nat.lt_of_lt_of_le hs (Nat.pow_le_pow_right (by omega) hn))] at ho
    cases ho)
  refine o_ph (fun o => Classical.choose (hf o)) (fun o => s.testBit o) m 8 _ (fun o _ ho => ?_) (fun o o' _ _ ho ho' e => ?_)
  · have hr := Classical.choose_spec (hf o) (hlt o ho)
    have hq := r1.1 _ _ hr
    exact ⟨hq.2.1, chv_iff.mpr ⟨o, hlt o ho, ho, hq.2.2⟩⟩
  · have hr := Classical.choose_spec (hf o) (hlt o ho)
    have hr' := Classical.choose_spec (hf o') (hlt o' ho')
    have e' : Classical.choose (hf o) = Classical.choose (hf o') := e
    rw [e'] at hr
    exact r1.2.2 _ _ _ hr hr'
theorem k_want (G : z_G) {t gX gM : Nat} {w : z_w} (hL : KS t gX gM w) : z_M G yX11_want cX11_want 1 (some .int) 4 (0) (0) [vr (0, 0)] w (fun q w1 => (∀ tt, ¬ dX tt → w1 tt = w tt) ∧ z_M G yX12_want cX12_want 2 (some .int) 105 (0) (0) [vr (100, 0)] w1 (KQ (t + 1) gX gM q)) := by
  obtain ⟨nb, na, np, c, l, r, d, lM, rM, hX, hM, hC⟩ := hL
  have hC0 := hC
  obtain ⟨y, nc, nt, nr, nl, no, bu, mi, yo, yc, ra, bl, ch, u, p1, p2, p3, p4, p5, p6, p7, p8, p9, p10⟩ := hC
  obtain ⟨bnb, bna, bnp, bgX⟩ : nb ≤ 12 ∧ na ≤ 100 ∧ np ≤ 60 ∧ gX ≤ 6 := ⟨hX.2.1, hX.2.2.1, hX.2.2.2.1, hX.2.2.2.2.1⟩
  refine (m_X11_want G hX no p10.1 p10.2.1).imp (fun q w1 h => ⟨?_, ?_⟩)
  · have hs : ∀ {T : z_T → Option r_sh} {c' : r_c} {l' : r_l} {r' : r_r}, r_p dX T w c' l' r' w1 → ∀ tt, ¬ dX tt → w1 tt = w tt := fun z => z.2
    first
    | exact fun _ _ => congrFun h.2 _
    | exact hs h.2
    | (obtain ⟨_, c1, _, z⟩ := h; exact hs z)
    | (refine z_ifq h (fun _ h => ?_) (fun _ h => ?_) <;> first | exact fun _ _ => congrFun h.2 _ | exact hs h.2 | (obtain ⟨_, c1, z, _⟩ := h; exact hs z) | (obtain ⟨_, c1, l1, z, _⟩ := h; exact hs z) | (obtain ⟨_, g1, c1, l1, z, _⟩ := h; exact hs z) | (obtain ⟨_, c1, _, _, _, z⟩ := h; exact hs z))
  obtain ⟨hq, hX1⟩ := h
  refine (m_X12_want G (kM hX1 hM) na p7.1 bna no p10.2.2.1 p10.2.1).imp (fun q2 w2 h2 => ?_)
  obtain ⟨k, k1, hnu, hq2, B1, A1, hM1⟩ := h2
  have hOX := OX.wc c no na na
  refine kq_com hX hX1 hM1 (ox_fr hOX) rfl (cp_ox hC0 hOX (mc_fr d _ _ _)) hq (hq2.trans (congrArg (fun z => some (vi z)) ?_))
  have had : ∀ j o, j < na → o < no → mft d o j = o_ad c j o := fun j o hj ho => by
    obtain ⟨_, _, ⟨b1, b2, b3, b4, b5⟩, _⟩ := p7.2.1 j hj
    obtain ⟨o1, o2⟩ := p10.2.2.2 o ho
    unfold mft o_ad o_fit o_so
    rw [b1, b3, b4, o1, o2]
  have hP : ∀ s, decide (min 8 (o_cnt (fun j => decide (¬ o_cm c no j &&& s = 0)) na) < o_pc s) = decide (o_cnt (fun b => chv (mft d) s b no) na < o_pc s) := fun s => by
    have e : o_cnt (fun j => decide (¬ o_cm c no j &&& s = 0)) na = o_cnt (fun b => chv (mft d) s b no) na := o_cnt_congr (fun j hj => Bool.eq_iff_iff.mpr (decide_eq_true_iff.trans (cm_iff.trans (Iff.trans ⟨fun ⟨k, h1, h2, h3⟩ => ⟨k, h1, h2, by rw [had j k hj h1]; exact h3⟩, fun ⟨k, h1, h2, h3⟩ => ⟨k, h1, h2, by rw [← had j k hj h1]; exact h3⟩⟩ chv_iff.symm))))
    have h8 : o_pc s ≤ 8 := o_cnt_le _ 8
    rw [e]
    exact decide_eq_decide.mpr (by omega)
  rw [o_fs_cg (fun s _ => hP s)]
  by_cases e : k = no
  · rw [if_pos e, o_fs_no (fun s hs => decide_eq_false (by have := all_met (e ▸ hnu) hs; omega))]; rfl
  · rw [if_neg e]
