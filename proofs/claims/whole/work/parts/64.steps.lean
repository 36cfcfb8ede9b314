/-! one lemma a call: what both sides answer -/
theorem k_water (G : z_G) {t gX gM : Nat} {w : z_w} (hL : KS t gX gM w) (x : Int32) : z_M G yX11_water cX11_water 2 (some .boolean) 2 (0) (0) [vr (0, 0), vi x] w (fun q w1 => (∀ tt, ¬ dX tt → w1 tt = w tt) ∧ z_M G yX12_water cX12_water 2 (some .boolean) 2 (0) (0) [vr (100, 0), vi x] w1 (KQ (t + 1) gX gM q)) := by
  obtain ⟨nb, na, np, c, l, r, d, lM, rM, hX, hM, hC⟩ := hL
  have hC0 := hC
  obtain ⟨y, nc, nt, nr, nl, no, bu, mi, yo, yc, ra, bl, ch, u, p1, p2, p3, p4, p5, p6, p7, p8, p9, p10⟩ := hC
  obtain ⟨bnb, bna, bnp, bgX⟩ : nb ≤ 12 ∧ na ≤ 100 ∧ np ≤ 60 ∧ gX ≤ 6 := ⟨hX.2.1, hX.2.2.1, hX.2.2.2.1, hX.2.2.2.2.1⟩
  have hE : (0 ≤ x ∧ x ≤ 9) ↔ ((0 ≤ x ∧ x ≤ 9)) := by
    exact Iff.rfl
  refine (m_X11_water G hX x).imp (fun q w1 h => ⟨?_, ?_⟩)
  · have hs : ∀ {T : z_T → Option r_sh} {c' : r_c} {l' : r_l} {r' : r_r}, r_p dX T w c' l' r' w1 → ∀ tt, ¬ dX tt → w1 tt = w tt := fun z => z.2
    first
    | exact fun _ _ => congrFun h.2 _
    | exact hs h.2
    | (obtain ⟨_, c1, _, z⟩ := h; exact hs z)
    | (refine z_ifq h (fun _ h => ?_) (fun _ h => ?_) <;> first | exact fun _ _ => congrFun h.2 _ | exact hs h.2 | (obtain ⟨_, c1, z, _⟩ := h; exact hs z) | (obtain ⟨_, c1, l1, z, _⟩ := h; exact hs z) | (obtain ⟨_, g1, c1, l1, z, _⟩ := h; exact hs z) | (obtain ⟨_, c1, _, _, _, z⟩ := h; exact hs z))
  by_cases hA : 0 ≤ x ∧ x ≤ 9
  · rw [if_pos hA] at h
    obtain ⟨hq, hX1⟩ := h
    refine (m_X12_water G (kM hX1 hM) x).imp (fun q2 w2 h2 => ?_)
    rw [if_pos (hE.mp hA)] at h2
    obtain ⟨hq2, hM1⟩ := h2
    have fX : frX [13] [] c (r_cs c (13, 0) 12 x) := frX.rf.cs (by simp) (by simp)
    have fM : frM [] [29] d (r_cs d (100, 0) 29 x) := frM.rf.c0 (by simp)
    refine kq_com hX hX1 hM1 fX rfl ?_ hq (hq2)
    refine ⟨y, nc, nt, nr, nl, no, bu, mi, yo, yc, ra, bl, ch, (upd u 12 x), p1.tr fX fM (by decide), p2.tr fX fM (by decide), p3.tr fX fM (Nat.le_refl _) (Nat.le_succ _) (by decide), ?_, p5.tr fX fM (by decide), p6.tr fX fM (by decide), p7.tr fX fM (Nat.le_refl _) (by decide), p8.tr fX fM (by decide), p9.tr fX fM (Nat.le_refl _) (Nat.le_succ _) (by decide), p10.tr fX fM (congrFun (fX.1 (35, 0) (by decide) (by decide)) 3) (by decide)⟩
    · obtain ⟨⟨x1, x2, x3, x4, x5, x6⟩, ⟨m1, m2, m3, m4⟩, h3, h4, h5, h6, h7, h8, h9, h10, h11, h12, h13⟩ := p4
      refine ⟨⟨x1, x2, x3, x4, x5, fun k h1 h2 => ?_⟩, ⟨m1, m2, m3, fun k h1 h2 => ?_⟩, h3, by omega, by omega, h6, h7, h8, h9, h10, h11, hA.1, h13⟩
      · rw [r_cs_at]
        by_cases e : k = 12
        · rw [if_pos ⟨rfl, rfl, e⟩]; exact (if_pos e).symm
        · rw [if_neg (fun z => e z.2.2)]; exact (x6 k h1 h2).trans (if_neg e).symm
      · rw [r_cs_at]
        by_cases e : k = 12
        · rw [if_pos ⟨rfl, rfl, by omega⟩]; exact (if_pos e).symm
        · rw [if_neg (fun z => e (by omega))]; exact (m4 k h1 h2).trans (if_neg e).symm
  · rw [if_neg hA] at h
    obtain ⟨hq, hw⟩ := h
    subst hw
    refine (m_X12_water G hM x).imp (fun q2 w2 h2 => ?_)
    rw [if_neg (fun z => hA (hE.mpr z))] at h2
    obtain ⟨hq2, hw⟩ := h2
    subst hw
    exact kq_same hX hM hC0 hq hq2
theorem k_gap (G : z_G) {t gX gM : Nat} {w : z_w} (hL : KS t gX gM w) (x : Int32) : z_M G yX11_gap cX11_gap 2 (some .boolean) 2 (0) (0) [vr (0, 0), vi x] w (fun q w1 => (∀ tt, ¬ dX tt → w1 tt = w tt) ∧ z_M G yX12_gap cX12_gap 2 (some .boolean) 2 (0) (0) [vr (100, 0), vi x] w1 (KQ (t + 1) gX gM q)) := by
  obtain ⟨nb, na, np, c, l, r, d, lM, rM, hX, hM, hC⟩ := hL
  have hC0 := hC
  obtain ⟨y, nc, nt, nr, nl, no, bu, mi, yo, yc, ra, bl, ch, u, p1, p2, p3, p4, p5, p6, p7, p8, p9, p10⟩ := hC
  obtain ⟨bnb, bna, bnp, bgX⟩ : nb ≤ 12 ∧ na ≤ 100 ∧ np ≤ 60 ∧ gX ≤ 6 := ⟨hX.2.1, hX.2.2.1, hX.2.2.2.1, hX.2.2.2.2.1⟩
  have hE : (1 ≤ x ∧ x ≤ 30) ↔ ((1 ≤ x ∧ x ≤ 30)) := by
    exact Iff.rfl
  refine (m_X11_gap G hX x).imp (fun q w1 h => ⟨?_, ?_⟩)
  · have hs : ∀ {T : z_T → Option r_sh} {c' : r_c} {l' : r_l} {r' : r_r}, r_p dX T w c' l' r' w1 → ∀ tt, ¬ dX tt → w1 tt = w tt := fun z => z.2
    first
    | exact fun _ _ => congrFun h.2 _
    | exact hs h.2
    | (obtain ⟨_, c1, _, z⟩ := h; exact hs z)
    | (refine z_ifq h (fun _ h => ?_) (fun _ h => ?_) <;> first | exact fun _ _ => congrFun h.2 _ | exact hs h.2 | (obtain ⟨_, c1, z, _⟩ := h; exact hs z) | (obtain ⟨_, c1, l1, z, _⟩ := h; exact hs z) | (obtain ⟨_, g1, c1, l1, z, _⟩ := h; exact hs z) | (obtain ⟨_, c1, _, _, _, z⟩ := h; exact hs z))
  by_cases hA : 1 ≤ x ∧ x ≤ 30
  · rw [if_pos hA] at h
    obtain ⟨hq, hX1⟩ := h
    refine (m_X12_gap G (kM hX1 hM) x).imp (fun q2 w2 h2 => ?_)
    rw [if_pos (hE.mp hA)] at h2
    obtain ⟨hq2, hM1⟩ := h2
    have fX : frX [13] [] c (r_cs c (13, 0) 13 x) := frX.rf.cs (by simp) (by simp)
    have fM : frM [] [30] d (r_cs d (100, 0) 30 x) := frM.rf.c0 (by simp)
    refine kq_com hX hX1 hM1 fX rfl ?_ hq (hq2)
    refine ⟨y, nc, nt, nr, nl, no, bu, mi, yo, yc, ra, bl, ch, (upd u 13 x), p1.tr fX fM (by decide), p2.tr fX fM (by decide), p3.tr fX fM (Nat.le_refl _) (Nat.le_succ _) (by decide), ?_, p5.tr fX fM (by decide), p6.tr fX fM (by decide), p7.tr fX fM (Nat.le_refl _) (by decide), p8.tr fX fM (by decide), p9.tr fX fM (Nat.le_refl _) (Nat.le_succ _) (by decide), p10.tr fX fM (congrFun (fX.1 (35, 0) (by decide) (by decide)) 3) (by decide)⟩
    · obtain ⟨⟨x1, x2, x3, x4, x5, x6⟩, ⟨m1, m2, m3, m4⟩, h3, h4, h5, h6, h7, h8, h9, h10, h11, h12, h13⟩ := p4
      refine ⟨⟨x1, x2, x3, x4, x5, fun k h1 h2 => ?_⟩, ⟨m1, m2, m3, fun k h1 h2 => ?_⟩, h3, by omega, by omega, h6, h7, h8, h9, h10, (fun z => absurd (Int32.le_trans hA.1 z) (show ¬ (1 : Int32) ≤ 0 by decide)), h12, h13⟩
      · rw [r_cs_at]
        by_cases e : k = 13
        · rw [if_pos ⟨rfl, rfl, e⟩]; exact (if_pos e).symm
        · rw [if_neg (fun z => e z.2.2)]; exact (x6 k h1 h2).trans (if_neg e).symm
      · rw [r_cs_at]
        by_cases e : k = 13
        · rw [if_pos ⟨rfl, rfl, by omega⟩]; exact (if_pos e).symm
        · rw [if_neg (fun z => e (by omega))]; exact (m4 k h1 h2).trans (if_neg e).symm
  · rw [if_neg hA] at h
    obtain ⟨hq, hw⟩ := h
    subst hw
    refine (m_X12_gap G hM x).imp (fun q2 w2 h2 => ?_)
    rw [if_neg (fun z => hA (hE.mpr z))] at h2
    obtain ⟨hq2, hw⟩ := h2
    subst hw
    exact kq_same hX hM hC0 hq hq2
theorem k_test (G : z_G) {t gX gM : Nat} {w : z_w} (hL : KS t gX gM w) (b a e : Int32) : z_M G yX11_test cX11_test 5 (some .boolean) 3 (0) (0) [vr (0, 0), vi b, vi a, vi e] w (fun q w1 => (∀ tt, ¬ dX tt → w1 tt = w tt) ∧ z_M G yX12_test cX12_test 4 (some .boolean) 3 (0) (0) [vr (100, 0), vi b, vi a, vi e] w1 (KQ (t + 1) gX gM q)) := by
  obtain ⟨nb, na, np, c, l, r, d, lM, rM, hX, hM, hC⟩ := hL
  have hC0 := hC
  obtain ⟨y, nc, nt, nr, nl, no, bu, mi, yo, yc, ra, bl, ch, u, p1, p2, p3, p4, p5, p6, p7, p8, p9, p10⟩ := hC
  obtain ⟨bnb, bna, bnp, bgX⟩ : nb ≤ 12 ∧ na ≤ 100 ∧ np ≤ 60 ∧ gX ≤ 6 := ⟨hX.2.1, hX.2.2.1, hX.2.2.2.1, hX.2.2.2.2.1⟩
  have hE : (ix_ok b nb ∧ (0 ≤ a ∧ a ≤ 1000) ∧ (a ≤ e ∧ e ≤ 1000) ∧ ¬ (c (2, b.toNatClampNeg) 4 < a ∨ e < c (2, b.toNatClampNeg) 3)) ↔ (ix_ok b nb ∧ (0 ≤ a ∧ a ≤ 1000) ∧ (a ≤ e ∧ e ≤ 1000) ∧ ¬ (d (112, 0) b.toNatClampNeg < a ∨ e < d (111, 0) b.toNatClampNeg)) := by
    by_cases hb : ix_ok b nb
    · obtain ⟨⟨e1, e2, e3, e4, e5, e6⟩, s1, s2⟩ := p2.2 _ (ix_lt hb (by omega))
      rw [e4, e5]
    · exact ⟨fun z => absurd z.1 hb, fun z => absurd z.1 hb⟩
  refine (m_X11_test G hX b a e).imp (fun q w1 h => ⟨?_, ?_⟩)
  · have hs : ∀ {T : z_T → Option r_sh} {c' : r_c} {l' : r_l} {r' : r_r}, r_p dX T w c' l' r' w1 → ∀ tt, ¬ dX tt → w1 tt = w tt := fun z => z.2
    first
    | exact fun _ _ => congrFun h.2 _
    | exact hs h.2
    | (obtain ⟨_, c1, _, z⟩ := h; exact hs z)
    | (refine z_ifq h (fun _ h => ?_) (fun _ h => ?_) <;> first | exact fun _ _ => congrFun h.2 _ | exact hs h.2 | (obtain ⟨_, c1, z, _⟩ := h; exact hs z) | (obtain ⟨_, c1, l1, z, _⟩ := h; exact hs z) | (obtain ⟨_, g1, c1, l1, z, _⟩ := h; exact hs z) | (obtain ⟨_, c1, _, _, _, z⟩ := h; exact hs z))
  by_cases hA : ix_ok b nb ∧ (0 ≤ a ∧ a ≤ 1000) ∧ (a ≤ e ∧ e ≤ 1000) ∧ ¬ (c (2, b.toNatClampNeg) 4 < a ∨ e < c (2, b.toNatClampNeg) 3)
  · rw [if_pos hA] at h
    obtain ⟨hq, hX1⟩ := h
    refine (m_X12_test G (kM hX1 hM) nb p2.1 bnb b a e).imp (fun q2 w2 h2 => ?_)
    rw [if_pos (hE.mp hA)] at h2
    obtain ⟨hq2, hM1⟩ := h2
    have fX : frX [2] [] c (r_cs (r_cs c (2, b.toNatClampNeg) 3 (if c (2, b.toNatClampNeg) 3 < a then a else c (2, b.toNatClampNeg) 3)) (2, b.toNatClampNeg) 4 (if e < c (2, b.toNatClampNeg) 4 then e else c (2, b.toNatClampNeg) 4)) := (frX.rf.cs (by simp) (by simp)).cs (by simp) (by simp)
    have fM : frM [111, 112] [] d (r_cs (r_cs d (111, 0) b.toNatClampNeg (if d (111, 0) b.toNatClampNeg < a then a else d (111, 0) b.toNatClampNeg)) (112, 0) b.toNatClampNeg (if e < d (112, 0) b.toNatClampNeg then e else d (112, 0) b.toNatClampNeg)) := (frM.rf.cs (by simp) (by simp)).cs (by simp) (by simp)
    refine kq_com hX hX1 hM1 fX rfl ?_ hq (hq2)
    refine ⟨y, nc, nt, nr, nl, no, bu, mi, yo, yc, ra, bl, ch, u, p1.tr fX fM (by decide), ?_, p3.tr fX fM (Nat.le_refl _) (Nat.le_succ _) (by decide), p4.tr fX fM (Nat.le_refl _) (Nat.le_succ _) (by decide), p5.tr fX fM (by decide), p6.tr fX fM (by decide), p7.tr fX fM (Nat.le_refl _) (by decide), p8.tr fX fM (by decide), p9.tr fX fM (Nat.le_refl _) (Nat.le_succ _) (by decide), p10.tr fX fM (congrFun (fX.1 (35, 0) (by decide) (by decide)) 3) (by decide)⟩
    · refine ⟨(fM.ix (A := [1]) (by decide) (by simp)).trans p2.1, fun i hi => ?_⟩
      obtain ⟨⟨e1, e2, e3, e4, e5, e6⟩, s1, s2⟩ := p2.2 i hi
      by_cases e : i = b.toNatClampNeg
      · subst e
        simp [r_cs_at, e1, e2, e3, e4, e5, e6, s1, s2]
      · simp [r_cs_at, e, e1, e2, e3, e4, e5, e6, s1, s2]
  · rw [if_neg hA] at h
    obtain ⟨hq, hw⟩ := h
    subst hw
    refine (m_X12_test G hM nb p2.1 bnb b a e).imp (fun q2 w2 h2 => ?_)
    rw [if_neg (fun z => hA (hE.mpr z))] at h2
    obtain ⟨hq2, hw⟩ := h2
    subst hw
    exact kq_same hX hM hC0 hq hq2
theorem k_ground (G : z_G) {t gX gM : Nat} {w : z_w} (hL : KS t gX gM w) (b x : Int32) : z_M G yX11_ground cX11_ground 4 (some .int) 2 (0) (0) [vr (0, 0), vi b, vi x] w (fun q w1 => (∀ tt, ¬ dX tt → w1 tt = w tt) ∧ z_M G yX12_ground cX12_ground 3 (some .int) 3 (0) (0) [vr (100, 0), vi b, vi x] w1 (KQ (t + 1) gX gM q)) := by
  obtain ⟨nb, na, np, c, l, r, d, lM, rM, hX, hM, hC⟩ := hL
  have hC0 := hC
  obtain ⟨y, nc, nt, nr, nl, no, bu, mi, yo, yc, ra, bl, ch, u, p1, p2, p3, p4, p5, p6, p7, p8, p9, p10⟩ := hC
  obtain ⟨bnb, bna, bnp, bgX⟩ : nb ≤ 12 ∧ na ≤ 100 ∧ np ≤ 60 ∧ gX ≤ 6 := ⟨hX.2.1, hX.2.2.1, hX.2.2.2.1, hX.2.2.2.2.1⟩
  refine (m_X11_ground G hX b x).imp (fun q w1 h => ⟨?_, ?_⟩)
  · have hs : ∀ {T : z_T → Option r_sh} {c' : r_c} {l' : r_l} {r' : r_r}, r_p dX T w c' l' r' w1 → ∀ tt, ¬ dX tt → w1 tt = w tt := fun z => z.2
    first
    | exact fun _ _ => congrFun h.2 _
    | exact hs h.2
    | (obtain ⟨_, c1, _, z⟩ := h; exact hs z)
    | (refine z_ifq h (fun _ h => ?_) (fun _ h => ?_) <;> first | exact fun _ _ => congrFun h.2 _ | exact hs h.2 | (obtain ⟨_, c1, z, _⟩ := h; exact hs z) | (obtain ⟨_, c1, l1, z, _⟩ := h; exact hs z) | (obtain ⟨_, g1, c1, l1, z, _⟩ := h; exact hs z) | (obtain ⟨_, c1, _, _, _, z⟩ := h; exact hs z))
  obtain ⟨hq, hw⟩ := h
  subst hw
  refine (m_X12_ground G hM nb p2.1 bnb b x).imp (fun q2 w2 h2 => ?_)
  obtain ⟨hq2, hw⟩ := h2
  subst hw
  refine kq_same hX hM hC0 hq (hq2.trans (congrArg (fun z => some (vi z)) ?_))
  by_cases hb : ix_ok b nb
  · rw [if_pos hb, if_pos hb]
    obtain ⟨⟨e1, e2, e3, e4, e5, e6⟩, s1, s2⟩ := p2.2 _ (ix_lt hb (by omega))
    rw [e1, e2, e3, e4, e5, e6, p3.2.1 _ (Nat.lt_of_lt_of_le (ix_lt hb (by omega)) bnb), p3.1]
  · rw [if_neg hb, if_neg hb]
theorem k_furnace (G : z_G) {t gX gM : Nat} {w : z_w} (hL : KS t gX gM w) (x : Int32) : z_M G yX11_furnace cX11_furnace 2 (some .int) 2 (0) (0) [vr (0, 0), vi x] w (fun q w1 => (∀ tt, ¬ dX tt → w1 tt = w tt) ∧ z_M G yX12_furnace cX12_furnace 2 (some .int) 2 (0) (0) [vr (100, 0), vi x] w1 (KQ (t + 1) gX gM q)) := by
  obtain ⟨nb, na, np, c, l, r, d, lM, rM, hX, hM, hC⟩ := hL
  have hC0 := hC
  obtain ⟨y, nc, nt, nr, nl, no, bu, mi, yo, yc, ra, bl, ch, u, p1, p2, p3, p4, p5, p6, p7, p8, p9, p10⟩ := hC
  obtain ⟨bnb, bna, bnp, bgX⟩ : nb ≤ 12 ∧ na ≤ 100 ∧ np ≤ 60 ∧ gX ≤ 6 := ⟨hX.2.1, hX.2.2.1, hX.2.2.2.1, hX.2.2.2.2.1⟩
  refine (m_X11_furnace G hX x).imp (fun q w1 h => ⟨?_, ?_⟩)
  · have hs : ∀ {T : z_T → Option r_sh} {c' : r_c} {l' : r_l} {r' : r_r}, r_p dX T w c' l' r' w1 → ∀ tt, ¬ dX tt → w1 tt = w tt := fun z => z.2
    first
    | exact fun _ _ => congrFun h.2 _
    | exact hs h.2
    | (obtain ⟨_, c1, _, z⟩ := h; exact hs z)
    | (refine z_ifq h (fun _ h => ?_) (fun _ h => ?_) <;> first | exact fun _ _ => congrFun h.2 _ | exact hs h.2 | (obtain ⟨_, c1, z, _⟩ := h; exact hs z) | (obtain ⟨_, c1, l1, z, _⟩ := h; exact hs z) | (obtain ⟨_, g1, c1, l1, z, _⟩ := h; exact hs z) | (obtain ⟨_, c1, _, _, _, z⟩ := h; exact hs z))
  obtain ⟨hq, hw⟩ := h
  subst hw
  refine (m_X12_furnace G hM x).imp (fun q2 w2 h2 => ?_)
  obtain ⟨hq2, hw⟩ := h2
  subst hw
  refine kq_same hX hM hC0 hq (hq2.trans (congrArg (fun z => some (vi z)) ?_))
  obtain ⟨⟨x1, x2, x3, x4, x5, x6⟩, ⟨m1, m2, m3, m4⟩, h3, h4, h5, h6, h7, h8, h9, h10, h11, h12, h13⟩ := p4
  have eb : z_sum (d (121, 0)) 12 = z_sum (c (15, 0)) 12 := (z_sum_nI m2).trans (z_sum_nI (fun i _ => by rw [x2])).symm
  have er : z_sum (d (119, 0)) 12 = c (13, 0) 3 := (z_sum_nI m1).trans x4.symm
  have ec : z_sum (d (120, 0)) 8 - d (100, 0) 22 = c (13, 0) 4 := by
    rw [x5, z_sum_nI m3, m4 5 (by omega) (by omega)]; rfl
  rw [m4 6 (by omega) (by omega), m4 8 (by omega) (by omega), m4 9 (by omega) (by omega), m4 7 (by omega) (by omega), m4 10 (by omega) (by omega), m4 11 (by omega) (by omega), x6 6 (by omega) (by omega), x6 8 (by omega) (by omega), x6 9 (by omega) (by omega), x6 7 (by omega) (by omega), x6 10 (by omega) (by omega), x6 11 (by omega) (by omega), eb, er, ec]
theorem k_coins (G : z_G) {t gX gM : Nat} {w : z_w} (hL : KS t gX gM w) (x : Int32) : z_M G yX11_coins cX11_coins 2 (some .int) 2 (0) (0) [vr (0, 0), vi x] w (fun q w1 => (∀ tt, ¬ dX tt → w1 tt = w tt) ∧ z_M G yX12_coins cX12_coins 2 (some .int) 2 (0) (0) [vr (100, 0), vi x] w1 (KQ (t + 1) gX gM q)) := by
  obtain ⟨nb, na, np, c, l, r, d, lM, rM, hX, hM, hC⟩ := hL
  have hC0 := hC
  obtain ⟨y, nc, nt, nr, nl, no, bu, mi, yo, yc, ra, bl, ch, u, p1, p2, p3, p4, p5, p6, p7, p8, p9, p10⟩ := hC
  obtain ⟨bnb, bna, bnp, bgX⟩ : nb ≤ 12 ∧ na ≤ 100 ∧ np ≤ 60 ∧ gX ≤ 6 := ⟨hX.2.1, hX.2.2.1, hX.2.2.2.1, hX.2.2.2.2.1⟩
  refine (m_X11_coins G hX x).imp (fun q w1 h => ⟨?_, ?_⟩)
  · have hs : ∀ {T : z_T → Option r_sh} {c' : r_c} {l' : r_l} {r' : r_r}, r_p dX T w c' l' r' w1 → ∀ tt, ¬ dX tt → w1 tt = w tt := fun z => z.2
    first
    | exact fun _ _ => congrFun h.2 _
    | exact hs h.2
    | (obtain ⟨_, c1, _, z⟩ := h; exact hs z)
    | (refine z_ifq h (fun _ h => ?_) (fun _ h => ?_) <;> first | exact fun _ _ => congrFun h.2 _ | exact hs h.2 | (obtain ⟨_, c1, z, _⟩ := h; exact hs z) | (obtain ⟨_, c1, l1, z, _⟩ := h; exact hs z) | (obtain ⟨_, g1, c1, l1, z, _⟩ := h; exact hs z) | (obtain ⟨_, c1, _, _, _, z⟩ := h; exact hs z))
  obtain ⟨hq, hw⟩ := h
  subst hw
  refine (m_X12_coins G hM x).imp (fun q2 w2 h2 => ?_)
  obtain ⟨hq2, hw⟩ := h2
  subst hw
  refine kq_same hX hM hC0 hq (hq2.trans (congrArg (fun z => some (vi z)) ?_))
  by_cases hb : ix_ok x 8
  · rw [if_pos hb, if_pos ⟨hb.1, hb.2⟩, p9.2.2.2.2.2.2.2.2.2.2 _ (ix_lt hb (by omega))]
  · rw [if_neg hb, if_neg (fun z => hb ⟨z.1, z.2⟩)]
