/-! one lemma a call: what both sides answer, more -/
theorem r_cf_at (c : r_c) (a i : Nat) (f : Nat → Int32) (a2 j k : Nat) : r_cf c (a, i) f (a2, j) k = if a2 = a ∧ j = i then f k else c (a2, j) k := by
  by_cases h : (a2, j) = (a, i)
  · rw [h, r_cf_self, if_pos ⟨congrArg Prod.fst h, congrArg Prod.snd h⟩]
  · rw [r_cf_ne h, if_neg (fun q => h (by rw [q.1, q.2]))]
theorem upd_at (f : Nat → Int32) (k : Nat) (x : Int32) (j : Nat) : upd f k x j = if j = k then x else f j := rfl
theorem frM.cf {S I : List Nat} {c c' : r_c} (h : frM S I c c') {a i : Nat} {f : Nat → Int32} (ha : a ∈ S) (h0 : a ≠ 100) : frM S I c (r_cf c' (a, i) f) := ⟨fun t ht h1 => by
  rw [r_cf_ne (fun e => ht (by rw [e]; exact ha))]; exact h.1 t ht h1, fun j hj => by
  rw [r_cf_ne (fun e => h0 (congrArg Prod.fst e).symm)]; exact h.2 j hj⟩
theorem z_sum_cg {f g : Nat → Int32} : ∀ {n : Nat}, (∀ i, i < n → f i = g i) → z_sum f n = z_sum g n
  | 0, _ => rfl
  | n + 1, h => by rw [z_sum, z_sum, z_sum_cg (fun i hi => h i (by omega)), h n (by omega)]
def pu (f : Nat → Nat) (b v : Nat) : Nat → Nat := fun i => if i = b then f i + v else f i
theorem pu_sm (f : Nat → Nat) (b v : Nat) : ∀ n, p_sm (pu f b v) n = p_sm f n + if b < n then v else 0
  | 0 => by simp [p_sm]
  | n + 1 => by
    rw [p_sm, p_sm, pu_sm f b v n, pu]
    by_cases h : n = b
    · rw [if_pos h, if_neg (by omega), if_pos (by omega)]; omega
    · rw [if_neg h]
      by_cases h2 : b < n
      · rw [if_pos h2, if_pos (by omega)]; omega
      · rw [if_neg h2, if_neg (by omega)]; omega
theorem pos_1 {k : Int32} (h : 1 ≤ k) : ¬ k < 0 := Int32.not_lt.mpr (Int32.le_trans (show (0 : Int32) ≤ 1 by decide) h)
theorem pos_0 {k : Int32} (h : 0 ≤ k) : ¬ k < 0 := Int32.not_lt.mpr h
theorem k_dig (G : z_G) {t gX gM : Nat} {w : z_w} (hL : KS t gX gM w) (b k : Int32) : z_M G yX11_dig cX11_dig 4 (some .int) 2 (0) (0) [vr (0, 0), vi b, vi k] w (fun q w1 => (∀ tt, ¬ dX tt → w1 tt = w tt) ∧ z_M G yX12_dig cX12_dig 4 (some .int) 3 (0) (0) [vr (100, 0), vi b, vi k] w1 (KQ (t + 1) gX gM q)) := by
  obtain ⟨nb, na, np, c, l, r, d, lM, rM, hX, hM, hC⟩ := hL
  have hC0 := hC
  obtain ⟨y, nc, nt, nr, nl, no, bu, mi, yo, yc, ra, bl, ch, u, p1, p2, p3, p4, p5, p6, p7, p8, p9, p10⟩ := hC
  obtain ⟨bnb, bna, bnp, bgX⟩ : nb ≤ 12 ∧ na ≤ 100 ∧ np ≤ 60 ∧ gX ≤ 6 := ⟨hX.2.1, hX.2.2.1, hX.2.2.2.1, hX.2.2.2.2.1⟩
  have ey : d (100, 0) 0 = c (0, 0) 0 := p1.2.1.trans p1.1.symm
  have hE : (ix_ok b nb ∧ (1 ≤ k ∧ k ≤ c (2, b.toNatClampNeg) 0) ∧ ¬ (¬ c (2, b.toNatClampNeg) 5 = -1 ∧ ¬ c (2, b.toNatClampNeg) 5 = c (0, 0) 0 ∧ c (0, 0) 0 - c (2, b.toNatClampNeg) 5 < c (2, b.toNatClampNeg) 2)) ↔ (ix_ok b nb ∧ (1 ≤ k ∧ k ≤ d (108, 0) b.toNatClampNeg) ∧ ¬ (¬ d (113, 0) b.toNatClampNeg = -1 ∧ ¬ d (113, 0) b.toNatClampNeg = d (100, 0) 0 ∧ d (100, 0) 0 - d (113, 0) b.toNatClampNeg < d (110, 0) b.toNatClampNeg)) := by
    by_cases hb : ix_ok b nb
    · obtain ⟨⟨e1, e2, e3, e4, e5, e6⟩, s1, s2⟩ := p2.2 _ (ix_lt hb (by omega))
      rw [e1, e3, e6, ey]
    · exact ⟨fun z => absurd z.1 hb, fun z => absurd z.1 hb⟩
  refine (m_X11_dig G hX b k).imp (fun q w1 h => ⟨?_, ?_⟩)
  · have hs : ∀ {T : z_T → Option r_sh} {c' : r_c} {l' : r_l} {r' : r_r}, r_p dX T w c' l' r' w1 → ∀ tt, ¬ dX tt → w1 tt = w tt := fun z => z.2
    first
    | exact fun _ _ => congrFun h.2 _
    | exact hs h.2
    | (obtain ⟨_, c1, _, z⟩ := h; exact hs z)
    | (refine z_ifq h (fun _ h => ?_) (fun _ h => ?_) <;> first | exact fun _ _ => congrFun h.2 _ | exact hs h.2 | (obtain ⟨_, c1, z, _⟩ := h; exact hs z) | (obtain ⟨_, c1, l1, z, _⟩ := h; exact hs z) | (obtain ⟨_, g1, c1, l1, z, _⟩ := h; exact hs z) | (obtain ⟨_, c1, _, _, _, z⟩ := h; exact hs z))
  by_cases hA : ix_ok b nb ∧ (1 ≤ k ∧ k ≤ c (2, b.toNatClampNeg) 0) ∧ ¬ (¬ c (2, b.toNatClampNeg) 5 = -1 ∧ ¬ c (2, b.toNatClampNeg) 5 = c (0, 0) 0 ∧ c (0, 0) 0 - c (2, b.toNatClampNeg) 5 < c (2, b.toNatClampNeg) 2)
  · rw [if_pos hA] at h
    obtain ⟨hq, hX1⟩ := h
    refine (m_X12_dig G (kM hX1 hM) nb p2.1 bnb b k).imp (fun q2 w2 h2 => ?_)
    rw [if_pos (hE.mp hA)] at h2
    obtain ⟨hq2, hM1⟩ := h2
    have hb := ix_lt hA.1 (show nb < 2 ^ 31 by omega)
    obtain ⟨⟨e1, e2, e3, e4, e5, e6⟩, ⟨oo, o1, o2⟩, s2⟩ := p2.2 _ hb
    have ye : d (114, 0) b.toNatClampNeg = c (4, 0) b.toNatClampNeg := by rw [p3.2.1 _ (by omega), p3.1]
    obtain ⟨kk, k1, k2⟩ : ∃ kk, kk ≤ oo ∧ k = nI kk := by
      obtain ⟨kk, k1, k2⟩ := nI_of (pos_1 hA.2.1.1)
      have k3 := hA.2.1.2
      rw [o2, k2] at k3
      exact ⟨kk, (nI_leI k1 (by omega)).mp k3, k2⟩
    have k9 : c (2, b.toNatClampNeg) 0 - k = nI (oo - kk) := by rw [o2, k2, pk_sub k1]
    have fX : frX [2, 4] [] c (r_cs (r_cs (r_cs c (2, b.toNatClampNeg) 0 (c (2, b.toNatClampNeg) 0 - k)) (2, b.toNatClampNeg) 5 (c (0, 0) 0)) (4, 0) b.toNatClampNeg (c (4, 0) b.toNatClampNeg + k)) := ((frX.rf.cs (by simp) (by simp)).cs (by simp) (by simp)).cs (by simp) (by simp)
    have fM : frM [108, 113, 114] [] d (r_cs (r_cs (r_cs d (108, 0) b.toNatClampNeg (d (108, 0) b.toNatClampNeg - k)) (114, 0) b.toNatClampNeg (d (114, 0) b.toNatClampNeg + k)) (113, 0) b.toNatClampNeg (d (100, 0) 0)) := ((frM.rf.cs (by simp) (by simp)).cs (by simp) (by simp)).cs (by simp) (by simp)
    refine kq_com hX hX1 hM1 fX rfl ?_ hq (hq2.trans (by rw [ye]))
    refine ⟨y, nc, nt, nr, nl, no, bu, mi, pu yo b.toNatClampNeg kk, yc, ra, bl, ch, u, p1.tr fX fM (by decide), ?_, ?_, p4.tr fX fM (Nat.le_refl _) (Nat.le_succ _) (by decide), p5.tr fX fM (by decide), p6.tr fX fM (by decide), p7.tr fX fM (Nat.le_refl _) (by decide), p8.tr fX fM (by decide), p9.tr fX fM (Nat.le_refl _) (Nat.le_succ _) (by decide), p10.tr fX fM (congrFun (fX.1 (35, 0) (by decide) (by decide)) 3) (by decide)⟩
    · refine ⟨(fM.ix (A := [1]) (by decide) (by simp)).trans p2.1, fun i hi => ?_⟩
      by_cases e : i = b.toNatClampNeg
      · subst e
        simp [r_cs_at, e1, e2, e3, e4, e5, e6, s2, ey, k9]
        exact ⟨oo - kk, by omega, rfl⟩
      · obtain ⟨⟨e1, e2, e3, e4, e5, e6⟩, s1, s2⟩ := p2.2 i hi
        simp [r_cs_at, e, e1, e2, e3, e4, e5, e6, s1, s2]
    · obtain ⟨y1, y2, y3, y4, y5, y6, y7⟩ := p3
      refine ⟨fun i => ?_, fun i hi => ?_, by rw [pu_sm, if_pos (by omega)]; omega, fun i hi => by rw [pu, if_neg (by omega)]; exact y4 i hi, fun i => by simp [r_cs_at, y5], fun i hi => by simp [r_cs_at, y6 i hi], y7⟩
      · by_cases e : i = b.toNatClampNeg
        · subst e; simp [r_cs_at, pu, y1, k2, nI_add]
        · simp [r_cs_at, e, pu, y1]
      · by_cases e : i = b.toNatClampNeg
        · subst e; simp [r_cs_at, pu, y2 _ hi, k2, nI_add]
        · simp [r_cs_at, e, pu, y2 _ hi]
  · rw [if_neg hA] at h
    obtain ⟨hq, hw⟩ := h
    subst hw
    refine (m_X12_dig G hM nb p2.1 bnb b k).imp (fun q2 w2 h2 => ?_)
    rw [if_neg (fun z => hA (hE.mpr z))] at h2
    obtain ⟨hq2, hw⟩ := h2
    subst hw
    exact kq_same hX hM hC0 hq hq2
theorem k_coal (G : z_G) {t gX gM : Nat} {w : z_w} (hL : KS t gX gM w) (x k : Int32) : z_M G yX11_coal cX11_coal 3 (some .int) 2 (0) (0) [vr (0, 0), vi x, vi k] w (fun q w1 => (∀ tt, ¬ dX tt → w1 tt = w tt) ∧ z_M G yX12_coal cX12_coal 3 (some .int) 2 (0) (0) [vr (100, 0), vi x, vi k] w1 (KQ (t + 1) gX gM q)) := by
  obtain ⟨nb, na, np, c, l, r, d, lM, rM, hX, hM, hC⟩ := hL
  have hC0 := hC
  obtain ⟨y, nc, nt, nr, nl, no, bu, mi, yo, yc, ra, bl, ch, u, p1, p2, p3, p4, p5, p6, p7, p8, p9, p10⟩ := hC
  obtain ⟨bnb, bna, bnp, bgX⟩ : nb ≤ 12 ∧ na ≤ 100 ∧ np ≤ 60 ∧ gX ≤ 6 := ⟨hX.2.1, hX.2.2.1, hX.2.2.2.1, hX.2.2.2.2.1⟩
  have hE : ((1 ≤ k ∧ k ≤ 10000) ∧ ix_ok x 8 ∧ c (5, 0) x.toNatClampNeg + k ≤ 1000000) ↔ (ix_ok x 8 ∧ (1 ≤ k ∧ k ≤ 10000) ∧ d (115, 0) x.toNatClampNeg + k ≤ 1000000) := by
    by_cases hb : ix_ok x 8
    · rw [show d (115, 0) x.toNatClampNeg = c (5, 0) x.toNatClampNeg by rw [p3.2.2.2.2.2.1 _ (ix_lt hb (by omega)), p3.2.2.2.2.1]]
      exact ⟨fun z => ⟨z.2.1, z.1, z.2.2⟩, fun z => ⟨z.2.1, z.1, z.2.2⟩⟩
    · exact ⟨fun z => absurd z.2.1 hb, fun z => absurd z.1 hb⟩
  refine (m_X11_coal G hX x k).imp (fun q w1 h => ⟨?_, ?_⟩)
  · have hs : ∀ {T : z_T → Option r_sh} {c' : r_c} {l' : r_l} {r' : r_r}, r_p dX T w c' l' r' w1 → ∀ tt, ¬ dX tt → w1 tt = w tt := fun z => z.2
    first
    | exact fun _ _ => congrFun h.2 _
    | exact hs h.2
    | (obtain ⟨_, c1, _, z⟩ := h; exact hs z)
    | (refine z_ifq h (fun _ h => ?_) (fun _ h => ?_) <;> first | exact fun _ _ => congrFun h.2 _ | exact hs h.2 | (obtain ⟨_, c1, z, _⟩ := h; exact hs z) | (obtain ⟨_, c1, l1, z, _⟩ := h; exact hs z) | (obtain ⟨_, g1, c1, l1, z, _⟩ := h; exact hs z) | (obtain ⟨_, c1, _, _, _, z⟩ := h; exact hs z))
  by_cases hA : (1 ≤ k ∧ k ≤ 10000) ∧ ix_ok x 8 ∧ c (5, 0) x.toNatClampNeg + k ≤ 1000000
  · rw [if_pos hA] at h
    obtain ⟨hq, hX1⟩ := h
    refine (m_X12_coal G (kM hX1 hM) x k).imp (fun q2 w2 h2 => ?_)
    rw [if_pos (hE.mp hA)] at h2
    obtain ⟨hq2, hM1⟩ := h2
    obtain ⟨y1, y2, y3, y4, y5, y6, y7⟩ := p3
    have hb := ix_lt hA.2.1 (show 8 < 2 ^ 31 by omega)
    have ye : d (115, 0) x.toNatClampNeg = c (5, 0) x.toNatClampNeg := by rw [y6 _ hb, y5]
    obtain ⟨kk, k1, k2⟩ := nI_of2 (n := 10000) (by decide) (pos_1 hA.1.1) hA.1.2
    have y9 := y7 x.toNatClampNeg
    have k3 : yc x.toNatClampNeg + kk ≤ 1000000 := by
      have z := hA.2.2
      rw [y5, k2, nI_add] at z
      exact (nI_leI (by omega) (by decide)).mp z
    have fX : frX [5] [] c (r_cs c (5, 0) x.toNatClampNeg (c (5, 0) x.toNatClampNeg + k)) := frX.rf.cs (by simp) (by simp)
    have fM : frM [115] [] d (r_cs d (115, 0) x.toNatClampNeg (d (115, 0) x.toNatClampNeg + k)) := frM.rf.cs (by simp) (by simp)
    refine kq_com hX hX1 hM1 fX rfl ?_ hq (hq2.trans (by rw [ye]))
    refine ⟨y, nc, nt, nr, nl, no, bu, mi, yo, pu yc x.toNatClampNeg kk, ra, bl, ch, u, p1.tr fX fM (by decide), p2.tr fX fM (by decide), ?_, p4.tr fX fM (Nat.le_refl _) (Nat.le_succ _) (by decide), p5.tr fX fM (by decide), p6.tr fX fM (by decide), p7.tr fX fM (Nat.le_refl _) (by decide), p8.tr fX fM (by decide), p9.tr fX fM (Nat.le_refl _) (Nat.le_succ _) (by decide), p10.tr fX fM (congrFun (fX.1 (35, 0) (by decide) (by decide)) 3) (by decide)⟩
    · refine ⟨fun i => by simp [r_cs_at, y1], fun i hi => by simp [r_cs_at, y2 i hi], by omega, y4, fun i => ?_, fun i hi => ?_, fun i => ?_⟩
      · by_cases e : i = x.toNatClampNeg
        · subst e; simp [r_cs_at, pu, y5, k2, nI_add]
        · simp [r_cs_at, e, pu, y5]
      · by_cases e : i = x.toNatClampNeg
        · subst e; simp [r_cs_at, pu, y6 _ hi, k2, nI_add]
        · simp [r_cs_at, e, pu, y6 _ hi]
      · have := y7 i
        rw [pu]; split
        · rename_i e; subst e; exact k3
        · exact this
  · rw [if_neg hA] at h
    obtain ⟨hq, hw⟩ := h
    subst hw
    refine (m_X12_coal G hM x k).imp (fun q2 w2 h2 => ?_)
    rw [if_neg (fun z => hA (hE.mpr z))] at h2
    obtain ⟨hq2, hw⟩ := h2
    subst hw
    exact kq_same hX hM hC0 hq hq2
theorem k_end (G : z_G) {t gX gM : Nat} {w : z_w} (hL : KS t gX gM w) (x : Int32) : z_M G yX11_end cX11_end 2 (some .boolean) 2 (0) (0) [vr (0, 0), vi x] w (fun q w1 => (∀ tt, ¬ dX tt → w1 tt = w tt) ∧ z_M G yX12_end cX12_end 2 (some .boolean) 1 (0) (0) [vr (100, 0), vi x] w1 (KQ (t + 1) gX gM q)) := by
  obtain ⟨nb, na, np, c, l, r, d, lM, rM, hX, hM, hC⟩ := hL
  have hC0 := hC
  obtain ⟨y, nc, nt, nr, nl, no, bu, mi, yo, yc, ra, bl, ch, u, p1, p2, p3, p4, p5, p6, p7, p8, p9, p10⟩ := hC
  obtain ⟨bnb, bna, bnp, bgX⟩ : nb ≤ 12 ∧ na ≤ 100 ∧ np ≤ 60 ∧ gX ≤ 6 := ⟨hX.2.1, hX.2.2.1, hX.2.2.2.1, hX.2.2.2.2.1⟩
  have hE : (0 ≤ x ∧ x ≤ c (6, 0) 1) ↔ (0 ≤ x ∧ x ≤ d (100, 0) 32) := by
    rw [p6.1, p6.2.2.1]
  refine (m_X11_end G hX x).imp (fun q w1 h => ⟨?_, ?_⟩)
  · have hs : ∀ {T : z_T → Option r_sh} {c' : r_c} {l' : r_l} {r' : r_r}, r_p dX T w c' l' r' w1 → ∀ tt, ¬ dX tt → w1 tt = w tt := fun z => z.2
    first
    | exact fun _ _ => congrFun h.2 _
    | exact hs h.2
    | (obtain ⟨_, c1, _, z⟩ := h; exact hs z)
    | (refine z_ifq h (fun _ h => ?_) (fun _ h => ?_) <;> first | exact fun _ _ => congrFun h.2 _ | exact hs h.2 | (obtain ⟨_, c1, z, _⟩ := h; exact hs z) | (obtain ⟨_, c1, l1, z, _⟩ := h; exact hs z) | (obtain ⟨_, g1, c1, l1, z, _⟩ := h; exact hs z) | (obtain ⟨_, c1, _, _, _, z⟩ := h; exact hs z))
  by_cases hA : 0 ≤ x ∧ x ≤ c (6, 0) 1
  · rw [if_pos hA] at h
    obtain ⟨hq, hX1⟩ := h
    refine (m_X12_end G (kM hX1 hM) x).imp (fun q2 w2 h2 => ?_)
    rw [if_pos (hE.mp hA)] at h2
    obtain ⟨hq2, hM1⟩ := h2
    obtain ⟨kk, k1, k2⟩ := nI_of (pos_0 hA.1)
    have k3 := hA.2
    rw [p6.1, k2] at k3
    have k4 := (nI_leI k1 (by have := p6.2.1; omega)).mp k3
    have fX : frX [6] [] c (r_cs c (6, 0) 1 x) := frX.rf.cs (by simp) (by simp)
    have fM : frM [] [32] d (r_cs d (100, 0) 32 x) := frM.rf.c0 (by simp)
    refine kq_com hX hX1 hM1 fX rfl ?_ hq (hq2)
    refine ⟨y, nc, kk, nr, nl, no, bu, mi, yo, yc, ra, bl, ch, u, p1.tr fX fM (by decide), p2.tr fX fM (by decide), p3.tr fX fM (Nat.le_refl _) (Nat.le_succ _) (by decide), p4.tr fX fM (Nat.le_refl _) (Nat.le_succ _) (by decide), p5.tr fX fM (by decide), ?_, p7.tr fX fM (Nat.le_refl _) (by decide), p8.tr fX fM (by decide), p9.tr fX fM (Nat.le_refl _) (Nat.le_succ _) (by decide), p10.tr fX fM (congrFun (fX.1 (35, 0) (by decide) (by decide)) 3) (by decide)⟩
    · obtain ⟨t1, t2, t3, t4, t5⟩ := p6
      exact ⟨by simp [r_cs_at, k2], by omega, by simp [r_cs_at, k2], by rw [r_cs, r_cs, r_cf_ne (by simp), r_cf_ne (by simp)]; exact t4, by rw [r_cs, r_cf_ne (by simp)]; exact t5⟩
  · rw [if_neg hA] at h
    obtain ⟨hq, hw⟩ := h
    subst hw
    refine (m_X12_end G hM x).imp (fun q2 w2 h2 => ?_)
    rw [if_neg (fun z => hA (hE.mpr z))] at h2
    obtain ⟨hq2, hw⟩ := h2
    subst hw
    exact kq_same hX hM hC0 hq hq2
theorem k_right (G : z_G) {t gX gM : Nat} {w : z_w} (hL : KS t gX gM w) (b h_ p f : Int32) : z_M G yX11_right cX11_right 5 (some .boolean) 2 (0) (0) [vr (0, 0), vi b, vi h_, vi p, vi f] w (fun q w1 => (∀ tt, ¬ dX tt → w1 tt = w tt) ∧ z_M G yX12_right cX12_right 5 (some .boolean) 3 (0) (0) [vr (100, 0), vi b, vi h_, vi p, vi f] w1 (KQ (t + 1) gX gM q)) := by
  obtain ⟨nb, na, np, c, l, r, d, lM, rM, hX, hM, hC⟩ := hL
  have hC0 := hC
  obtain ⟨y, nc, nt, nr, nl, no, bu, mi, yo, yc, ra, bl, ch, u, p1, p2, p3, p4, p5, p6, p7, p8, p9, p10⟩ := hC
  obtain ⟨bnb, bna, bnp, bgX⟩ : nb ≤ 12 ∧ na ≤ 100 ∧ np ≤ 60 ∧ gX ≤ 6 := ⟨hX.2.1, hX.2.2.1, hX.2.2.2.1, hX.2.2.2.2.1⟩
  have hE : (ix_ok b nb ∧ (0 ≤ h_ ∧ h_ ≤ 7) ∧ (0 ≤ p ∧ p ≤ 100) ∧ (0 ≤ f ∧ f ≤ 200) ∧ nr < 100) ↔ ((ix_ok b nb ∧ (0 ≤ h_ ∧ h_ ≤ 7) ∧ (0 ≤ p ∧ p ≤ 100) ∧ (0 ≤ f ∧ f ≤ 200)) ∧ nr < 100) := by
    exact ⟨fun z => ⟨⟨z.1, z.2.1, z.2.2.1, z.2.2.2.1⟩, z.2.2.2.2⟩, fun z => ⟨z.1.1, z.1.2.1, z.1.2.2.1, z.1.2.2.2, z.2⟩⟩
  refine (m_X11_right G hX b h_ p f nr p8.1 p8.2.1).imp (fun q w1 h => ⟨?_, ?_⟩)
  · have hs : ∀ {T : z_T → Option r_sh} {c' : r_c} {l' : r_l} {r' : r_r}, r_p dX T w c' l' r' w1 → ∀ tt, ¬ dX tt → w1 tt = w tt := fun z => z.2
    first
    | exact fun _ _ => congrFun h.2 _
    | exact hs h.2
    | (obtain ⟨_, c1, _, z⟩ := h; exact hs z)
    | (refine z_ifq h (fun _ h => ?_) (fun _ h => ?_) <;> first | exact fun _ _ => congrFun h.2 _ | exact hs h.2 | (obtain ⟨_, c1, z, _⟩ := h; exact hs z) | (obtain ⟨_, c1, l1, z, _⟩ := h; exact hs z) | (obtain ⟨_, g1, c1, l1, z, _⟩ := h; exact hs z) | (obtain ⟨_, c1, _, _, _, z⟩ := h; exact hs z))
  by_cases hA : ix_ok b nb ∧ (0 ≤ h_ ∧ h_ ≤ 7) ∧ (0 ≤ p ∧ p ≤ 100) ∧ (0 ≤ f ∧ f ≤ 200) ∧ nr < 100
  · rw [if_pos hA] at h
    obtain ⟨hq, hX1⟩ := h
    refine (m_X12_right G (kM hX1 hM) nb p2.1 bnb nr p8.2.2.1 p8.2.1 b h_ p f).imp (fun q2 w2 h2 => ?_)
    rw [if_pos (hE.mp hA)] at h2
    obtain ⟨hq2, hM1⟩ := h2
    obtain ⟨pp, q1, q2⟩ := nI_of2 (n := 100) (by decide) (pos_0 hA.2.2.1.1) hA.2.2.1.2
    have fX : frX [21, 22, 23, 24, 25] [] c (r_cs (r_cs (r_cs (r_cs (r_cs c (22, 0) nr b) (23, 0) nr h_) (24, 0) nr p) (25, 0) nr f) (21, 0) 4 (nI (nr + 1))) := ((((frX.rf.cs (by simp) (by simp)).cs (by simp) (by simp)).cs (by simp) (by simp)).cs (by simp) (by simp)).cs (by simp) (by simp)
    have fM : frM [151, 152, 153, 154] [6] d (r_cs (r_cs (r_cs (r_cs (r_cs d (151, 0) nr b) (152, 0) nr h_) (153, 0) nr p) (154, 0) nr f) (100, 0) 6 (nI (nr + 1))) := ((((frM.rf.cs (by simp) (by simp)).cs (by simp) (by simp)).cs (by simp) (by simp)).cs (by simp) (by simp)).c0 (by simp)
    refine kq_com hX hX1 hM1 fX rfl ?_ hq (hq2)
    refine ⟨y, nc, nt, nr + 1, nl, no, bu, mi, yo, yc, ra, bl, ch, u, p1.tr fX fM (by decide), p2.tr fX fM (by decide), p3.tr fX fM (Nat.le_refl _) (Nat.le_succ _) (by decide), p4.tr fX fM (Nat.le_refl _) (Nat.le_succ _) (by decide), p5.tr fX fM (by decide), p6.tr fX fM (by decide), p7.tr fX fM (Nat.le_refl _) (by decide), ?_, p9.tr fX fM (Nat.le_refl _) (Nat.le_succ _) (by decide), p10.tr fX fM (congrFun (fX.1 (35, 0) (by decide) (by decide)) 3) (by decide)⟩
    · obtain ⟨r1, r2, r3, r4⟩ := p8
      refine ⟨by simp [r_cs_at], by omega, by simp [r_cs_at], fun i hi => ?_⟩
      by_cases e : i = nr
      · subst e; simp [r_cs_at]; exact ⟨pp, q1, q2⟩
      · obtain ⟨⟨a1, a2, a3, a4⟩, a5⟩ := r4 i (by omega)
        simp [r_cs_at, e, a1, a2, a3, a4, a5]
  · rw [if_neg hA] at h
    obtain ⟨hq, hw⟩ := h
    subst hw
    refine (m_X12_right G hM nb p2.1 bnb nr p8.2.2.1 p8.2.1 b h_ p f).imp (fun q2 w2 h2 => ?_)
    rw [if_neg (fun z => hA (hE.mpr z))] at h2
    obtain ⟨hq2, hw⟩ := h2
    subst hw
    exact kq_same hX hM hC0 hq hq2
theorem k_order (G : z_G) {t gX gM : Nat} {w : z_w} (hL : KS t gX gM w) (so le : Int32) : z_M G yX11_order cX11_order 3 (some .int) 2 (0) (0) [vr (0, 0), vi so, vi le] w (fun q w1 => (∀ tt, ¬ dX tt → w1 tt = w tt) ∧ z_M G yX12_order cX12_order 3 (some .int) 2 (0) (0) [vr (100, 0), vi so, vi le] w1 (KQ (t + 1) gX gM q)) := by
  obtain ⟨nb, na, np, c, l, r, d, lM, rM, hX, hM, hC⟩ := hL
  have hC0 := hC
  obtain ⟨y, nc, nt, nr, nl, no, bu, mi, yo, yc, ra, bl, ch, u, p1, p2, p3, p4, p5, p6, p7, p8, p9, p10⟩ := hC
  obtain ⟨bnb, bna, bnp, bgX⟩ : nb ≤ 12 ∧ na ≤ 100 ∧ np ≤ 60 ∧ gX ≤ 6 := ⟨hX.2.1, hX.2.2.1, hX.2.2.2.1, hX.2.2.2.2.1⟩
  have hE : ((0 ≤ so ∧ so ≤ 2) ∧ (0 ≤ le ∧ le ≤ 100000) ∧ no < 8) ↔ ((0 ≤ so ∧ so ≤ 2) ∧ (0 ≤ le ∧ le ≤ 100000) ∧ no < 8) := by
    exact Iff.rfl
  refine (m_X11_order G hX no p10.1 p10.2.1 so le).imp (fun q w1 h => ⟨?_, ?_⟩)
  · have hs : ∀ {T : z_T → Option r_sh} {c' : r_c} {l' : r_l} {r' : r_r}, r_p dX T w c' l' r' w1 → ∀ tt, ¬ dX tt → w1 tt = w tt := fun z => z.2
    first
    | exact fun _ _ => congrFun h.2 _
    | exact hs h.2
    | (obtain ⟨_, c1, _, z⟩ := h; exact hs z)
    | (refine z_ifq h (fun _ h => ?_) (fun _ h => ?_) <;> first | exact fun _ _ => congrFun h.2 _ | exact hs h.2 | (obtain ⟨_, c1, z, _⟩ := h; exact hs z) | (obtain ⟨_, c1, l1, z, _⟩ := h; exact hs z) | (obtain ⟨_, g1, c1, l1, z, _⟩ := h; exact hs z) | (obtain ⟨_, c1, _, _, _, z⟩ := h; exact hs z))
  by_cases hA : (0 ≤ so ∧ so ≤ 2) ∧ (0 ≤ le ∧ le ≤ 100000) ∧ no < 8
  · rw [if_pos hA] at h
    obtain ⟨hq, hX1⟩ := h
    refine (m_X12_order G (kM hX1 hM) no p10.2.2.1 p10.2.1 so le).imp (fun q2 w2 h2 => ?_)
    rw [if_pos (hE.mp hA)] at h2
    obtain ⟨hq2, hM1⟩ := h2
    have fX : frX [35, 36, 37] [] c (r_cs (r_cs (r_cs c (36, 0) no so) (37, 0) no le) (35, 0) 3 (nI (no + 1))) := ((frX.rf.cs (by simp) (by simp)).cs (by simp) (by simp)).cs (by simp) (by simp)
    have fM : frM [164, 165] [5] d (r_cs (r_cs (r_cs d (164, 0) no so) (165, 0) no le) (100, 0) 5 (nI (no + 1))) := ((frM.rf.cs (by simp) (by simp)).cs (by simp) (by simp)).c0 (by simp)
    refine kq_com hX hX1 hM1 fX rfl ?_ hq (hq2)
    refine ⟨y, nc, nt, nr, nl, no + 1, bu, mi, yo, yc, ra, bl, ch, u, p1.tr fX fM (by decide), p2.tr fX fM (by decide), p3.tr fX fM (Nat.le_refl _) (Nat.le_succ _) (by decide), p4.tr fX fM (Nat.le_refl _) (Nat.le_succ _) (by decide), p5.tr fX fM (by decide), p6.tr fX fM (by decide), p7.tr fX fM (Nat.le_refl _) (by decide), p8.tr fX fM (by decide), p9.tr fX fM (Nat.le_refl _) (Nat.le_succ _) (by decide), ?_⟩
    · obtain ⟨r1, r2, r3, r4⟩ := p10
      refine ⟨by simp [r_cs_at], by omega, by simp [r_cs_at], fun i hi => ?_⟩
      by_cases e : i = no
      · subst e; simp [r_cs_at]
      · obtain ⟨a1, a2⟩ := r4 i (by omega)
        simp [r_cs_at, e, a1, a2]
  · rw [if_neg hA] at h
    obtain ⟨hq, hw⟩ := h
    subst hw
    refine (m_X12_order G hM no p10.2.2.1 p10.2.1 so le).imp (fun q2 w2 h2 => ?_)
    rw [if_neg (fun z => hA (hE.mpr z))] at h2
    obtain ⟨hq2, hw⟩ := h2
    subst hw
    exact kq_same hX hM hC0 hq hq2
theorem k_bar (G : z_G) {t gX gM : Nat} {w : z_w} (hL : KS t gX gM w) (b x : Int32) : z_M G yX11_bar cX11_bar 4 (some .int) 3 (0) (0) [vr (0, 0), vi b, vi x] w (fun q w1 => (∀ tt, ¬ dX tt → w1 tt = w tt) ∧ z_M G yX12_bar cX12_bar 6 (some .int) 3 (0) (0) [vr (100, 0), vi b, vi x] w1 (KQ (t + 1) gX gM q)) := by
  obtain ⟨nb, na, np, c, l, r, d, lM, rM, hX, hM, hC⟩ := hL
  have hC0 := hC
  obtain ⟨y, nc, nt, nr, nl, no, bu, mi, yo, yc, ra, bl, ch, u, p1, p2, p3, p4, p5, p6, p7, p8, p9, p10⟩ := hC
  obtain ⟨bnb, bna, bnp, bgX⟩ : nb ≤ 12 ∧ na ≤ 100 ∧ np ≤ 60 ∧ gX ≤ 6 := ⟨hX.2.1, hX.2.2.1, hX.2.2.2.1, hX.2.2.2.2.1⟩
  refine (m_X11_bar G hX b x).imp (fun q w1 h => ⟨?_, ?_⟩)
  · have hs : ∀ {T : z_T → Option r_sh} {c' : r_c} {l' : r_l} {r' : r_r}, r_p dX T w c' l' r' w1 → ∀ tt, ¬ dX tt → w1 tt = w tt := fun z => z.2
    first
    | exact fun _ _ => congrFun h.2 _
    | exact hs h.2
    | (obtain ⟨_, c1, _, z⟩ := h; exact hs z)
    | (refine z_ifq h (fun _ h => ?_) (fun _ h => ?_) <;> first | exact fun _ _ => congrFun h.2 _ | exact hs h.2 | (obtain ⟨_, c1, z, _⟩ := h; exact hs z) | (obtain ⟨_, c1, l1, z, _⟩ := h; exact hs z) | (obtain ⟨_, g1, c1, l1, z, _⟩ := h; exact hs z) | (obtain ⟨_, c1, _, _, _, z⟩ := h; exact hs z))
  obtain ⟨hq, hw⟩ := h
  subst hw
  refine (m_X12_bar G hM na p7.1 bna b x).imp (fun q2 w2 h2 => ?_)
  obtain ⟨hq2, hw⟩ := h2
  subst hw
  refine kq_same hX hM hC0 hq (hq2.trans (congrArg (fun z => some (vi z)) ?_))
  by_cases hb : ix_ok b na
  · rw [if_pos hb, if_pos hb]
    obtain ⟨a1, a2, ⟨b1, b2, b3, b4, b5⟩, oo, o1, o2, o3⟩ := p7.2.1 _ (ix_lt hb (by omega))
    have z1 : z_sum (fun k => d (144, 0) (12 * b.toNatClampNeg + k)) 12 = z_sum (c (19, b.toNatClampNeg)) 12 := (z_sum_nI (fun i hi => (a1 i hi).trans (o1 i hi))).trans (z_sum_nI o1).symm
    have z2 : z_sum (fun k => d (145, 0) (8 * b.toNatClampNeg + k)) 8 = z_sum (c (20, b.toNatClampNeg)) 8 := z_sum_cg a2
    rw [b1, b2, b3, b4, b5, z1, z2]
  · rw [if_neg hb, if_neg hb]
theorem k_part (G : z_G) {t gX gM : Nat} {w : z_w} (hL : KS t gX gM w) (b x : Int32) : z_M G yX11_part cX11_part 4 (some .int) 2 (0) (0) [vr (0, 0), vi b, vi x] w (fun q w1 => (∀ tt, ¬ dX tt → w1 tt = w tt) ∧ z_M G yX12_part cX12_part 3 (some .int) 3 (0) (0) [vr (100, 0), vi b, vi x] w1 (KQ (t + 1) gX gM q)) := by
  obtain ⟨nb, na, np, c, l, r, d, lM, rM, hX, hM, hC⟩ := hL
  have hC0 := hC
  obtain ⟨y, nc, nt, nr, nl, no, bu, mi, yo, yc, ra, bl, ch, u, p1, p2, p3, p4, p5, p6, p7, p8, p9, p10⟩ := hC
  obtain ⟨bnb, bna, bnp, bgX⟩ : nb ≤ 12 ∧ na ≤ 100 ∧ np ≤ 60 ∧ gX ≤ 6 := ⟨hX.2.1, hX.2.2.1, hX.2.2.2.1, hX.2.2.2.2.1⟩
  refine (m_X11_part G hX b x).imp (fun q w1 h => ⟨?_, ?_⟩)
  · have hs : ∀ {T : z_T → Option r_sh} {c' : r_c} {l' : r_l} {r' : r_r}, r_p dX T w c' l' r' w1 → ∀ tt, ¬ dX tt → w1 tt = w tt := fun z => z.2
    first
    | exact fun _ _ => congrFun h.2 _
    | exact hs h.2
    | (obtain ⟨_, c1, _, z⟩ := h; exact hs z)
    | (refine z_ifq h (fun _ h => ?_) (fun _ h => ?_) <;> first | exact fun _ _ => congrFun h.2 _ | exact hs h.2 | (obtain ⟨_, c1, z, _⟩ := h; exact hs z) | (obtain ⟨_, c1, l1, z, _⟩ := h; exact hs z) | (obtain ⟨_, g1, c1, l1, z, _⟩ := h; exact hs z) | (obtain ⟨_, c1, _, _, _, z⟩ := h; exact hs z))
  obtain ⟨hq, hw⟩ := h
  subst hw
  refine (m_X12_part G hM nb p2.1 bnb na p7.1 bna b x).imp (fun q2 w2 h2 => ?_)
  obtain ⟨hq2, hw⟩ := h2
  subst hw
  refine kq_same hX hM hC0 hq (hq2.trans (congrArg (fun z => some (vi z)) ?_))
  by_cases hb : ix_ok b na
  · rw [if_pos hb]
    obtain ⟨a1, a2, a3, oo, o1, o2, o3⟩ := p7.2.1 _ (ix_lt hb (by omega))
    by_cases hx : ix_ok x nb
    · have hx2 := ix_lt hx (by omega)
      have hx3 : ix_ok x 12 := by rw [ix_eq hx]; exact ix_of (by omega) (by omega)
      rw [if_pos ⟨hb, hx⟩, if_pos ⟨hx3.1, hx3.2⟩, a1 _ (by omega)]
    · rw [if_neg (fun z => hx z.2)]
      by_cases hx3 : ix_ok x 12
      · rw [if_pos ⟨hx3.1, hx3.2⟩, o1 _ (ix_lt hx3 (by omega)), o3 _ (Nat.le_of_not_lt (fun z => hx (by rw [ix_eq hx3]; exact ix_of z (by omega))))]; rfl
      · rw [if_neg (fun z => hx3 ⟨z.1, z.2⟩)]
  · rw [if_neg hb, if_neg (fun z => hb z.1)]
theorem k_burnt (G : z_G) {t gX gM : Nat} {w : z_w} (hL : KS t gX gM w) (b x : Int32) : z_M G yX11_burnt cX11_burnt 4 (some .int) 2 (0) (0) [vr (0, 0), vi b, vi x] w (fun q w1 => (∀ tt, ¬ dX tt → w1 tt = w tt) ∧ z_M G yX12_burnt cX12_burnt 3 (some .int) 3 (0) (0) [vr (100, 0), vi b, vi x] w1 (KQ (t + 1) gX gM q)) := by
  obtain ⟨nb, na, np, c, l, r, d, lM, rM, hX, hM, hC⟩ := hL
  have hC0 := hC
  obtain ⟨y, nc, nt, nr, nl, no, bu, mi, yo, yc, ra, bl, ch, u, p1, p2, p3, p4, p5, p6, p7, p8, p9, p10⟩ := hC
  obtain ⟨bnb, bna, bnp, bgX⟩ : nb ≤ 12 ∧ na ≤ 100 ∧ np ≤ 60 ∧ gX ≤ 6 := ⟨hX.2.1, hX.2.2.1, hX.2.2.2.1, hX.2.2.2.2.1⟩
  refine (m_X11_burnt G hX b x).imp (fun q w1 h => ⟨?_, ?_⟩)
  · have hs : ∀ {T : z_T → Option r_sh} {c' : r_c} {l' : r_l} {r' : r_r}, r_p dX T w c' l' r' w1 → ∀ tt, ¬ dX tt → w1 tt = w tt := fun z => z.2
    first
    | exact fun _ _ => congrFun h.2 _
    | exact hs h.2
    | (obtain ⟨_, c1, _, z⟩ := h; exact hs z)
    | (refine z_ifq h (fun _ h => ?_) (fun _ h => ?_) <;> first | exact fun _ _ => congrFun h.2 _ | exact hs h.2 | (obtain ⟨_, c1, z, _⟩ := h; exact hs z) | (obtain ⟨_, c1, l1, z, _⟩ := h; exact hs z) | (obtain ⟨_, g1, c1, l1, z, _⟩ := h; exact hs z) | (obtain ⟨_, c1, _, _, _, z⟩ := h; exact hs z))
  obtain ⟨hq, hw⟩ := h
  subst hw
  refine (m_X12_burnt G hM na p7.1 bna b x).imp (fun q2 w2 h2 => ?_)
  obtain ⟨hq2, hw⟩ := h2
  subst hw
  refine kq_same hX hM hC0 hq (hq2.trans (congrArg (fun z => some (vi z)) ?_))
  by_cases hb : ix_ok b na
  · rw [if_pos hb]
    obtain ⟨a1, a2, a3, oo, o1, o2, o3⟩ := p7.2.1 _ (ix_lt hb (by omega))
    by_cases hx : ix_ok x 8
    · rw [if_pos ⟨hb, hx⟩, if_pos ⟨hx.1, hx.2⟩, a2 _ (ix_lt hx (by omega))]
    · rw [if_neg (fun z => hx z.2), if_neg (fun z => hx ⟨z.1, z.2⟩)]
  · rw [if_neg hb, if_neg (fun z => hb z.1)]
theorem k_line (G : z_G) {t gX gM : Nat} {w : z_w} (hL : KS t gX gM w) (ht : t ≤ 511) (i x : Int32) : z_M G yX11_line cX11_line 3 (some .int) 2 (0) (0) [vr (0, 0), vi i, vi x] w (fun q w1 => (∀ tt, ¬ dX tt → w1 tt = w tt) ∧ z_M G yX12_line cX12_line 3 (some .int) 2 (0) (0) [vr (100, 0), vi i, vi x] w1 (KQ (t + 1) gX gM q)) := by
  obtain ⟨nb, na, np, c, l, r, d, lM, rM, hX, hM, hC⟩ := hL
  have hC0 := hC
  obtain ⟨y, nc, nt, nr, nl, no, bu, mi, yo, yc, ra, bl, ch, u, p1, p2, p3, p4, p5, p6, p7, p8, p9, p10⟩ := hC
  obtain ⟨bnb, bna, bnp, bgX⟩ : nb ≤ 12 ∧ na ≤ 100 ∧ np ≤ 60 ∧ gX ≤ 6 := ⟨hX.2.1, hX.2.2.1, hX.2.2.2.1, hX.2.2.2.2.1⟩
  refine (m_X11_line G hX i x nl p9.2.2.2.1 p9.2.2.2.2.2.1).imp (fun q w1 h => ⟨?_, ?_⟩)
  · have hs : ∀ {T : z_T → Option r_sh} {c' : r_c} {l' : r_l} {r' : r_r}, r_p dX T w c' l' r' w1 → ∀ tt, ¬ dX tt → w1 tt = w tt := fun z => z.2
    first
    | exact fun _ _ => congrFun h.2 _
    | exact hs h.2
    | (obtain ⟨_, c1, _, z⟩ := h; exact hs z)
    | (refine z_ifq h (fun _ h => ?_) (fun _ h => ?_) <;> first | exact fun _ _ => congrFun h.2 _ | exact hs h.2 | (obtain ⟨_, c1, z, _⟩ := h; exact hs z) | (obtain ⟨_, c1, l1, z, _⟩ := h; exact hs z) | (obtain ⟨_, g1, c1, l1, z, _⟩ := h; exact hs z) | (obtain ⟨_, c1, _, _, _, z⟩ := h; exact hs z))
  obtain ⟨hq, hw⟩ := h
  subst hw
  refine (m_X12_line G hM i x nl p9.2.2.2.2.1 p9.2.2.2.2.2.2.1 (by have := p9.2.2.2.2.2.2.2.1; omega) p9.2.2.2.2.2.2.2.2.1).imp (fun q2 w2 h2 => ?_)
  obtain ⟨hq2, hw⟩ := h2
  subst hw
  refine kq_same hX hM hC0 hq (hq2.trans (congrArg (fun z => some (vi z)) ?_))
  by_cases hb : ix_ok i nl
  · have hl8 := p9.2.2.2.2.2.2.2.1
    obtain ⟨e1, e2, e3, e4⟩ := p9.2.2.2.2.2.2.2.2.2.1 _ (ix_lt hb (by omega))
    rw [if_pos hb, if_pos hb, e1, e2, e3, e4]
  · rw [if_neg hb, if_neg hb]
