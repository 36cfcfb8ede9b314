/-! one lemma a call: what both sides answer, still more -/
theorem t_pc_ne (x : Int32) (k : Nat) : t_pc x k ≠ -1 := fun h => by
  have h2 : t_pc x k &&& (-256) = (-1 : Int32) &&& (-256) := by rw [h]
  rw [t_pc, Int32.and_assoc, show (255 : Int32) &&& (-256) = 0 by decide, Int32.and_zero] at h2
  exact absurd h2 (by decide)
theorem t_rs_ne (x : Int32) : ∀ k, ∀ y ∈ t_rs x k, y ≠ -1
  | 0, y, h => by cases h
  | k + 1, y, h => by
    rw [t_rs] at h
    split at h
    · exact t_rs_ne x k y h
    · rcases List.mem_cons.mp h with h | h
      · rw [h]; exact t_pc_ne x k
      · exact t_rs_ne x k y h
theorem tp_ws_ne : ∀ (L : List Int32) (f : Nat → Int32) (n : Nat), (∀ y ∈ L, y ≠ -1) → (∀ i, f i ≠ -1) → ∀ i, tp_ws f n L i ≠ -1
  | [], f, n, _, hf => hf
  | p :: r, f, n, hL, hf => tp_ws_ne r _ _ (fun y hy => hL y (List.mem_cons_of_mem _ hy)) (fun i => by
      rw [upd_at]; split
      · exact hL p List.mem_cons_self
      · exact hf i)
theorem k_feed (G : z_G) {t gX gM : Nat} {w : z_w} (hL : KS t gX gM w) (a b e x1 x2 : Int32) : z_M G yX11_feed cX11_feed 7 (some .int) 2 (0) (0) [vr (0, 0), vi a, vi b, vi e, vi x1, vi x2] w (fun q w1 => (∀ tt, ¬ dX tt → w1 tt = w tt) ∧ z_M G yX12_feed cX12_feed 9 (some .int) 2 (0) (0) [vr (100, 0), vi a, vi b, vi e, vi x1, vi x2] w1 (KQ (t + 1) gX gM q)) := by
  obtain ⟨nb, na, np, c, l, r, d, lM, rM, hX, hM, hC⟩ := hL
  have hC0 := hC
  obtain ⟨y, nc, nt, nr, nl, no, bu, mi, yo, yc, ra, bl, ch, u, p1, p2, p3, p4, p5, p6, p7, p8, p9, p10⟩ := hC
  obtain ⟨bnb, bna, bnp, bgX⟩ : nb ≤ 12 ∧ na ≤ 100 ∧ np ≤ 60 ∧ gX ≤ 6 := ⟨hX.2.1, hX.2.2.1, hX.2.2.2.1, hX.2.2.2.2.1⟩
  have hE : (nt + (t_rs a 4 ++ t_rs b 4 ++ t_rs e 4 ++ t_rs x1 4 ++ t_rs x2 4).length ≤ 200) ↔ (nt + (t_rs a 4 ++ t_rs b 4 ++ t_rs e 4 ++ t_rs x1 4 ++ t_rs x2 4).length ≤ 200) := by
    exact Iff.rfl
  refine (m_X11_feed G hX nt p6.1 p6.2.1 a b e x1 x2).imp (fun q w1 h => ⟨?_, ?_⟩)
  · have hs : ∀ {T : z_T → Option r_sh} {c' : r_c} {l' : r_l} {r' : r_r}, r_p dX T w c' l' r' w1 → ∀ tt, ¬ dX tt → w1 tt = w tt := fun z => z.2
    first
    | exact fun _ _ => congrFun h.2 _
    | exact hs h.2
    | (obtain ⟨_, c1, _, z⟩ := h; exact hs z)
    | (refine z_ifq h (fun _ h => ?_) (fun _ h => ?_) <;> first | exact fun _ _ => congrFun h.2 _ | exact hs h.2 | (obtain ⟨_, c1, z, _⟩ := h; exact hs z) | (obtain ⟨_, c1, l1, z, _⟩ := h; exact hs z) | (obtain ⟨_, g1, c1, l1, z, _⟩ := h; exact hs z) | (obtain ⟨_, c1, _, _, _, z⟩ := h; exact hs z))
  by_cases hA : nt + (t_rs a 4 ++ t_rs b 4 ++ t_rs e 4 ++ t_rs x1 4 ++ t_rs x2 4).length ≤ 200
  · rw [if_pos hA] at h
    obtain ⟨hq, c1, z6, z7, zo, hX1⟩ := h
    refine (m_X12_feed G (kM hX1 hM) nt p6.2.2.1 p6.2.1 a b e x1 x2).imp (fun q2 w2 h2 => ?_)
    rw [if_pos (hE.mp hA)] at h2
    obtain ⟨hq2, hM1⟩ := h2
    have fX : frX [6, 7] [] c c1 := ⟨fun t ht h0 => zo t (fun e => ht (by rw [e]; simp)) (fun e => ht (by rw [e]; simp)), fun k _ => by rw [zo (0, 0) (by simp) (by simp)]⟩
    have fM : frM [131] [32] d (FC d nt (t_rs a 4 ++ t_rs b 4 ++ t_rs e 4 ++ t_rs x1 4 ++ t_rs x2 4)) := (frM.rf.c0 (by simp)).cf (by simp) (by simp)
    refine kq_com hX hX1 hM1 fX rfl ?_ hq (hq2)
    refine ⟨y, nc, nt + (t_rs a 4 ++ t_rs b 4 ++ t_rs e 4 ++ t_rs x1 4 ++ t_rs x2 4).length, nr, nl, no, bu, mi, yo, yc, ra, bl, ch, u, p1.tr fX fM (by decide), p2.tr fX fM (by decide), p3.tr fX fM (Nat.le_refl _) (Nat.le_succ _) (by decide), p4.tr fX fM (Nat.le_refl _) (Nat.le_succ _) (by decide), p5.tr fX fM (by decide), ?_, p7.tr fX fM (Nat.le_refl _) (by decide), p8.tr fX fM (by decide), p9.tr fX fM (Nat.le_refl _) (Nat.le_succ _) (by decide), p10.tr fX fM (congrFun (fX.1 (35, 0) (by decide) (by decide)) 3) (by decide)⟩
    · refine ⟨by rw [z6]; exact if_pos rfl, hA, fc_sz, ?_, fun i => ?_⟩
      · rw [FC, r_cf_self, z7, p6.2.2.2.1]
      · rw [z7]
        refine tp_ws_ne _ _ _ (fun y hy => ?_) p6.2.2.2.2 i
        simp only [List.mem_append] at hy
        rcases hy with (((hy | hy) | hy) | hy) | hy <;> exact t_rs_ne _ _ _ hy
  · rw [if_neg hA] at h
    obtain ⟨hq, hw⟩ := h
    subst hw
    refine (m_X12_feed G hM nt p6.2.2.1 p6.2.1 a b e x1 x2).imp (fun q2 w2 h2 => ?_)
    rw [if_neg (fun z => hA (hE.mpr z))] at h2
    obtain ⟨hq2, hw⟩ := h2
    subst hw
    exact kq_same hX hM hC0 hq hq2
theorem k_bog (G : z_G) {t gX gM : Nat} {w : z_w} (hL : KS t gX gM w) (o gr re : Int32) : z_M G yX11_bog cX11_bog 4 (some .int) 3 (1) (6) [vr (0, 0), vi o, vi gr, vi re] w (fun q w1 => (∀ tt, ¬ dX tt → w1 tt = w tt) ∧ z_M G yX12_bog cX12_bog 4 (some .int) 2 (0) (0) [vr (100, 0), vi o, vi gr, vi re] w1 (KQ (t + 1) gX gM q)) := by
  obtain ⟨nb, na, np, c, l, r, d, lM, rM, hX, hM, hC⟩ := hL
  have hC0 := hC
  obtain ⟨y, nc, nt, nr, nl, no, bu, mi, yo, yc, ra, bl, ch, u, p1, p2, p3, p4, p5, p6, p7, p8, p9, p10⟩ := hC
  obtain ⟨bnb, bna, bnp, bgX⟩ : nb ≤ 12 ∧ na ≤ 100 ∧ np ≤ 60 ∧ gX ≤ 6 := ⟨hX.2.1, hX.2.2.1, hX.2.2.2.1, hX.2.2.2.2.1⟩
  have hE : (nb < 12 ∧ (0 ≤ o ∧ o ≤ 100000) ∧ (0 ≤ gr ∧ gr ≤ 5000) ∧ (0 ≤ re ∧ re ≤ 20)) ↔ (nb < 12 ∧ (0 ≤ o ∧ o ≤ 100000) ∧ (0 ≤ gr ∧ gr ≤ 5000) ∧ (0 ≤ re ∧ re ≤ 20)) := by
    exact Iff.rfl
  refine (m_X11_bog G hX o gr re).imp (fun q w1 h => ⟨?_, ?_⟩)
  · have hs : ∀ {T : z_T → Option r_sh} {c' : r_c} {l' : r_l} {r' : r_r}, r_p dX T w c' l' r' w1 → ∀ tt, ¬ dX tt → w1 tt = w tt := fun z => z.2
    first
    | exact fun _ _ => congrFun h.2 _
    | exact hs h.2
    | (obtain ⟨_, c1, _, z⟩ := h; exact hs z)
    | (refine z_ifq h (fun _ h => ?_) (fun _ h => ?_) <;> first | exact fun _ _ => congrFun h.2 _ | exact hs h.2 | (obtain ⟨_, c1, z, _⟩ := h; exact hs z) | (obtain ⟨_, c1, l1, z, _⟩ := h; exact hs z) | (obtain ⟨_, g1, c1, l1, z, _⟩ := h; exact hs z) | (obtain ⟨_, c1, _, _, _, z⟩ := h; exact hs z))
  by_cases hA : nb < 12 ∧ (0 ≤ o ∧ o ≤ 100000) ∧ (0 ≤ gr ∧ gr ≤ 5000) ∧ (0 ≤ re ∧ re ≤ 20)
  · rw [if_pos hA] at h
    obtain ⟨hq, hX1⟩ := h
    refine (m_X12_bog G (kM hX1 hM) nb p2.1 bnb o gr re).imp (fun q2 w2 h2 => ?_)
    rw [if_pos (hE.mp hA)] at h2
    obtain ⟨hq2, hM1⟩ := h2
    obtain ⟨oo, o1, o2⟩ := nI_of2 (n := 100000) (by decide) (pos_0 hA.2.1.1) hA.2.1.2
    obtain ⟨gg, g1, g2⟩ := nI_of2 (n := 5000) (by decide) (pos_0 hA.2.2.1.1) hA.2.2.1.2
    obtain ⟨x1, x2, x3, x4, x5, x6, x7, x8, x9, x10, x11⟩ := hX
    have hr1 : ∀ i, i < nb + 1 → r_cf r (1, 0) (va_up (r (1, 0)) nb (some (2, nb))) (1, 0) i = some (2, i) := fun i hi => by
      rw [r_cf_self]
      by_cases e : i = nb
      · subst e; simp [va_up]
      · simp [va_up, e]; exact x9 i (by omega)
    have fX : frX [2] [2] c (r_cs (r_cf c (2, nb) (fun k => if k = 0 then o else if k = 1 then gr else if k = 2 then re else if k = 3 then 0 else if k = 4 then 1000 else if k = 5 then -1 else 0)) (0, 0) 2 (nI (nb + 1))) := (frX.rf.cf (by simp) (by simp)).c0 (by simp)
    have fM : frM [108, 109, 110, 111, 112, 113] [1] d (r_cs (r_cs (r_cs (r_cs (r_cs (r_cs (r_cs d (108, 0) nb o) (109, 0) nb gr) (110, 0) nb re) (111, 0) nb 0) (112, 0) nb 1000) (113, 0) nb (-1)) (100, 0) 1 (nI (nb + 1))) := ((((((frM.rf.cs (by simp) (by simp)).cs (by simp) (by simp)).cs (by simp) (by simp)).cs (by simp) (by simp)).cs (by simp) (by simp)).cs (by simp) (by simp)).c0 (by simp)
    refine ⟨⟨nI nb, hq, hq2⟩, nb + 1, na, np, _, _, _, _, _, _, ⟨part_keep hX1 (fun t ht => hM1.2 t (dM_X ht)), by omega, bna, bnp, bgX, by simp [r_cs_at], (fX.ix (A := [8]) (by decide) (by simp)).trans x7, (fX.ix (A := [12]) (by decide) (by simp)).trans x8, hr1, fun i hi => by rw [r_cf_ne (by simp)]; exact x10 i hi, fun i hi => by rw [r_cf_ne (by simp)]; exact x11 i hi⟩, part_keep hM1 (fun _ _ => rfl), ?_⟩
    refine ⟨y, nc, nt, nr, nl, no, bu, mi, yo, yc, ra, bl, ch, u, p1.tr fX fM (by decide), ?_, p3.tr fX fM (Nat.le_succ _) (Nat.le_succ _) (by decide), p4.tr fX fM (Nat.le_succ _) (Nat.le_succ _) (by decide), p5.tr fX fM (by decide), p6.tr fX fM (by decide), p7.tr fX fM (Nat.le_succ _) (by decide), p8.tr fX fM (by decide), p9.tr fX fM (Nat.le_refl _) (Nat.le_succ _) (by decide), p10.tr fX fM (congrFun (fX.1 (35, 0) (by decide) (by decide)) 3) (by decide)⟩
    · refine ⟨by simp [r_cs_at], fun i hi => ?_⟩
      by_cases e : i = nb
      · subst e
        simp [r_cs_at, r_cf_at, upd_at]
        exact ⟨⟨oo, o1, o2⟩, gg, g1, g2⟩
      · obtain ⟨⟨e1, e2, e3, e4, e5, e6⟩, s1, s2⟩ := p2.2 i (by omega)
        simp [r_cs_at, r_cf_at, upd_at, e, e1, e2, e3, e4, e5, e6, s1, s2]
  · rw [if_neg hA] at h
    obtain ⟨hq, hw⟩ := h
    subst hw
    refine (m_X12_bog G hM nb p2.1 bnb o gr re).imp (fun q2 w2 h2 => ?_)
    rw [if_neg (fun z => hA (hE.mpr z))] at h2
    obtain ⟨hq2, hw⟩ := h2
    subst hw
    exact kq_same hX hM hC0 hq hq2
theorem k_clear (G : z_G) {t gX gM : Nat} {w : z_w} (hL : KS t gX gM w) : z_M G yX11_clear cX11_clear 1 none 1 (0) (0) [vr (0, 0)] w (fun q w1 => (∀ tt, ¬ dX tt → w1 tt = w tt) ∧ z_M G yX12_clear cX12_clear 1 none 1 (0) (0) [vr (100, 0)] w1 (fun q2 w2 => q = none ∧ q2 = none ∧ KS (t + 1) gX gM w2)) := by
  obtain ⟨nb, na, np, c, l, r, d, lM, rM, hX, hM, hC⟩ := hL
  have hC0 := hC
  obtain ⟨y, nc, nt, nr, nl, no, bu, mi, yo, yc, ra, bl, ch, u, p1, p2, p3, p4, p5, p6, p7, p8, p9, p10⟩ := hC
  obtain ⟨bnb, bna, bnp, bgX⟩ : nb ≤ 12 ∧ na ≤ 100 ∧ np ≤ 60 ∧ gX ≤ 6 := ⟨hX.2.1, hX.2.2.1, hX.2.2.2.1, hX.2.2.2.2.1⟩
  refine (m_X11_clear G hX).imp (fun q w1 h => ⟨?_, ?_⟩)
  · have hs : ∀ {T : z_T → Option r_sh} {c' : r_c} {l' : r_l} {r' : r_r}, r_p dX T w c' l' r' w1 → ∀ tt, ¬ dX tt → w1 tt = w tt := fun z => z.2
    first
    | exact fun _ _ => congrFun h.2 _
    | exact hs h.2
    | (obtain ⟨_, c1, _, z⟩ := h; exact hs z)
    | (refine z_ifq h (fun _ h => ?_) (fun _ h => ?_) <;> first | exact fun _ _ => congrFun h.2 _ | exact hs h.2 | (obtain ⟨_, c1, z, _⟩ := h; exact hs z) | (obtain ⟨_, c1, l1, z, _⟩ := h; exact hs z) | (obtain ⟨_, g1, c1, l1, z, _⟩ := h; exact hs z) | (obtain ⟨_, c1, _, _, _, z⟩ := h; exact hs z))
  obtain ⟨hq, hX1⟩ := h
  refine (m_X12_clear G (kM hX1 hM)).imp (fun q2 w2 h2 => ?_)
  obtain ⟨hq2, hM1⟩ := h2
  have fX : frX [35] [] c (r_cs c (35, 0) 3 0) := frX.rf.cs (by simp) (by simp)
  have fM : frM [] [5] d (r_cs d (100, 0) 5 0) := frM.rf.c0 (by simp)
  have hz : KQ (t + 1) gX gM (some (vi 0)) (some (vi 0)) w2 := by
    refine kq_com hX hX1 hM1 fX rfl ?_ rfl rfl
    refine ⟨y, nc, nt, nr, nl, 0, bu, mi, yo, yc, ra, bl, ch, u, p1.tr fX fM (by decide), p2.tr fX fM (by decide), p3.tr fX fM (Nat.le_refl _) (Nat.le_succ _) (by decide), p4.tr fX fM (Nat.le_refl _) (Nat.le_succ _) (by decide), p5.tr fX fM (by decide), p6.tr fX fM (by decide), p7.tr fX fM (Nat.le_refl _) (by decide), p8.tr fX fM (by decide), p9.tr fX fM (Nat.le_refl _) (Nat.le_succ _) (by decide), ?_⟩
    exact ⟨by rw [r_cs_at, if_pos ⟨rfl, rfl, rfl⟩]; rfl, by omega, by rw [r_cs_at, if_pos ⟨rfl, rfl, rfl⟩]; rfl, fun o ho => by omega⟩
  exact ⟨hq, hq2, hz.2⟩
theorem k_forge (G : z_G) {t gX gM : Nat} {w : z_w} (hL : KS t gX gM w) (b n : Int32) : z_M G yX11_forge cX11_forge 5 (some .int) 3 (0) (0) [vr (0, 0), vi b, vi n] w (fun q w1 => (∀ tt, ¬ dX tt → w1 tt = w tt) ∧ z_M G yX12_forge cX12_forge 4 (some .int) 3 (0) (0) [vr (100, 0), vi b, vi n] w1 (KQ (t + 1) gX gM q)) := by
  obtain ⟨nb, na, np, c, l, r, d, lM, rM, hX, hM, hC⟩ := hL
  have hC0 := hC
  obtain ⟨y, nc, nt, nr, nl, no, bu, mi, yo, yc, ra, bl, ch, u, p1, p2, p3, p4, p5, p6, p7, p8, p9, p10⟩ := hC
  obtain ⟨bnb, bna, bnp, bgX⟩ : nb ≤ 12 ∧ na ≤ 100 ∧ np ≤ 60 ∧ gX ≤ 6 := ⟨hX.2.1, hX.2.2.1, hX.2.2.2.1, hX.2.2.2.2.1⟩
  have hE : (ix_ok b na ∧ (1 ≤ n ∧ n ≤ 9) ∧ c (18, b.toNatClampNeg) 6 + n ≤ 9) ↔ (ix_ok b na ∧ (1 ≤ n ∧ n ≤ 9) ∧ d (149, 0) b.toNatClampNeg + n ≤ 9) := by
    by_cases hb : ix_ok b na
    · obtain ⟨a1, a2, ⟨b1, b2, b3, b4, b5⟩, a4⟩ := p7.2.1 _ (ix_lt hb (by omega))
      rw [b4]
    · exact ⟨fun z => absurd z.1 hb, fun z => absurd z.1 hb⟩
  refine (m_X11_forge G hX b n).imp (fun q w1 h => ⟨?_, ?_⟩)
  · have hs : ∀ {T : z_T → Option r_sh} {c' : r_c} {l' : r_l} {r' : r_r}, r_p dX T w c' l' r' w1 → ∀ tt, ¬ dX tt → w1 tt = w tt := fun z => z.2
    first
    | exact fun _ _ => congrFun h.2 _
    | exact hs h.2
    | (obtain ⟨_, c1, _, z⟩ := h; exact hs z)
    | (refine z_ifq h (fun _ h => ?_) (fun _ h => ?_) <;> first | exact fun _ _ => congrFun h.2 _ | exact hs h.2 | (obtain ⟨_, c1, z, _⟩ := h; exact hs z) | (obtain ⟨_, c1, l1, z, _⟩ := h; exact hs z) | (obtain ⟨_, g1, c1, l1, z, _⟩ := h; exact hs z) | (obtain ⟨_, c1, _, _, _, z⟩ := h; exact hs z))
  by_cases hA : ix_ok b na ∧ (1 ≤ n ∧ n ≤ 9) ∧ c (18, b.toNatClampNeg) 6 + n ≤ 9
  · rw [if_pos hA] at h
    obtain ⟨hq, hX1⟩ := h
    refine (m_X12_forge G (kM hX1 hM) na p7.1 bna b n).imp (fun q2 w2 h2 => ?_)
    rw [if_pos (hE.mp hA)] at h2
    obtain ⟨hq2, hM1⟩ := h2
    have hbn := ix_lt hA.1 (show na < 2 ^ 31 by omega)
    obtain ⟨a1, a2, ⟨b1, b2, b3, b4, b5⟩, a4⟩ := p7.2.1 _ hbn
    have en : nI n.toNatClampNeg = n := (z_eqnI (pos_1 hA.2.1.1)).symm
    have fX : frX [18] [] c (r_cf c (18, b.toNatClampNeg) (upd (upd (upd (c (18, b.toNatClampNeg)) 4 (g_le n.toNatClampNeg (c (18, b.toNatClampNeg) 4))) 5 (g_gr n.toNatClampNeg (c (18, b.toNatClampNeg) 5))) 6 (c (18, b.toNatClampNeg) 6 + nI n.toNatClampNeg))) := frX.rf.cf (by simp) (by simp)
    have fM : frM [146, 147, 149] [] d (r_cs (mf_c d b.toNatClampNeg n.toNatClampNeg) (149, 0) b.toNatClampNeg (d (149, 0) b.toNatClampNeg + n)) := ((frM.rf.cf (by simp) (by simp)).cf (by simp) (by simp)).cs (by simp) (by simp)
    refine kq_com hX hX1 hM1 fX rfl ?_ hq (hq2.trans (by rw [b3, b4]))
    refine ⟨y, nc, nt, nr, nl, no, bu, mi, yo, yc, ra, bl, ch, u, p1.tr fX fM (by decide), p2.tr fX fM (by decide), p3.tr fX fM (Nat.le_refl _) (Nat.le_succ _) (by decide), p4.tr fX fM (Nat.le_refl _) (Nat.le_succ _) (by decide), p5.tr fX fM (by decide), p6.tr fX fM (by decide), ?_, p8.tr fX fM (by decide), p9.tr fX fM (Nat.le_refl _) (Nat.le_succ _) (by decide), p10.tr fX fM (congrFun (fX.1 (35, 0) (by decide) (by decide)) 3) (by decide)⟩
    · obtain ⟨h1, h2, h3, h4⟩ := p7
      refine ⟨(fM.ix (A := [2]) (by decide) (by simp)).trans h1, fun i hi => ?_, fun j hj => by rw [fM.at (A := [144]) (by decide) (by simp)]; exact h3 j hj, fun j hj => by rw [fM.at (A := [145]) (by decide) (by simp)]; exact h4 j hj⟩
      rw [fX.at (A := [19]) (Or.inr (by decide)) (by simp), fX.at (A := [20]) (Or.inr (by decide)) (by simp), fM.at (A := [144]) (by decide) (k := 144) (by simp), fM.at (A := [145]) (by decide) (k := 145) (by simp)]
      obtain ⟨q1, q2, ⟨c1, c2, c3, c4, c5⟩, q4⟩ := h2 i hi
      refine ⟨q1, q2, ?_, q4⟩
      by_cases e : i = b.toNatClampNeg
      · subst e
        simp [r_cs_at, r_cf_at, mf_c, upd_at, c1, c2, c3, c4, c5, en]
      · simp [r_cs_at, r_cf_at, mf_c, upd_at, e, c1, c2, c3, c4, c5]
  · rw [if_neg hA] at h
    obtain ⟨hq, hw⟩ := h
    subst hw
    refine (m_X12_forge G hM na p7.1 bna b n).imp (fun q2 w2 h2 => ?_)
    rw [if_neg (fun z => hA (hE.mpr z))] at h2
    obtain ⟨hq2, hw⟩ := h2
    subst hw
    exact kq_same hX hM hC0 hq hq2
theorem k_year (G : z_G) {t gX gM : Nat} {w : z_w} (hL : KS t gX gM w) (ht : t ≤ 511) : z_M G yX11_year cX11_year 3 (some .int) 3 (0) (0) [vr (0, 0)] w (fun q w1 => (∀ tt, ¬ dX tt → w1 tt = w tt) ∧ z_M G yX12_year cX12_year 2 (some .int) 2 (0) (0) [vr (100, 0)] w1 (KQ (t + 1) gX gM q)) := by
  obtain ⟨nb, na, np, c, l, r, d, lM, rM, hX, hM, hC⟩ := hL
  have hC0 := hC
  obtain ⟨y, nc, nt, nr, nl, no, bu, mi, yo, yc, ra, bl, ch, u, p1, p2, p3, p4, p5, p6, p7, p8, p9, p10⟩ := hC
  obtain ⟨bnb, bna, bnp, bgX⟩ : nb ≤ 12 ∧ na ≤ 100 ∧ np ≤ 60 ∧ gX ≤ 6 := ⟨hX.2.1, hX.2.2.1, hX.2.2.2.1, hX.2.2.2.2.1⟩
  have hE : (c (0, 0) 0 < 100 ∧ ¬ (¬ c (13, 0) 3 = 0 ∨ ¬ c (13, 0) 4 = 0 ∨ ¬ z_sum (c (15, 0)) 12 = 0)) ↔ (¬ d (100, 0) 0 = 100 ∧ ¬ 0 < z_sum (d (119, 0)) 12 ∧ ¬ d (100, 0) 22 < z_sum (d (120, 0)) 8 ∧ ¬ 0 < z_sum (d (121, 0)) 12) := by
    obtain ⟨⟨x1, x2, x3, x4, x5, x6⟩, ⟨m1, m2, m3, m4⟩, h3, h4, h5, h6, h7, h8, h9, h10, h11, h12, h13⟩ := p4
    have u5 : d (100, 0) 22 = nI bu := (m4 5 (by omega) (by omega)).trans h6
    have y1 := p1.2.2.1
    rw [p1.1, p1.2.1, z_sum_nI m1, z_sum_nI m3, z_sum_nI m2, x4, x5, x2, u5, z_sum_nI (m := bl) (fun _ _ => rfl), show f_cl u ch = nI (p_sm ch 8 - bu) by rw [f_cl, h6, pk_sub h7]]
    have e1 : nI y < 100 ↔ y < 100 := nI_ltI (b := 100) (by omega) (by omega)
    have e2 : nI y = 100 ↔ y = 100 := nI_eq (b := 100) (by omega) (by omega)
    have e3 : nI (p_sm ra 12) = 0 ↔ p_sm ra 12 = 0 := nI_eq (b := 0) (by omega) (by omega)
    have e4 : nI (p_sm ch 8 - bu) = 0 ↔ p_sm ch 8 - bu = 0 := nI_eq (b := 0) (by omega) (by omega)
    have e5 : nI (p_sm bl 12) = 0 ↔ p_sm bl 12 = 0 := nI_eq (b := 0) (by omega) (by omega)
    have e6 : 0 < nI (p_sm ra 12) ↔ 0 < p_sm ra 12 := nI_ltI (a := 0) (by omega) (by omega)
    have e7 : nI bu < nI (p_sm ch 8) ↔ bu < p_sm ch 8 := nI_ltI (by omega) (by omega)
    have e8 : 0 < nI (p_sm bl 12) ↔ 0 < p_sm bl 12 := nI_ltI (a := 0) (by omega) (by omega)
    rw [e1, e2, e3, e4, e5, e6, e7, e8]
    omega
  refine (m_X11_year G hX ).imp (fun q w1 h => ⟨?_, ?_⟩)
  · have hs : ∀ {T : z_T → Option r_sh} {c' : r_c} {l' : r_l} {r' : r_r}, r_p dX T w c' l' r' w1 → ∀ tt, ¬ dX tt → w1 tt = w tt := fun z => z.2
    first
    | exact fun _ _ => congrFun h.2 _
    | exact hs h.2
    | (obtain ⟨_, c1, _, z⟩ := h; exact hs z)
    | (refine z_ifq h (fun _ h => ?_) (fun _ h => ?_) <;> first | exact fun _ _ => congrFun h.2 _ | exact hs h.2 | (obtain ⟨_, c1, z, _⟩ := h; exact hs z) | (obtain ⟨_, c1, l1, z, _⟩ := h; exact hs z) | (obtain ⟨_, g1, c1, l1, z, _⟩ := h; exact hs z) | (obtain ⟨_, c1, _, _, _, z⟩ := h; exact hs z))
  by_cases hA : c (0, 0) 0 < 100 ∧ ¬ (¬ c (13, 0) 3 = 0 ∨ ¬ c (13, 0) 4 = 0 ∨ ¬ z_sum (c (15, 0)) 12 = 0)
  · rw [if_pos hA] at h
    obtain ⟨hq, c1, hX1, z1, z2, z3⟩ := h
    refine (m_X12_year G (kM hX1 hM) nb p2.1 bnb).imp (fun q2 w2 h2 => ?_)
    rw [if_pos (hE.mp hA)] at h2
    obtain ⟨hq2, hM1⟩ := h2
    have fX : frX [2] [0] c c1 := ⟨fun t ht h0 => z3 t (fun k _ e => ht (by rw [e]; simp)) (fun e => h0 (by rw [e])), fun k hk => by rw [z2]; exact if_neg (fun e => hk (by rw [e]; simp))⟩
    have fM : frM [108] [0] d (r_cs (my_c d nb) (100, 0) 0 (d (100, 0) 0 + 1)) := (frM.rf.cf (by simp) (by simp)).c0 (by simp)
    refine kq_com hX hX1 hM1 fX rfl ?_ hq (hq2.trans (by rw [p1.1, p1.2.1]))
    refine ⟨y + 1, nc, nt, nr, nl, no, bu, mi, yo, yc, ra, bl, ch, u, ?_, ?_, p3.tr fX fM (Nat.le_refl _) (Nat.le_succ _) (by decide), p4.tr fX fM (Nat.le_refl _) (Nat.le_succ _) (by decide), p5.tr fX fM (by decide), p6.tr fX fM (by decide), p7.tr fX fM (Nat.le_refl _) (by decide), p8.tr fX fM (by decide), p9.tr fX fM (Nat.le_refl _) (Nat.le_succ _) (by decide), p10.tr fX fM (congrFun (fX.1 (35, 0) (by decide) (by decide)) 3) (by decide)⟩
    · have y1 : y < 100 := by
        have z := hA.1
        rw [p1.1] at z
        exact (nI_ltI (b := 100) (by have := p1.2.2.1; omega) (by omega)).mp z
      exact ⟨by rw [z2]; exact (if_pos rfl).trans (by rw [p1.1]; exact nI_add y 1), by rw [r_cs_at, if_pos ⟨rfl, rfl, rfl⟩, p1.2.1]; exact nI_add y 1, by omega, by rw [fX.ix (A := [9]) (by decide) (by simp), fM.ix (A := [7]) (by decide) (by simp)]; exact p1.2.2.2⟩
    · refine ⟨(fM.ix (A := [1]) (by decide) (by simp)).trans p2.1, fun i hi => ?_⟩
      obtain ⟨⟨e1, e2, e3, e4, e5, e6⟩, ⟨oo, o1, o2⟩, gg, g1, g2⟩ := p2.2 i hi
      rw [z1 i hi]
      simp only [r_cs_at, my_c, r_cf_at, my_g, upd_at, e1, e2, e3, e4, e5, e6, hi, if_true, if_false]
      simp [o2, g2, nI_add]
      refine ⟨?_, gg, g1, rfl⟩
      by_cases hz : nI (oo + gg) < 100000
      · rw [if_pos hz]
        exact ⟨oo + gg, Nat.le_of_lt ((nI_ltI (b := 100000) (by omega) (by omega)).mp hz), rfl⟩
      · rw [if_neg hz]
        exact ⟨100000, Nat.le_refl _, rfl⟩
  · rw [if_neg hA] at h
    obtain ⟨hq, hw⟩ := h
    subst hw
    refine (m_X12_year G hM nb p2.1 bnb).imp (fun q2 w2 h2 => ?_)
    rw [if_neg (fun z => hA (hE.mpr z))] at h2
    obtain ⟨hq2, hw⟩ := h2
    subst hw
    exact kq_same hX hM hC0 hq hq2
