/-! one lemma a call: pay, again -/
theorem fr34 {t : z_T} (ht : t.1 ∉ [47, 45, 28, 27, 29, 30, 31, 32, 33, 34]) : ¬ (29 ≤ t.1 ∧ t.1 ≤ 34) := fun q => by
  simp only [List.mem_cons, List.not_mem_nil, or_false] at ht
  omega
theorem fr34b {t : z_T} (ht : t.1 ∉ [47, 45, 28, 29, 30, 31, 32, 33, 34]) : ¬ (29 ≤ t.1 ∧ t.1 ≤ 34) := fun q => by
  simp only [List.mem_cons, List.not_mem_nil, or_false] at ht
  omega
theorem fr63 {t : z_T} (ht : t.1 ∉ [117, 118, 155, 156, 157, 158, 159, 160, 161, 162, 163]) : ¬ (160 ≤ t.1 ∧ t.1 ≤ 163) := fun q => by
  simp only [List.mem_cons, List.not_mem_nil, or_false] at ht
  omega
theorem fr63b {t : z_T} (ht : t.1 ∉ [117, 118, 158, 159, 160, 161, 162, 163]) : ¬ (160 ≤ t.1 ∧ t.1 ≤ 163) := fun q => by
  simp only [List.mem_cons, List.not_mem_nil, or_false] at ht
  omega
theorem k_pay (G : z_G) {t gX gM : Nat} {w : z_w} (hL : KS t gX gM w) (ht : t ≤ 511) (x n : Int32) : ∃ jX jM aC aS, jX ≤ 1 ∧ jM ≤ 1 ∧ aC ≤ 2 ∧ aS ≤ 12 ∧ z_M G yX11_pay cX11_pay 3 (some .int) 6 (4 * jX + aC) (8 * (64 * 2 ^ gX) * jX + aS) [vr (0, 0), vi x, vi n] w (fun q w1 => (∀ tt, ¬ dX tt → w1 tt = w tt) ∧ z_M G yX12_pay cX12_pay 3 (some .int) 3 (4 * jM) (2048 * 2 ^ gM * jM) [vr (100, 0), vi x, vi n] w1 (KQ (t + 1) (gX + jX) (gM + jM) q)) := by
  obtain ⟨nb, na, np, c, l, r, d, lM, rM, hX, hM, hC⟩ := hL
  have hC0 := hC
  obtain ⟨y, nc, nt, nr, nl, no, bu, mi, yo, yc, ra, bl, ch, u, p1, p2, p3, p4, p5, p6, p7, p8, p9, p10⟩ := hC
  obtain ⟨bnb, bna, bnp, bgX⟩ : nb ≤ 12 ∧ na ≤ 100 ∧ np ≤ 60 ∧ gX ≤ 6 := ⟨hX.2.1, hX.2.2.1, hX.2.2.2.1, hX.2.2.2.2.1⟩
  obtain ⟨hp3, hpays, h158, hn29, hn4, hcapX, hcapM, hn8, hgM4, hlines, hhold⟩ := id p9
  by_cases hok : ix_ok x na ∧ (1 ≤ n ∧ n ≤ 1000000) ∧ np < 60
  rotate_left
  · refine ⟨0, 0, 0, 0, by omega, by omega, by omega, by omega, ?_⟩
    refine (m_X11_payno G hX x n hok).imp (fun q w1 h => ⟨?_, ?_⟩)
    · have hs : ∀ {T : z_T → Option r_sh} {c' : r_c} {l' : r_l} {r' : r_r}, r_p dX T w c' l' r' w1 → ∀ tt, ¬ dX tt → w1 tt = w tt := fun z => z.2
      first
      | exact fun _ _ => congrFun h.2 _
      | exact hs h.2
      | (obtain ⟨_, c1, _, z⟩ := h; exact hs z)
      | (refine z_ifq h (fun _ h => ?_) (fun _ h => ?_) <;> first | exact fun _ _ => congrFun h.2 _ | exact hs h.2 | (obtain ⟨_, c1, z, _⟩ := h; exact hs z) | (obtain ⟨_, c1, l1, z, _⟩ := h; exact hs z) | (obtain ⟨_, g1, c1, l1, z, _⟩ := h; exact hs z) | (obtain ⟨_, c1, _, _, _, z⟩ := h; exact hs z))
    obtain ⟨hq, hw⟩ := h
    subst hw
    refine (m_X12_payno G hM np hp3 bnp na p7.1 bna x n hok).imp (fun q2 w2 h2 => ?_)
    obtain ⟨hq2, hw⟩ := h2
    subst hw
    exact kq_same hX hM hC0 hq hq2
  have hxl := ix_lt hok.1 (show na < 2 ^ 31 by omega)
  obtain ⟨m, m1, m2, m3⟩ := claims (y := c (0, 0) 0) bnb p7 p8 hxl
  obtain ⟨N, n1, n2⟩ := nI_of2 (n := 1000000) (by decide) (pos_1 hok.2.1.1) hok.2.1.2
  obtain ⟨D, hD⟩ : ∃ D : Nat → Int32, D = fun h => s_sh n.toNatClampNeg m h - 0 := ⟨_, rfl⟩
  have hDM : D = fun h => s_sh n.toNatClampNeg m h - d (158, 0) (8 * np + h) := by
    rw [hD]; funext h
    rw [h158 _ (by omega)]
  have e00 : d (100, 0) 0 = c (0, 0) 0 := p1.2.1.trans p1.1.symm
  obtain ⟨jX, ejX⟩ : ∃ j, (nl + cn D 8 ≤ 64 * 2 ^ gX ∧ j = 0) ∨ (¬ nl + cn D 8 ≤ 64 * 2 ^ gX ∧ j = 1) := by
    by_cases q : nl + cn D 8 ≤ 64 * 2 ^ gX
    · exact ⟨0, Or.inl ⟨q, rfl⟩⟩
    · exact ⟨1, Or.inr ⟨q, rfl⟩⟩
  obtain ⟨jM, ejM⟩ : ∃ j, (nl + cn D 8 ≤ 256 * 2 ^ gM ∧ j = 0) ∨ (¬ nl + cn D 8 ≤ 256 * 2 ^ gM ∧ j = 1) := by
    by_cases q : nl + cn D 8 ≤ 256 * 2 ^ gM
    · exact ⟨0, Or.inl ⟨q, rfl⟩⟩
    · exact ⟨1, Or.inr ⟨q, rfl⟩⟩
  have c1X : (if nl + cn D 8 ≤ 64 * 2 ^ gX then 0 else 4) = 4 * jX := by
    rcases ejX with ⟨q, e⟩ | ⟨q, e⟩
    · rw [if_pos q, e]
    · rw [if_neg q, e]
  have c2X : (if nl + cn D 8 ≤ 64 * 2 ^ gX then 0 else 8 * (64 * 2 ^ gX)) = 8 * (64 * 2 ^ gX) * jX := by
    rcases ejX with ⟨q, e⟩ | ⟨q, e⟩
    · rw [if_pos q, e]; rfl
    · rw [if_neg q, e, Nat.mul_one]
  have c1M : (if nl + cn D 8 ≤ 256 * 2 ^ gM then 0 else 4) = 4 * jM := by
    rcases ejM with ⟨q, e⟩ | ⟨q, e⟩
    · rw [if_pos q, e]
    · rw [if_neg q, e]
  have c2M : (if nl + cn D 8 ≤ 256 * 2 ^ gM then 0 else 2048 * 2 ^ gM) = 2048 * 2 ^ gM * jM := by
    rcases ejM with ⟨q, e⟩ | ⟨q, e⟩
    · rw [if_pos q, e]; rfl
    · rw [if_neg q, e, Nat.mul_one]
  refine ⟨jX, jM, 2, 12, by omega, by omega, by omega, by omega, ?_⟩
  have hXc := m_X11_pay G hX nl nr m hn29 hcapX (by omega) p8.1 p8.2.1 x n (fun h _ => ⟨m1 h, m2 h⟩) D hD
  rw [c1X, c2X] at hXc
  refine hXc.imp (fun q w1 h => ⟨?_, ?_⟩)
  · have hs : ∀ {T : z_T → Option r_sh} {c' : r_c} {l' : r_l} {r' : r_r}, r_p dX T w c' l' r' w1 → ∀ tt, ¬ dX tt → w1 tt = w tt := fun z => z.2
    first
    | exact fun _ _ => congrFun h.2 _
    | exact hs h.2
    | (obtain ⟨_, c1, _, z⟩ := h; exact hs z)
    | (refine z_ifq h (fun _ h => ?_) (fun _ h => ?_) <;> first | exact fun _ _ => congrFun h.2 _ | exact hs h.2 | (obtain ⟨_, c1, z, _⟩ := h; exact hs z) | (obtain ⟨_, c1, l1, z, _⟩ := h; exact hs z) | (obtain ⟨_, g1, c1, l1, z, _⟩ := h; exact hs z) | (obtain ⟨_, c1, _, _, _, z⟩ := h; exact hs z))
  rw [if_pos hok] at h
  obtain ⟨hq, g1, c1, l1, hX1, hLN, ⟨v0, v1, v2⟩, v28, z0, zf⟩ := h
  have hMc := m_X12_pay G (kM hX1 hM) nb p2.1 bnb hgM4 nl nr m hn4 hcapM (by omega) p8.2.2.1 p8.2.1 np hp3 bnp na p7.1 bna x n (fun h _ => ⟨m1 h, by rw [e00]; exact m3 h⟩) D hDM
  rw [c1M, c2M] at hMc
  refine hMc.imp (fun q2 w2 h2 => ?_)
  rw [if_pos hok] at h2
  obtain ⟨hq2, gm, d1, lM1, hM1, hML, u158, u155, u156, u157, u3, uk, ut⟩ := h2
  have hDD : ∀ h, h < 8 → D h = D h := fun _ _ => rfl
  have eg1 : g1 = gX + jX := by
    rcases hLN.1 with ⟨e, q⟩ | ⟨e, q⟩ <;> rcases ejX with ⟨q2, e2⟩ | ⟨q2, e2⟩ <;> omega
  have egm : gm = gM + jM := by
    have z := hML.1
    rw [cn_cg (n := 8) hDD] at z
    rcases z with ⟨e, q⟩ | ⟨e, q⟩ <;> rcases ejM with ⟨q2, e2⟩ | ⟨q2, e2⟩ <;> omega
  subst eg1
  subst egm
  obtain ⟨⟨l1_, l2_, l3_, l4_, l5_⟩, l6, l7, l8, l9⟩ := led_join hlines hhold hDD (p1.2.1.trans p1.1.symm) hLN hML hcapX hcapM hn8 ht bgX hgM4
  obtain ⟨X1, X2, X3, X4, X5, X6, X7, X8, X9, X10, X11⟩ := hX
  have hr26 : ∀ i, i < np + 1 → r_cf r (26, 0) (va_up (r (26, 0)) np (some (27, np))) (26, 0) i = some (27, i) := fun i hi => by
    rw [r_cf_self]
    by_cases e : i = np
    · subst e; simp [va_up]
    · simp [va_up, e]; exact X11 i (by omega)
  have fX : frX [47, 45, 28, 27, 29, 30, 31, 32, 33, 34] [12] c c1 := ⟨fun t ht h0 => zf t (fun e => ht (by rw [e]; simp)) (fun e => ht (by rw [e]; simp)) (fun e => ht (by rw [e]; simp)) (fun e => ht (by rw [e]; simp)) (fun e => h0 (by rw [e])) (fr34 ht), fun k hk => by rw [z0, upd_at, if_neg (fun e => hk (by rw [e]; simp))]⟩
  have fM : frM [117, 118, 155, 156, 157, 158, 159, 160, 161, 162, 163] [3, 4] d d1 := ⟨fun t ht h0 => ut t (fun e => h0 (by rw [e])) (fun e => ht (by rw [e]; simp)) (fun e => ht (by rw [e]; simp)) (fun e => ht (by rw [e]; simp)) (fun e => ht (by rw [e]; simp)) (fun e => ht (by rw [e]; simp)) (fun e => ht (by rw [e]; simp)) (fun e => ht (by rw [e]; simp)) (fr63 ht), fun k hk => uk k (fun e => hk (by rw [e]; simp)) (fun e => hk (by rw [e]; simp))⟩
  refine ⟨⟨nI np, hq, hq2⟩, nb, na, np + 1, _, _, _, _, _, _, ⟨part_keep hX1 (fun t ht => hM1.2 t (dM_X ht)), bnb, bna, by omega, l5_, (fX.ix (A := [2]) (by decide) (by simp)).trans X6, (fX.ix (A := [8]) (by decide) (by simp)).trans X7, by rw [z0, upd_at, if_pos rfl], fun i hi => by rw [r_cf_ne (by simp)]; exact X9 i hi, fun i hi => by rw [r_cf_ne (by simp)]; exact X10 i hi, hr26⟩, part_keep hM1 (fun _ _ => rfl), ?_⟩
  refine ⟨y, nc, nt, nr, nl + cn D 8, no, bu, mi, yo, yc, ra, bl, ch, u, p1.tr fX fM (by decide), p2.tr fX fM (by decide), p3.tr fX fM (Nat.le_refl _) (Nat.le_succ _) (by decide), p4.tr fX fM (Nat.le_refl _) (Nat.le_succ _) (by decide), p5.tr fX fM (by decide), p6.tr fX fM (by decide), p7.tr fX fM (Nat.le_refl _) (by decide), p8.tr fX fM (by decide), ?_, p10.tr fX fM (congrFun (fX.1 (35, 0) (by decide) (by decide)) 3) (by decide)⟩
  refine ⟨u3, fun p hp => ?_, fun j hj => ?_, l6, l7, l1_, l2_, l3_, l4_, l8, l9⟩
  · by_cases e : p = np
    · subst e
      refine ⟨⟨x.toNatClampNeg, N, hxl, n1, v0.trans (ix_eq hok.1), v1.trans n2⟩, ⟨?_, ?_, ?_⟩, fun j hj => ?_⟩
      · rw [u155, upd_at, if_pos rfl, v0]
      · rw [u156, upd_at, if_pos rfl, v1]
      · rw [u157, upd_at, if_pos rfl, v2, e00]
      · rw [u158, if_pos ⟨by omega, by omega⟩, v28 j hj, show 8 * p + j - 8 * p = j by omega]
    · have n27 : c1 (27, p) = c (27, p) := zf _ (by simp) (by simp) (by simp) (by simp [e]) (by simp) (by simp)
      have n28 : c1 (28, p) = c (28, p) := zf _ (by simp) (by simp) (by simp [e]) (by simp) (by simp) (by simp)
      obtain ⟨b1, b2, b3⟩ := hpays p (by omega)
      rw [n27, n28, u155, u156, u157, upd_at, if_neg e, upd_at, if_neg e, upd_at, if_neg e]
      refine ⟨b1, b2, fun j hj => ?_⟩
      rw [u158, if_neg (by omega)]
      exact b3 j hj
  · rw [u158, if_neg (by omega)]
    exact h158 j (by omega)
theorem k_again (G : z_G) {t gX gM : Nat} {w : z_w} (hL : KS t gX gM w) (ht : t ≤ 511) (x : Int32) : ∃ jX jM aC aS, jX ≤ 1 ∧ jM ≤ 1 ∧ aC ≤ 2 ∧ aS ≤ 12 ∧ z_M G yX11_again cX11_again 2 (some .int) 6 (4 * jX + aC) (8 * (64 * 2 ^ gX) * jX + aS) [vr (0, 0), vi x] w (fun q w1 => (∀ tt, ¬ dX tt → w1 tt = w tt) ∧ z_M G yX12_again cX12_again 2 (some .int) 3 (4 * jM) (2048 * 2 ^ gM * jM) [vr (100, 0), vi x] w1 (KQ (t + 1) (gX + jX) (gM + jM) q)) := by
  obtain ⟨nb, na, np, c, l, r, d, lM, rM, hX, hM, hC⟩ := hL
  have hC0 := hC
  obtain ⟨y, nc, nt, nr, nl, no, bu, mi, yo, yc, ra, bl, ch, u, p1, p2, p3, p4, p5, p6, p7, p8, p9, p10⟩ := hC
  obtain ⟨bnb, bna, bnp, bgX⟩ : nb ≤ 12 ∧ na ≤ 100 ∧ np ≤ 60 ∧ gX ≤ 6 := ⟨hX.2.1, hX.2.2.1, hX.2.2.2.1, hX.2.2.2.2.1⟩
  obtain ⟨hp3, hpays, h158, hn29, hn4, hcapX, hcapM, hn8, hgM4, hlines, hhold⟩ := id p9
  by_cases hok : ix_ok x np
  rotate_left
  · refine ⟨0, 0, 0, 0, by omega, by omega, by omega, by omega, ?_⟩
    refine (m_X11_againno G hX x hok).imp (fun q w1 h => ⟨?_, ?_⟩)
    · have hs : ∀ {T : z_T → Option r_sh} {c' : r_c} {l' : r_l} {r' : r_r}, r_p dX T w c' l' r' w1 → ∀ tt, ¬ dX tt → w1 tt = w tt := fun z => z.2
      first
      | exact fun _ _ => congrFun h.2 _
      | exact hs h.2
      | (obtain ⟨_, c1, _, z⟩ := h; exact hs z)
      | (refine z_ifq h (fun _ h => ?_) (fun _ h => ?_) <;> first | exact fun _ _ => congrFun h.2 _ | exact hs h.2 | (obtain ⟨_, c1, z, _⟩ := h; exact hs z) | (obtain ⟨_, c1, l1, z, _⟩ := h; exact hs z) | (obtain ⟨_, g1, c1, l1, z, _⟩ := h; exact hs z) | (obtain ⟨_, c1, _, _, _, z⟩ := h; exact hs z))
    obtain ⟨hq, hw⟩ := h
    subst hw
    refine (m_X12_againno G hM np hp3 bnp x hok).imp (fun q2 w2 h2 => ?_)
    obtain ⟨hq2, hw⟩ := h2
    subst hw
    exact kq_same hX hM hC0 hq hq2
  have hxl := ix_lt hok (show np < 2 ^ 31 by omega)
  obtain ⟨⟨bi, co, k1, k2, k3, k4⟩, ⟨k5, k6, k7⟩, k8⟩ := hpays _ hxl
  obtain ⟨m, m1, m2, m3⟩ := claims (y := c (27, x.toNatClampNeg) 2) bnb p7 p8 k1
  obtain ⟨D, hD⟩ : ∃ D : Nat → Int32, D = fun h => s_sh co m h - c (28, x.toNatClampNeg) h := ⟨_, rfl⟩
  obtain ⟨DM, hDM⟩ : ∃ D : Nat → Int32, D = fun h => s_sh co m h - d (158, 0) (8 * x.toNatClampNeg + h) := ⟨_, rfl⟩
  have hDD : ∀ h, h < 8 → DM h = D h := fun h hh => by rw [hD, hDM]; show _ - _ = _ - _; rw [k8 h hh]
  obtain ⟨jX, ejX⟩ : ∃ j, (nl + cn D 8 ≤ 64 * 2 ^ gX ∧ j = 0) ∨ (¬ nl + cn D 8 ≤ 64 * 2 ^ gX ∧ j = 1) := by
    by_cases q : nl + cn D 8 ≤ 64 * 2 ^ gX
    · exact ⟨0, Or.inl ⟨q, rfl⟩⟩
    · exact ⟨1, Or.inr ⟨q, rfl⟩⟩
  obtain ⟨jM, ejM⟩ : ∃ j, (nl + cn D 8 ≤ 256 * 2 ^ gM ∧ j = 0) ∨ (¬ nl + cn D 8 ≤ 256 * 2 ^ gM ∧ j = 1) := by
    by_cases q : nl + cn D 8 ≤ 256 * 2 ^ gM
    · exact ⟨0, Or.inl ⟨q, rfl⟩⟩
    · exact ⟨1, Or.inr ⟨q, rfl⟩⟩
  have c1X : (if nl + cn D 8 ≤ 64 * 2 ^ gX then 0 else 4) = 4 * jX := by
    rcases ejX with ⟨q, e⟩ | ⟨q, e⟩
    · rw [if_pos q, e]
    · rw [if_neg q, e]
  have c2X : (if nl + cn D 8 ≤ 64 * 2 ^ gX then 0 else 8 * (64 * 2 ^ gX)) = 8 * (64 * 2 ^ gX) * jX := by
    rcases ejX with ⟨q, e⟩ | ⟨q, e⟩
    · rw [if_pos q, e]; rfl
    · rw [if_neg q, e, Nat.mul_one]
  have c1M : (if nl + cn D 8 ≤ 256 * 2 ^ gM then 0 else 4) = 4 * jM := by
    rcases ejM with ⟨q, e⟩ | ⟨q, e⟩
    · rw [if_pos q, e]
    · rw [if_neg q, e]
  have c2M : (if nl + cn D 8 ≤ 256 * 2 ^ gM then 0 else 2048 * 2 ^ gM) = 2048 * 2 ^ gM * jM := by
    rcases ejM with ⟨q, e⟩ | ⟨q, e⟩
    · rw [if_pos q, e]; rfl
    · rw [if_neg q, e, Nat.mul_one]
  refine ⟨jX, jM, 0, 0, by omega, by omega, by omega, by omega, ?_⟩
  have hXc := m_X11_again G hX nl nr m hn29 hcapX (by omega) p8.1 p8.2.1 x bi co (fun _ => ⟨k3, k1, k4⟩) (by omega) (fun _ h _ => ⟨m1 h, m2 h⟩) D hD
  rw [c1X, c2X] at hXc
  refine hXc.imp (fun q w1 h => ⟨?_, ?_⟩)
  · have hs : ∀ {T : z_T → Option r_sh} {c' : r_c} {l' : r_l} {r' : r_r}, r_p dX T w c' l' r' w1 → ∀ tt, ¬ dX tt → w1 tt = w tt := fun z => z.2
    first
    | exact fun _ _ => congrFun h.2 _
    | exact hs h.2
    | (obtain ⟨_, c1, _, z⟩ := h; exact hs z)
    | (refine z_ifq h (fun _ h => ?_) (fun _ h => ?_) <;> first | exact fun _ _ => congrFun h.2 _ | exact hs h.2 | (obtain ⟨_, c1, z, _⟩ := h; exact hs z) | (obtain ⟨_, c1, l1, z, _⟩ := h; exact hs z) | (obtain ⟨_, g1, c1, l1, z, _⟩ := h; exact hs z) | (obtain ⟨_, c1, _, _, _, z⟩ := h; exact hs z))
  rw [if_pos hok] at h
  obtain ⟨hq, g1, c1, l1, hX1, hLN, v28, zf⟩ := h
  have hMc := m_X12_again G (kM hX1 hM) nb p2.1 bnb hgM4 nl nr m hn4 hcapM (by omega) p8.2.2.1 p8.2.1 np hp3 bnp x bi co (fun _ => ⟨k5.trans k3, by omega, k6.trans k4⟩) (by omega) (fun _ h _ => ⟨m1 h, by rw [k7]; exact m3 h⟩) DM hDM
  rw [cn_cg hDD, c1M, c2M] at hMc
  refine hMc.imp (fun q2 w2 h2 => ?_)
  rw [if_pos hok] at h2
  obtain ⟨hq2, gm, d1, lM1, hM1, hML, u158, uk, ut⟩ := h2
  have eg1 : g1 = gX + jX := by
    rcases hLN.1 with ⟨e, q⟩ | ⟨e, q⟩ <;> rcases ejX with ⟨q2, e2⟩ | ⟨q2, e2⟩ <;> omega
  have egm : gm = gM + jM := by
    have z := hML.1
    rw [cn_cg (n := 8) hDD] at z
    rcases z with ⟨e, q⟩ | ⟨e, q⟩ <;> rcases ejM with ⟨q2, e2⟩ | ⟨q2, e2⟩ <;> omega
  subst eg1
  subst egm
  obtain ⟨⟨l1_, l2_, l3_, l4_, l5_⟩, l6, l7, l8, l9⟩ := led_join hlines hhold hDD (p1.2.1.trans p1.1.symm) hLN hML hcapX hcapM hn8 ht bgX hgM4
  have fX : frX [47, 45, 28, 29, 30, 31, 32, 33, 34] [] c c1 := ⟨fun t ht h0 => zf t (fun e => ht (by rw [e]; simp)) (fun e => ht (by rw [e]; simp)) (fun e => ht (by rw [e]; simp)) (fr34b ht), fun k hk => by rw [zf (0, 0) (by simp) (by simp) (by simp) (by simp)]⟩
  have fM : frM [117, 118, 158, 159, 160, 161, 162, 163] [4] d d1 := ⟨fun t ht h0 => ut t (fun e => h0 (by rw [e])) (fun e => ht (by rw [e]; simp)) (fun e => ht (by rw [e]; simp)) (fun e => ht (by rw [e]; simp)) (fun e => ht (by rw [e]; simp)) (fr63b ht), fun k hk => uk k (fun e => hk (by rw [e]; simp))⟩
  obtain ⟨X1, X2, X3, X4, X5, X6, X7, X8, X9, X10, X11⟩ := hX
  refine ⟨⟨nI (cn D 8), hq, hq2⟩, nb, na, np, _, _, _, _, _, _, ⟨part_keep hX1 (fun t ht => hM1.2 t (dM_X ht)), bnb, bna, bnp, l5_, (fX.ix (A := [2]) (by decide) (by simp)).trans X6, (fX.ix (A := [8]) (by decide) (by simp)).trans X7, (fX.ix (A := [12]) (by decide) (by simp)).trans X8, X9, X10, X11⟩, part_keep hM1 (fun _ _ => rfl), ?_⟩
  refine ⟨y, nc, nt, nr, nl + cn D 8, no, bu, mi, yo, yc, ra, bl, ch, u, p1.tr fX fM (by decide), p2.tr fX fM (by decide), p3.tr fX fM (Nat.le_refl _) (Nat.le_succ _) (by decide), p4.tr fX fM (Nat.le_refl _) (Nat.le_succ _) (by decide), p5.tr fX fM (by decide), p6.tr fX fM (by decide), p7.tr fX fM (Nat.le_refl _) (by decide), p8.tr fX fM (by decide), ?_, p10.tr fX fM (congrFun (fX.1 (35, 0) (by decide) (by decide)) 3) (by decide)⟩
  refine ⟨(fM.ix (A := [3]) (by decide) (by simp)).trans hp3, fun p hp => ?_, fun j hj => ?_, l6, l7, l1_, l2_, l3_, l4_, l8, l9⟩
  · have n27 : c1 (27, p) = c (27, p) := fX.1 _ (by simp) (by simp)
    obtain ⟨b1, b2, b3⟩ := hpays p hp
    rw [n27, fM.at (A := [155]) (by decide) (k := 155) (by simp), fM.at (A := [156]) (by decide) (k := 156) (by simp), fM.at (A := [157]) (by decide) (k := 157) (by simp)]
    refine ⟨b1, b2, fun j hj => ?_⟩
    rw [u158]
    by_cases e : p = x.toNatClampNeg
    · subst e
      rw [if_pos ⟨by omega, by omega⟩, v28 j, if_pos hj, show 8 * x.toNatClampNeg + j - 8 * x.toNatClampNeg = j by omega]
    · rw [if_neg (by omega), zf (28, p) (by simp) (by simp) (by simp [e]) (by simp)]
      exact b3 j hj
  · rw [u158, if_neg (by omega)]
    exact h158 j hj
