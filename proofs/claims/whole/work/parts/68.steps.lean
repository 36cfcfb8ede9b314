/-! one lemma a call: rules, draw -/
theorem dg_ge {b : Int32} (h : 48 ≤ b ∧ b ≤ 57) : 0 ≤ b - 48 := by
  have h0 : (0 : Int32) ≤ b := Int32.le_trans (show (0 : Int32) ≤ 48 by decide) h.1
  obtain ⟨j, j1, j2⟩ := nI_of2 (n := 57) (by decide) (pos_0 h0) h.2
  have h1 := h.1
  rw [j2] at h1 ⊢
  have h3 : 48 ≤ j := (nI_leI (a := 48) (by omega) (by omega)).mp h1
  rw [show (48 : Int32) = nI 48 from rfl, pk_sub h3]
  exact (nI_leI (a := 0) (by omega) (by omega)).mpr (Nat.zero_le _)
theorem tp_ln_air (c : r_c) (f : Nat → Int32) (h : ∀ i, 0 ≤ c (12, 0) i) : ∀ n i, 0 ≤ (tp_ln c f n).2.2 (12, 0) i
  | 0, i => by
    show 0 ≤ r_cs c (8, 0) 4 0 (12, 0) i
    rw [r_cs, r_cf_ne (by simp)]; exact h i
  | n + 1, i => by
    have ih := tp_ln_air c f h n
    show 0 ≤ (tp_l1 (tp_ln c f n) (f n)).2.2 (12, 0) i
    unfold tp_l1
    split
    · show 0 ≤ tp_oc _ _ _ (12, 0) i
      rw [tp_oc_ne (by simp) (by simp) (by simp)]; exact ih i
    · split
      · exact ih i
      · show 0 ≤ tp_lw _ _ _ _ (12, 0) i
        unfold tp_lw
        split
        · exact ih i
        · split
          · rw [r_cs, r_cf_ne (by simp)]; exact ih i
          · split
            · rename_i hd
              rw [r_cs, r_cf_self, upd_at]
              split
              · exact dg_ge hd.1
              · exact ih i
            · split
              · rw [r_cs, r_cf_ne (by simp)]; exact ih i
              · exact ih i
theorem k_rules (G : z_G) {t gX gM : Nat} {w : z_w} (hL : KS t gX gM w) : z_M G yX11_rules cX11_rules 1 (some .boolean) 5 (0) (0) [vr (0, 0)] w (fun q w1 => (∀ tt, ¬ dX tt → w1 tt = w tt) ∧ z_M G yX12_rules cX12_rules 2 (some .boolean) 4 (0) (0) [vr (100, 0)] w1 (KQ (t + 1) gX gM q)) := by
  obtain ⟨nb, na, np, c, l, r, d, lM, rM, hX, hM, hC⟩ := hL
  have hC0 := hC
  obtain ⟨y, nc, nt, nr, nl, no, bu, mi, yo, yc, ra, bl, ch, u, p1, p2, p3, p4, p5, p6, p7, p8, p9, p10⟩ := hC
  obtain ⟨bnb, bna, bnp, bgX⟩ : nb ≤ 12 ∧ na ≤ 100 ∧ np ≤ 60 ∧ gX ≤ 6 := ⟨hX.2.1, hX.2.2.1, hX.2.2.2.1, hX.2.2.2.2.1⟩
  have e7 := p6.2.2.2.1
  refine (m_X11_rules G hX nt p6.1 p6.2.1).imp (fun q w1 h => ⟨?_, ?_⟩)
  · have hs : ∀ {T : z_T → Option r_sh} {c' : r_c} {l' : r_l} {r' : r_r}, r_p dX T w c' l' r' w1 → ∀ tt, ¬ dX tt → w1 tt = w tt := fun z => z.2
    first
    | exact fun _ _ => congrFun h.2 _
    | exact hs h.2
    | (obtain ⟨_, c1, _, z⟩ := h; exact hs z)
    | (refine z_ifq h (fun _ h => ?_) (fun _ h => ?_) <;> first | exact fun _ _ => congrFun h.2 _ | exact hs h.2 | (obtain ⟨_, c1, z, _⟩ := h; exact hs z) | (obtain ⟨_, c1, l1, z, _⟩ := h; exact hs z) | (obtain ⟨_, g1, c1, l1, z, _⟩ := h; exact hs z) | (obtain ⟨_, c1, _, _, _, z⟩ := h; exact hs z))
  by_cases hA : tp_ff (c (7, 0)) nt = -1
  · rw [if_pos hA] at h
    obtain ⟨hq, hX1⟩ := h
    refine (m_X12_rules G (kM hX1 hM) nt p6.2.2.1 p6.2.1 (fun i _ => by rw [e7]; exact p6.2.2.2.2 i) c).imp (fun q2 w2 h2 => ?_)
    rw [if_pos (by rw [e7]; exact hA)] at h2
    rw [e7] at h2
    obtain ⟨hq2, d1, m, hM1, z34, z40, zm, zc, z32, z1, z2⟩ := h2
    have h12 := tp_ln_air c (c (7, 0)) p5.2.2.2.2 nt
    have h4 := tp_ln_4 c (c (7, 0)) nt
    have hin : ∀ {t : z_T}, t ≠ (8, 0) → t ≠ (9, 0) → t ≠ (10, 0) → t ≠ (11, 0) → t ≠ (12, 0) → (tp_ln c (c (7, 0)) nt).2.2 t = c t := fun a1 a2 a3 a4 a5 => tp_ln_in c (c (7, 0)) nt a1 a2 a3 a4 a5
    rw [zm] at h4
    generalize (tp_ln c (c (7, 0)) nt).2.2 = T at hX1 zc h12 h4 hin
    have fX : frX [6, 8, 9, 10, 11, 12] [] c (r_cs T (6, 0) 1 0) := frX.cs ⟨fun t ht h0 => hin (fun e => ht (by rw [e]; simp)) (fun e => ht (by rw [e]; simp)) (fun e => ht (by rw [e]; simp)) (fun e => ht (by rw [e]; simp)) (fun e => ht (by rw [e]; simp)), fun k _ => by rw [hin (by simp) (by simp) (by simp) (by simp) (by simp)]⟩ (by simp) (by simp)
    have fM : frM [136, 137, 138, 139, 140, 141, 142, 143] [32, 33, 34, 35] d d1 := ⟨fun t ht h0 => z2 t (fun e => h0 (by rw [e])) (fun e => ht (by rw [e]; simp)) (fun e => ht (by rw [e]; simp)) (fun e => ht (by rw [e]; simp)) (fun e => ht (by rw [e]; simp)) (fun e => ht (by rw [e]; simp)) (fun e => ht (by rw [e]; simp)) (fun e => ht (by rw [e]; simp)) (fun e => ht (by rw [e]; simp)), fun k hk => z1 k (fun e => hk (by rw [e]; simp)) (fun e => hk (by rw [e]; simp)) (fun e => hk (by rw [e]; simp)) (fun e => hk (by rw [e]; simp))⟩
    refine kq_com hX hX1 hM1 fX rfl ?_ hq hq2
    refine ⟨y, m, 0, nr, nl, no, bu, mi, yo, yc, ra, bl, ch, u, p1.tr fX fM (by decide), p2.tr fX fM (by decide), p3.tr fX fM (Nat.le_refl _) (Nat.le_succ _) (by decide), p4.tr fX fM (Nat.le_refl _) (Nat.le_succ _) (by decide), ?_, ?_, p7.tr fX fM (Nat.le_refl _) (by decide), p8.tr fX fM (by decide), p9.tr fX fM (Nat.le_refl _) (Nat.le_succ _) (by decide), p10.tr fX fM (congrFun (fX.1 (35, 0) (by decide) (by decide)) 3) (by decide)⟩
    · refine ⟨by rw [r_cs, r_cf_ne (by simp)]; exact h4, z40, z34, fun i hi => ?_, fun i => by rw [r_cs, r_cf_ne (by simp)]; exact h12 i⟩
      rw [r_cs, r_cf_ne (by simp), r_cf_ne (by simp), r_cf_ne (by simp), r_cf_ne (by simp)]
      exact zc i hi
    · refine ⟨by rw [r_cs_at, if_pos ⟨rfl, rfl, rfl⟩]; rfl, by omega, z32, ?_, fun i => ?_⟩
      · rw [fM.at (A := [131]) (by decide) (by simp), r_cs, r_cf_ne (by simp), hin (by simp) (by simp) (by simp) (by simp) (by simp)]
        exact e7
      · rw [r_cs, r_cf_ne (by simp), hin (by simp) (by simp) (by simp) (by simp) (by simp)]
        exact p6.2.2.2.2 i
  · rw [if_neg hA] at h
    obtain ⟨hq, hw⟩ := h
    subst hw
    refine (m_X12_rules G hM nt p6.2.2.1 p6.2.1 (fun i _ => by rw [e7]; exact p6.2.2.2.2 i) c).imp (fun q2 w2 h2 => ?_)
    rw [if_neg (by rw [e7]; exact hA)] at h2
    obtain ⟨hq2, d1, hM1, z1, z2⟩ := h2
    have fX : frX [] [] c c := frX.rf
    have fM : frM [140, 141, 142, 143] [33, 35] d d1 := ⟨fun t ht h0 => z2 t (fun e => h0 (by rw [e])) (fun e => ht (by rw [e]; simp)) (fun e => ht (by rw [e]; simp)) (fun e => ht (by rw [e]; simp)) (fun e => ht (by rw [e]; simp)), fun k hk => z1 k (fun e => hk (by rw [e]; simp)) (fun e => hk (by rw [e]; simp))⟩
    refine kq_com hX hX.1 hM1 fX rfl ?_ hq hq2
    exact ⟨y, nc, nt, nr, nl, no, bu, mi, yo, yc, ra, bl, ch, u, p1.tr fX fM (by decide), p2.tr fX fM (by decide), p3.tr fX fM (Nat.le_refl _) (Nat.le_succ _) (by decide), p4.tr fX fM (Nat.le_refl _) (Nat.le_succ _) (by decide), p5.tr fX fM (by decide), p6.tr fX fM (by decide), p7.tr fX fM (Nat.le_refl _) (by decide), p8.tr fX fM (by decide), p9.tr fX fM (Nat.le_refl _) (Nat.le_succ _) (by decide), p10.tr fX fM (congrFun (fX.1 (35, 0) (by decide) (by decide)) 3) (by decide)⟩
theorem n_iron_cg {f g f' g' : Nat → Int32} : ∀ {n}, (∀ i, i < n → f i = f' i ∧ g i = g' i) → n_iron f g n = n_iron f' g' n
  | 0, _ => rfl
  | n + 1, h => by rw [n_iron, n_iron, n_iron_cg (fun i hi => h i (by omega)), (h n (by omega)).1, (h n (by omega)).2]
theorem i64_999 (x : Int64) : x + 1000 - 1 = x + 999 := by
  rw [Int64.sub_eq_add_neg, Int64.add_assoc]; rfl
def u0 (u : Nat → Int32) : Nat → Int32 := fun k => if k ≤ 10 then 0 else if k = 11 then -1 else u k
theorem drM {k : Nat} (hk : k ∉ [2, 7, 22, 23, 24, 25, 26, 27, 28]) : k ≠ 2 ∧ k ≠ 7 ∧ (k < 22 ∨ 28 < k) := by
  simp only [List.mem_cons, List.not_mem_nil, or_false] at hk
  omega
theorem k_draw (G : z_G) {t gX gM : Nat} {w : z_w} (hL : KS t gX gM w) (ht : t ≤ 511) : z_M G yX11_draw cX11_draw 2 (some .int) 4 (3) (27) [vr (0, 0)] w (fun q w1 => (∀ tt, ¬ dX tt → w1 tt = w tt) ∧ z_M G yX12_draw cX12_draw 6 (some .int) 3 (0) (0) [vr (100, 0)] w1 (KQ (t + 1) gX gM q)) := by
  obtain ⟨nb, na, np, c, l, r, d, lM, rM, hX, hM, hC⟩ := hL
  have hC0 := hC
  obtain ⟨y, nc, nt, nr, nl, no, bu, mi, yo, yc, ra, bl, ch, u, p1, p2, p3, p4, p5, p6, p7, p8, p9, p10⟩ := hC
  obtain ⟨bnb, bna, bnp, bgX⟩ : nb ≤ 12 ∧ na ≤ 100 ∧ np ≤ 60 ∧ gX ≤ 6 := ⟨hX.2.1, hX.2.2.1, hX.2.2.2.1, hX.2.2.2.2.1⟩
  obtain ⟨⟨x1, x2, x3, x4, x5, x6⟩, ⟨m1, m2, m3, m4⟩, h3, h4, h5, h6, h7, h8, h9, h10, h11, h12, h13⟩ := p4
  have hch : ∀ i, i < 8 → ch i < 2 ^ 31 := fun i hi => by
    have := p_sm_one (f := ch) hi
    omega
  have hE : (na < 100 ∧ ¬ z_sum (c (15, 0)) 12 = 0) ↔ (na < 100 ∧ ¬ z_sum (d (121, 0)) 12 = 0) := by
    rw [z_sum_nI m2, x2, z_sum_nI (m := bl) (fun _ _ => rfl)]
  refine (m_X11_draw G hX bu ch ((x6 5 (by omega) (by omega)).trans h6) (by omega) (fun i hi => ⟨hch i hi, by rw [x3]⟩)).imp (fun q w1 h => ⟨?_, ?_⟩)
  · have hs : ∀ {T : z_T → Option r_sh} {c' : r_c} {l' : r_l} {r' : r_r}, r_p dX T w c' l' r' w1 → ∀ tt, ¬ dX tt → w1 tt = w tt := fun z => z.2
    first
    | exact fun _ _ => congrFun h.2 _
    | exact hs h.2
    | (obtain ⟨_, c1, _, z⟩ := h; exact hs z)
    | (refine z_ifq h (fun _ h => ?_) (fun _ h => ?_) <;> first | exact fun _ _ => congrFun h.2 _ | exact hs h.2 | (obtain ⟨_, c1, z, _⟩ := h; exact hs z) | (obtain ⟨_, c1, l1, z, _⟩ := h; exact hs z) | (obtain ⟨_, g1, c1, l1, z, _⟩ := h; exact hs z) | (obtain ⟨_, c1, _, _, _, z⟩ := h; exact hs z))
  by_cases hA : na < 100 ∧ ¬ z_sum (c (15, 0)) 12 = 0
  · rw [if_pos hA] at h
    obtain ⟨hq, c1, l1, hX1, ⟨b2, b3, b4, b5, b6⟩, b19, b20, z0, z14, z15, z16, z13, zf⟩ := h
    refine (m_X12_draw G (kM hX1 hM) nb p2.1 bnb na p7.1 bna bu ((m4 5 (by omega) (by omega)).trans h6) (by omega) ch (fun i hi => ⟨hch i hi, m3 i hi⟩) h7).imp (fun q2 w2 h2 => ?_)
    rw [if_pos (hE.mp hA)] at h2
    obtain ⟨hq2, d1, lM1, hM1, y144, y145, y146, y147, y148, y149, y150, yna, y7, y22, y28, yk, y119, y121, y120, ym⟩ := h2
    obtain ⟨X1, X2, X3, X4, X5, X6, X7, X8, X9, X10, X11⟩ := hX
    have hr17 : ∀ i, i < na + 1 → r_cf r (17, 0) (va_up (r (17, 0)) na (some (18, na))) (17, 0) i = some (18, i) := fun i hi => by
      rw [r_cf_self]
      by_cases e : i = na
      · subst e; simp [va_up]
      · simp [va_up, e]; exact X10 i (by omega)
    have fX : frX [45, 18, 19, 20, 13, 14, 15, 16] [8, 9] c c1 := ⟨fun t ht h0 => zf t (fun e => ht (by rw [e]; simp)) (fun e => ht (by rw [e]; simp)) (fun e => ht (by rw [e]; simp)) (fun e => ht (by rw [e]; simp)) (fun e => h0 (by rw [e])) (fun e => ht (by rw [e]; simp)) (fun e => ht (by rw [e]; simp)) (fun e => ht (by rw [e]; simp)) (fun e => ht (by rw [e]; simp)), fun k hk => by rw [z0, upd_at, if_neg (fun e => hk (by rw [e]; simp)), upd_at, if_neg (fun e => hk (by rw [e]; simp))]⟩
    have fM : frM [117, 118, 119, 120, 121, 144, 145, 146, 147, 148, 149, 150] [2, 7, 22, 23, 24, 25, 26, 27, 28] d d1 := ⟨fun t ht h0 => ym t (fun e => h0 (by rw [e])) (fun e => ht (by rw [e]; simp)) (fun e => ht (by rw [e]; simp)) (fun e => ht (by rw [e]; simp)) (fun e => ht (by rw [e]; simp)) (fun e => ht (by rw [e]; simp)) (fun e => ht (by rw [e]; simp)) (fun e => ht (by rw [e]; simp)) (fun e => ht (by rw [e]; simp)) (fun e => ht (by rw [e]; simp)) (fun e => ht (by rw [e]; simp)) (fun e => ht (by rw [e]; simp)) (fun e => ht (by rw [e]; simp)), fun k hk => yk k (drM hk).1 (drM hk).2.1 (drM hk).2.2⟩
    refine ⟨⟨nI na, hq, hq2⟩, nb, na + 1, np, _, _, _, _, _, _, ⟨part_keep hX1 (fun t ht => hM1.2 t (dM_X ht)), bnb, by omega, bnp, bgX, (fX.ix (A := [2]) (by decide) (by simp)).trans X6, by rw [z0, upd_at, if_pos rfl], (fX.ix (A := [12]) (by decide) (by simp)).trans X8, fun i hi => by rw [r_cf_ne (by simp)]; exact X9 i hi, hr17, fun i hi => by rw [r_cf_ne (by simp)]; exact X11 i hi⟩, part_keep hM1 (fun _ _ => rfl), ?_⟩
    refine ⟨y, nc, nt, nr, nl, no, 0, 0, yo, yc, (fun _ => 0), (fun _ => 0), (fun _ => 0), (u0 u), ?_, p2.tr fX fM (by decide), p3.tr fX fM (Nat.le_refl _) (Nat.le_succ _) (by decide), ?_, p5.tr fX fM (by decide), p6.tr fX fM (by decide), ?_, p8.tr fX fM (by decide), ?_, p10.tr fX fM (congrFun (fX.1 (35, 0) (by decide) (by decide)) 3) (by decide)⟩
    · obtain ⟨q1, q2, q3, q4⟩ := p1
      refine ⟨(fX.ix (A := [0]) (by decide) (by simp)).trans q1, (fM.ix (A := [0]) (by decide) (by simp)).trans q2, q3, ?_⟩
      rw [z0, upd_at, if_neg (by omega), upd_at, if_pos rfl, y7, z_sum_nI m1, x4, q4]
    · refine ⟨⟨z14, z15, z16, ?_, ?_, fun j j1 j2 => ?_⟩, ⟨y119, y121, y120, fun j j1 j2 => ?_⟩, fun _ _ => ⟨rfl, rfl⟩, Nat.zero_le _, Nat.zero_le _, rfl, Nat.zero_le _, rfl, by omega, Nat.zero_le _, ?_, ?_, ?_⟩
      · rw [z13]; rfl
      · rw [z13]; exact (show (0 : Int32) = 0 - 0 by decide)
      · rw [z13]
        rcases (show j = 5 ∨ j = 6 ∨ j = 7 ∨ j = 8 ∨ j = 9 ∨ j = 10 ∨ j = 11 ∨ j = 12 ∨ j = 13 by omega) with e | e | e | e | e | e | e | e | e <;> subst e <;> first | rfl | exact x6 _ j1 j2
      · rcases (show j = 5 ∨ j = 6 ∨ j = 7 ∨ j = 8 ∨ j = 9 ∨ j = 10 ∨ j = 11 ∨ j = 12 ∨ j = 13 by omega) with e | e | e | e | e | e | e | e | e <;> subst e <;> first | exact y22 _ (by omega) (by omega) | exact y28 | exact (yk _ (by omega) (by omega) (by omega)).trans (m4 _ j1 j2)
      · exact h11
      · exact h12
      · exact (show (0 : Int32) ≤ 0 by decide)
    · obtain ⟨q1, q2, q3, q4⟩ := p7
      have hna := hA.1
      have ebl : ∀ k, k < 12 → d (121, 0) k = c (15, 0) k := fun k hk => by rw [m2 k hk, x2]
      have hni : ∀ (f g : Nat → Int32), (∀ j, j < nb → f j = g j) → n_iron (d (121, 0)) f nb = n_iron (c (15, 0)) g nb := fun f g hfg => n_iron_cg (fun j hj => ⟨ebl j (by omega), hfg j hj⟩)
      refine ⟨yna, fun b hb => ?_, fun j hj => ?_, fun j hj => ?_⟩
      · by_cases e : b = na
        · subst e
          refine ⟨fun k hk => ?_, fun k hk => ?_, ⟨?_, ?_, ?_, ?_, ?_⟩, bl, fun k hk => ?_, by omega, fun k hk => (h3 k hk).2⟩
          · rw [y144, b19 k hk]
            unfold blk
            by_cases hk2 : k < nb
            · rw [if_pos ⟨by omega, by omega⟩, show 12 * b + k - 12 * b = k by omega]; exact ebl k hk
            · rw [if_neg (by omega), q3 _ (by omega), x2]
              show (0 : Int32) = nI (bl k)
              rw [(h3 k (by omega)).2]; rfl
          · rw [y145, b20 k]
            unfold blk ptf
            rw [if_pos ⟨by omega, by omega⟩, show 8 * b + k - 8 * b = k by omega, if_pos hk]
          · rw [y146, upd_at, if_pos rfl, b4, hni _ (fun j => c (2, j) 3) (fun j hj => (p2.2 j hj).1.2.2.2.1)]
          · rw [y147, upd_at, if_pos rfl, b5, hni _ (fun j => c (2, j) 4) (fun j hj => (p2.2 j hj).1.2.2.2.2.1), i64_999]
          · rw [y148, upd_at, if_pos rfl, b2, m4 10 (by omega) (by omega), x6 10 (by omega) (by omega)]
          · rw [y149, upd_at, if_pos rfl, b6]
          · rw [y150, upd_at, if_pos rfl, b3, p1.1, p1.2.1]
          · rw [b19 k hk, x2]
        · obtain ⟨a1, a2, a3, a4⟩ := q2 b (by omega)
          have n18 : c1 (18, b) = c (18, b) := zf _ (by simp) (by simp [e]) (by simp) (by simp) (by simp) (by simp) (by simp) (by simp) (by simp)
          have n19 : c1 (19, b) = c (19, b) := zf _ (by simp) (by simp) (by simp [e]) (by simp) (by simp) (by simp) (by simp) (by simp) (by simp)
          have n20 : c1 (20, b) = c (20, b) := zf _ (by simp) (by simp) (by simp) (by simp [e]) (by simp) (by simp) (by simp) (by simp) (by simp)
          rw [n18, n19, n20, y146, y147, y148, y149, y150, upd_at, if_neg e, upd_at, if_neg e, upd_at, if_neg e, upd_at, if_neg e, upd_at, if_neg e]
          refine ⟨fun k hk => ?_, fun k hk => ?_, a3, a4⟩
          · rw [y144]; unfold blk
            rw [if_neg (by omega)]; exact a1 k hk
          · rw [y145]; unfold blk
            rw [if_neg (by omega)]; exact a2 k hk
      · rw [y144]; unfold blk
        rw [if_neg (by omega)]; exact q3 j (by omega)
      · rw [y145]; unfold blk
        rw [if_neg (by omega)]; exact q4 j (by omega)
    · exact p9.tr fX fM (Nat.le_succ _) (Nat.le_succ _) (by decide)
  · rw [if_neg hA] at h
    obtain ⟨hq, hw⟩ := h
    subst hw
    refine (m_X12_draw G hM nb p2.1 bnb na p7.1 bna bu ((m4 5 (by omega) (by omega)).trans h6) (by omega) ch (fun i hi => ⟨hch i hi, m3 i hi⟩) h7).imp (fun q2 w2 h2 => ?_)
    rw [if_neg (fun z => hA (hE.mpr z))] at h2
    obtain ⟨hq2, hw⟩ := h2
    subst hw
    exact kq_same hX hM hC0 hq hq2
