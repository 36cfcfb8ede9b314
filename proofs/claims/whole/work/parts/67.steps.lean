/-! one lemma a call: fault, charge, blow -/
theorem k_fault (G : z_G) {t gX gM : Nat} {w : z_w} (hL : KS t gX gM w) : z_M G yX11_fault cX11_fault 1 (some .int) 5 (0) (0) [vr (0, 0)] w (fun q w1 => (∀ tt, ¬ dX tt → w1 tt = w tt) ∧ z_M G yX12_fault cX12_fault 2 (some .int) 3 (0) (0) [vr (100, 0)] w1 (KQ (t + 1) gX gM q)) := by
  obtain ⟨nb, na, np, c, l, r, d, lM, rM, hX, hM, hC⟩ := hL
  have hC0 := hC
  obtain ⟨y, nc, nt, nr, nl, no, bu, mi, yo, yc, ra, bl, ch, u, p1, p2, p3, p4, p5, p6, p7, p8, p9, p10⟩ := hC
  obtain ⟨bnb, bna, bnp, bgX⟩ : nb ≤ 12 ∧ na ≤ 100 ∧ np ≤ 60 ∧ gX ≤ 6 := ⟨hX.2.1, hX.2.2.1, hX.2.2.2.1, hX.2.2.2.2.1⟩
  refine (m_X11_fault G hX nt p6.1 p6.2.1).imp (fun q w1 h => ⟨?_, ?_⟩)
  · have hs : ∀ {T : z_T → Option r_sh} {c' : r_c} {l' : r_l} {r' : r_r}, r_p dX T w c' l' r' w1 → ∀ tt, ¬ dX tt → w1 tt = w tt := fun z => z.2
    first
    | exact fun _ _ => congrFun h.2 _
    | exact hs h.2
    | (obtain ⟨_, c1, _, z⟩ := h; exact hs z)
    | (refine z_ifq h (fun _ h => ?_) (fun _ h => ?_) <;> first | exact fun _ _ => congrFun h.2 _ | exact hs h.2 | (obtain ⟨_, c1, z, _⟩ := h; exact hs z) | (obtain ⟨_, c1, l1, z, _⟩ := h; exact hs z) | (obtain ⟨_, g1, c1, l1, z, _⟩ := h; exact hs z) | (obtain ⟨_, c1, _, _, _, z⟩ := h; exact hs z))
  obtain ⟨hq, hw⟩ := h
  subst hw
  refine (m_X12_fault G hM nt p6.2.2.1 p6.2.1 (fun i _ => by rw [p6.2.2.2.1]; exact p6.2.2.2.2 i) c).imp (fun q2 w2 h2 => ?_)
  obtain ⟨hq2, d1, hM1, z1, z2, z3⟩ := h2
  have fX : frX [] [] c c := frX.rf
  have fM : frM [140, 141, 142, 143] [33, 35] d d1 := ⟨fun t ht h0 => z2 t (fun e => h0 (by rw [e])) (fun e => ht (by rw [e]; simp)) (fun e => ht (by rw [e]; simp)) (fun e => ht (by rw [e]; simp)) (fun e => ht (by rw [e]; simp)), fun k hk => z1 k (fun e => hk (by rw [e]; simp)) (fun e => hk (by rw [e]; simp))⟩
  refine kq_com hX hX.1 hM1 fX rfl ?_ hq (hq2.trans (by rw [p6.2.2.2.1]))
  exact ⟨y, nc, nt, nr, nl, no, bu, mi, yo, yc, ra, bl, ch, u, p1.tr fX fM (by decide), p2.tr fX fM (by decide), p3.tr fX fM (Nat.le_refl _) (Nat.le_succ _) (by decide), p4.tr fX fM (Nat.le_refl _) (Nat.le_succ _) (by decide), p5.tr fX fM (by decide), p6.tr fX fM (by decide), p7.tr fX fM (Nat.le_refl _) (by decide), p8.tr fX fM (by decide), p9.tr fX fM (Nat.le_refl _) (Nat.le_succ _) (by decide), p10.tr fX fM (congrFun (fX.1 (35, 0) (by decide) (by decide)) 3) (by decide)⟩
theorem k_charge (G : z_G) {t gX gM : Nat} {w : z_w} (hL : KS t gX gM w) (ht : t ≤ 511) (o k : Int32) : z_M G yX11_charge cX11_charge 3 (some .boolean) 4 (0) (0) [vr (0, 0), vi o, vi k] w (fun q w1 => (∀ tt, ¬ dX tt → w1 tt = w tt) ∧ z_M G yX12_charge cX12_charge 4 (some .boolean) 3 (0) (0) [vr (100, 0), vi o, vi k] w1 (KQ (t + 1) gX gM q)) := by
  obtain ⟨nb, na, np, c, l, r, d, lM, rM, hX, hM, hC⟩ := hL
  have hC0 := hC
  obtain ⟨y, nc, nt, nr, nl, no, bu, mi, yo, yc, ra, bl, ch, u, p1, p2, p3, p4, p5, p6, p7, p8, p9, p10⟩ := hC
  obtain ⟨bnb, bna, bnp, bgX⟩ : nb ≤ 12 ∧ na ≤ 100 ∧ np ≤ 60 ∧ gX ≤ 6 := ⟨hX.2.1, hX.2.2.1, hX.2.2.2.1, hX.2.2.2.2.1⟩
  have hyo : ∀ i, i < 12 → yo i < 2 ^ 31 := fun i hi => by
    have := p_sm_one (f := yo) hi
    have := p3.2.2.1
    omega
  have hyc : ∀ i, i < 8 → yc i < 2 ^ 31 := fun i hi => by
    have := p3.2.2.2.2.2.2 i
    omega
  have hsc : p_sm yc 8 ≤ 8 * 1000000 := p_sm_bd (fun i _ => p3.2.2.2.2.2.2 i)
  have hso := p3.2.2.1
  have hE : ((0 ≤ o ∧ o ≤ 5000) ∧ (0 ≤ k ∧ k ≤ 5000) ∧ ¬ o + k = 0 ∧ ¬ z_sum (c (4, 0)) 12 < o ∧ ¬ z_sum (c (5, 0)) 8 < k) ↔ ((0 ≤ o ∧ o ≤ 5000) ∧ (0 ≤ k ∧ k ≤ 5000) ∧ ¬ o + k = 0 ∧ ¬ z_sum (d (114, 0)) 12 < o ∧ ¬ z_sum (d (115, 0)) 8 < k) := by
    rw [z_sum_nI p3.2.1, z_sum_nI (m := yo) (fun i _ => p3.1 i), z_sum_nI p3.2.2.2.2.2.1, z_sum_nI (m := yc) (fun i _ => p3.2.2.2.2.1 i)]
  refine (m_X11_charge G hX o k yo yc (fun i hi => ⟨hyo i hi, p3.1 i⟩) (fun i hi => ⟨hyc i hi, p3.2.2.2.2.1 i⟩)).imp (fun q w1 h => ⟨?_, ?_⟩)
  · have hs : ∀ {T : z_T → Option r_sh} {c' : r_c} {l' : r_l} {r' : r_r}, r_p dX T w c' l' r' w1 → ∀ tt, ¬ dX tt → w1 tt = w tt := fun z => z.2
    first
    | exact fun _ _ => congrFun h.2 _
    | exact hs h.2
    | (obtain ⟨_, c1, _, z⟩ := h; exact hs z)
    | (refine z_ifq h (fun _ h => ?_) (fun _ h => ?_) <;> first | exact fun _ _ => congrFun h.2 _ | exact hs h.2 | (obtain ⟨_, c1, z, _⟩ := h; exact hs z) | (obtain ⟨_, c1, l1, z, _⟩ := h; exact hs z) | (obtain ⟨_, g1, c1, l1, z, _⟩ := h; exact hs z) | (obtain ⟨_, c1, _, _, _, z⟩ := h; exact hs z))
  by_cases hA : (0 ≤ o ∧ o ≤ 5000) ∧ (0 ≤ k ∧ k ≤ 5000) ∧ ¬ o + k = 0 ∧ ¬ z_sum (c (4, 0)) 12 < o ∧ ¬ z_sum (c (5, 0)) 8 < k
  · rw [if_pos hA] at h
    obtain ⟨hq, c1, l1, hX1, z4, z14, z5, z16, z13, zf⟩ := h
    refine (m_X12_charge G (kM hX1 hM) o k yo yc (fun i hi => ⟨hyo i hi, p3.2.1 i hi⟩) (fun i hi => ⟨hyc i hi, p3.2.2.2.2.2.1 i hi⟩) (by omega) (by omega)).imp (fun q2 w2 h2 => ?_)
    rw [if_pos (hE.mp hA)] at h2
    obtain ⟨hq2, d1, lM1, hM1, y14, y15, zm⟩ := h2
    obtain ⟨O, o1, o2⟩ := nI_of2 (n := 5000) (by decide) (pos_0 hA.1.1) hA.1.2
    obtain ⟨K, k1, k2⟩ := nI_of2 (n := 5000) (by decide) (pos_0 hA.2.1.1) hA.2.1.2
    have eO : o.toNatClampNeg = O := by rw [o2, nI_clamp (by omega)]
    have eK : k.toNatClampNeg = K := by rw [k2, nI_clamp (by omega)]
    have hO : O ≤ p_sm yo 12 := by
      have z := hA.2.2.2.1
      rw [z_sum_nI (m := yo) (fun i _ => p3.1 i), o2] at z
      exact Nat.le_of_not_lt (fun q => z (nI_lt q (by omega)))
    have hK : K ≤ p_sm yc 8 := by
      have z := hA.2.2.2.2
      rw [z_sum_nI (m := yc) (fun i _ => p3.2.2.2.2.1 i), k2] at z
      exact Nat.le_of_not_lt (fun q => z (nI_lt q (by omega)))
    rw [eO] at z4 z14 y14
    rw [eK] at z5 z16 y15
    have sO := ptt_sum hO
    have sK := ptt_sum hK
    have fX : frX [45, 4, 14, 5, 16, 13] [] c c1 := ⟨fun t ht h0 => zf t (fun e => ht (by rw [e]; simp)) (fun e => ht (by rw [e]; simp)) (fun e => ht (by rw [e]; simp)) (fun e => ht (by rw [e]; simp)) (fun e => ht (by rw [e]; simp)) (fun e => ht (by rw [e]; simp)), fun k _ => by rw [zf (0, 0) (by simp) (by simp) (by simp) (by simp) (by simp) (by simp)]⟩
    have fM : frM [114, 115, 117, 118, 119, 120] [] d d1 := ⟨fun t ht h0 => zm t (fun e => ht (by rw [e]; simp)) (fun e => ht (by rw [e]; simp)) (fun e => ht (by rw [e]; simp)) (fun e => ht (by rw [e]; simp)) (fun e => ht (by rw [e]; simp)) (fun e => ht (by rw [e]; simp)), fun k _ => by rw [zm (100, 0) (by simp) (by simp) (by simp) (by simp) (by simp) (by simp)]⟩
    refine kq_com hX hX1 hM1 fX rfl ?_ hq (hq2)
    refine ⟨y, nc, nt, nr, nl, no, bu, mi, (fun i => yo i - ptt O yo 12 i), (fun i => yc i - ptt K yc 8 i), (fun i => ra i + ptt O yo 12 i), bl, (fun i => ch i + ptt K yc 8 i), u, p1.tr fX fM (by decide), p2.tr fX fM (by decide), ?_, ?_, p5.tr fX fM (by decide), p6.tr fX fM (by decide), p7.tr fX fM (Nat.le_refl _) (by decide), p8.tr fX fM (by decide), p9.tr fX fM (Nat.le_refl _) (Nat.le_succ _) (by decide), p10.tr fX fM (congrFun (fX.1 (35, 0) (by decide) (by decide)) 3) (by decide)⟩
    · obtain ⟨y1, y2, y3, y4, y5, y6, y7⟩ := p3
      refine ⟨fun i => ?_, fun i hi => ?_, ?_, fun i hi => ?_, fun i => ?_, fun i hi => ?_, fun i => ?_⟩
      · rw [z4]; exact (congrArg (· - nI (ptt O yo 12 i)) (y1 i)).trans (pk_sub (ptt_le hO i))
      · rw [(y14 i hi).1, y2 i hi]; exact pk_sub (ptt_le hO i)
      · have := (p_sm_sub (f := yo) (g := ptt O yo 12) (n := 12) (fun i _ => ptt_le hO i)).1
        omega
      · show yo i - _ = 0
        rw [y4 i hi]; exact Nat.zero_sub _
      · rw [z5]; exact (congrArg (· - nI (ptt K yc 8 i)) (y5 i)).trans (pk_sub (ptt_le hK i))
      · rw [(y15 i hi).1, y6 i hi]; exact pk_sub (ptt_le hK i)
      · have := y7 i
        show yc i - _ ≤ _
        omega
    · obtain ⟨⟨x1, x2, x3, x4, x5, x6⟩, ⟨m1, m2, m3, m4⟩, h3, h4, h5, h6, h7, h8, h9, h10, h11⟩ := p4
      refine ⟨⟨?_, ?_, ?_, ?_, ?_, fun j j1 j2 => ?_⟩, ⟨fun i hi => ?_, fun i hi => ?_, fun i hi => ?_, fun j j1 j2 => ?_⟩, fun i hi => ?_, ?_, ?_, h6, ?_, h8, h9, h10, h11⟩
      · rw [z14, x1]; funext i; exact nI_add _ _
      · exact (zf (15, 0) (by simp) (by simp) (by simp) (by simp) (by simp) (by simp)).trans x2
      · rw [z16, x3]; funext i; exact nI_add _ _
      · rw [z13, upd_at, if_neg (by omega), upd_at, if_pos rfl, x4, o2, nI_add, p_sm_add, sO]
      · rw [z13, upd_at, if_pos rfl, x5, f_cl, f_cl, h6, pk_sub h7, k2, nI_add, p_sm_add, sK, pk_sub (by omega)]
        exact congrArg nI (by omega)
      · rw [z13, upd_at, if_neg (by omega), upd_at, if_neg (by omega)]; exact x6 j j1 j2
      · rw [(y14 i hi).2, m1 i hi]; exact nI_add _ _
      · rw [zm (121, 0) (by simp) (by simp) (by simp) (by simp) (by simp) (by simp)]; exact m2 i hi
      · rw [(y15 i hi).2, m3 i hi]; exact nI_add _ _
      · rw [zm (100, 0) (by simp) (by simp) (by simp) (by simp) (by simp) (by simp)]; exact m4 j j1 j2
      · refine ⟨?_, (h3 i hi).2⟩
        have z9 := ptt_le hO i
        have z8 := p3.2.2.2.1 i hi
        have z7 := (h3 i hi).1
        show ra i + ptt O yo 12 i = 0
        omega
      · rw [p_sm_add, sO]; omega
      · rw [p_sm_add, sK]; omega
      · rw [p_sm_add]; omega
  · rw [if_neg hA] at h
    obtain ⟨hq, hw⟩ := h
    subst hw
    refine (m_X12_charge G hM o k yo yc (fun i hi => ⟨hyo i hi, p3.2.1 i hi⟩) (fun i hi => ⟨hyc i hi, p3.2.2.2.2.2.1 i hi⟩) (by omega) (by omega)).imp (fun q2 w2 h2 => ?_)
    rw [if_neg (fun z => hA (hE.mpr z))] at h2
    obtain ⟨hq2, hw⟩ := h2
    subst hw
    exact kq_same hX hM hC0 hq hq2
theorem n_air_cg {n : Nat} {le si nu ai le' si' nu' ai' : Nat → Int32} (h : ∀ i, i < n → (le i = le' i ∧ si i = si' i ∧ nu i = nu' i ∧ ai i = ai' i)) (s m co o a : Int32) : ∀ f i, i + f ≤ n → n_air le si nu ai s m co o a f i = n_air le' si' nu' ai' s m co o a f i
  | 0, i, _ => rfl
  | f + 1, i, hf => by
    obtain ⟨h1, h2, h3, h4⟩ := h i (by omega)
    rw [n_air, n_air, h1, h2, h3, h4, n_air_cg h s m co o a f (i + 1) (by omega)]
theorem f_s_cg {n : Nat} {le si nu ai le' si' nu' ai' : Nat → Int32} (h : ∀ i, i < n → (le i = le' i ∧ si i = si' i ∧ nu i = nu' i ∧ ai i = ai' i)) (ch : Nat → Nat) (s : f_S) : f_s n le si nu ai ch s = f_s n le' si' nu' ai' ch s := by
  have e : f_air n le si nu ai s.1 ch s.2.2 = f_air n le' si' nu' ai' s.1 ch s.2.2 := n_air_cg h _ _ _ _ _ n 0 (by omega)
  unfold f_s
  rw [e]
theorem f_n_cg {n : Nat} {le si nu ai le' si' nu' ai' : Nat → Int32} (h : ∀ i, i < n → (le i = le' i ∧ si i = si' i ∧ nu i = nu' i ∧ ai i = ai' i)) (ch : Nat → Nat) (s : f_S) : ∀ k, f_n n le si nu ai ch s k = f_n n le' si' nu' ai' ch s k
  | 0 => rfl
  | k + 1 => by rw [f_n, f_n, f_n_cg h ch s k, f_s_cg h]
theorem n_air_ge {le si nu ai : Nat → Int32} (h : ∀ i, 0 ≤ ai i) {s m co o a : Int32} (ha : 0 ≤ a) : ∀ f i, 0 ≤ n_air le si nu ai s m co o a f i
  | 0, i => ha
  | f + 1, i => by
    rw [n_air]
    split
    · exact h i
    · exact n_air_ge h ha f (i + 1)
/-- what the furnace keeps while it is blown -/
def f_J (nb P mi : Nat) (s : f_S) : Prop := (∃ bu, s.2.2 5 = nI bu ∧ bu ≤ P) ∧ s.2.2 7 = nI mi ∧ p_sm s.2.1 12 ≤ 3 * mi ∧ 0 ≤ s.2.2 9 ∧ 0 ≤ s.2.2 12 ∧ ∀ i, nb ≤ i → s.1 i = 0 ∧ s.2.1 i = 0
theorem f_bn_nI {a wa : Int32} {x : Nat} (ha : 0 ≤ a) (hw : 0 ≤ wa) (hx : x < 2 ^ 31) : ∃ b, b ≤ x ∧ f_bn a wa (nI x) = nI b := by
  have hmin : 0 ≤ (if wa < a then wa else a) := by split <;> assumption
  unfold f_bn
  generalize (if wa < a then wa else a) = M at hmin ⊢
  by_cases hn : nI x < M
  · rw [if_pos hn]; exact ⟨x, Nat.le_refl _, rfl⟩
  · rw [if_neg hn]
    obtain ⟨b, b1, b2⟩ := nI_of (pos_0 hmin)
    subst b2
    exact ⟨b, Nat.le_of_not_lt (fun q => hn (nI_lt q b1)), rfl⟩
theorem ni22 {k : Nat} (hk : k ∉ [22, 23, 24, 25, 26, 27, 28]) : k < 22 ∨ 28 < k := by
  simp only [List.mem_cons, List.not_mem_nil, or_false] at hk
  omega
theorem f_J_s {nb nc mi : Nat} {le si nu ai : Nat → Int32} {ch : Nat → Nat} {s : f_S} (hai : ∀ i, 0 ≤ ai i) (hP : p_sm ch 8 < 2 ^ 31) (hJ : f_J nb (p_sm ch 8) mi s) : f_J nb (p_sm ch 8) (mi + 1) (f_s nc le si nu ai ch s) := by
  obtain ⟨⟨bu, u1, u2⟩, j2, j3, j4, j5, j6⟩ := hJ
  have ha : 0 ≤ f_air nc le si nu ai s.1 ch s.2.2 := n_air_ge hai j4 _ _
  obtain ⟨b, b1, b2⟩ := f_bn_nI (x := p_sm ch 8 - bu) ha j5 (by omega)
  have ecl : f_cl s.2.2 ch = nI (p_sm ch 8 - bu) := by rw [f_cl, u1, pk_sub u2]
  obtain ⟨k1, k2⟩ := f_k_le (f_bn (f_air nc le si nu ai s.1 ch s.2.2) (s.2.2 12) (f_cl s.2.2 ch)) (f_h (s.2.2 6) (f_bn (f_air nc le si nu ai s.1 ch s.2.2) (s.2.2 12) (f_cl s.2.2 ch))) s.1
  refine ⟨⟨bu + b, ?_, by omega⟩, ?_, ?_, ha, j5, fun i hi => ?_⟩
  · show s.2.2 5 + f_bn _ _ _ = _
    rw [u1, ecl, b2, nI_add]
  · show s.2.2 7 + 1 = _
    rw [j2]; exact nI_add mi 1
  · show p_sm (f_bl _ s.1 s.2.1) 12 ≤ _
    unfold f_bl
    rw [p_sm_add, ptt_sum k1]
    omega
  · obtain ⟨q1, q2⟩ := j6 i hi
    have z := ptt_le k1 i
    exact ⟨by show s.1 i - _ = 0; omega, by show s.2.1 i + _ = 0; omega⟩
theorem f_J_n {nb nc mi : Nat} {le si nu ai : Nat → Int32} {ch : Nat → Nat} {s : f_S} (hai : ∀ i, 0 ≤ ai i) (hP : p_sm ch 8 < 2 ^ 31) (hJ : f_J nb (p_sm ch 8) mi s) : ∀ n, f_J nb (p_sm ch 8) (mi + n) (f_n nc le si nu ai ch s n)
  | 0 => hJ
  | n + 1 => f_J_s hai hP (f_J_n hai hP hJ n)
theorem k_blow (G : z_G) {t gX gM : Nat} {w : z_w} (hL : KS t gX gM w) (ht : t ≤ 511) (n : Int32) : z_M G yX11_blow cX11_blow 3 (some .int) 6 (0) (0) [vr (0, 0), vi n] w (fun q w1 => (∀ tt, ¬ dX tt → w1 tt = w tt) ∧ z_M G yX12_blow cX12_blow 3 (some .int) 4 (0) (0) [vr (100, 0), vi n] w1 (KQ (t + 1) gX gM q)) := by
  obtain ⟨nb, na, np, c, l, r, d, lM, rM, hX, hM, hC⟩ := hL
  have hC0 := hC
  obtain ⟨y, nc, nt, nr, nl, no, bu, mi, yo, yc, ra, bl, ch, u, p1, p2, p3, p4, p5, p6, p7, p8, p9, p10⟩ := hC
  obtain ⟨bnb, bna, bnp, bgX⟩ : nb ≤ 12 ∧ na ≤ 100 ∧ np ≤ 60 ∧ gX ≤ 6 := ⟨hX.2.1, hX.2.2.1, hX.2.2.2.1, hX.2.2.2.2.1⟩
  obtain ⟨hXF, hMF, h3, h4, h5, h6, h7, h8, h9, h10, h11, h12, h13⟩ := p4
  have hE : ((0 ≤ n ∧ n ≤ 2000) ∧ c (13, 0) 7 + n ≤ 20000) ↔ ((0 ≤ n ∧ n ≤ 2000) ∧ d (100, 0) 24 + n ≤ 20000) := by
    rw [hXF.2.2.2.2.2 7 (by omega) (by omega), hMF.2.2.2 7 (by omega) (by omega)]
  refine (m_X11_blow G hX n ra bl ch u nc hXF h11 (by omega) p5.1 p5.2.1).imp (fun q w1 h => ⟨?_, ?_⟩)
  · have hs : ∀ {T : z_T → Option r_sh} {c' : r_c} {l' : r_l} {r' : r_r}, r_p dX T w c' l' r' w1 → ∀ tt, ¬ dX tt → w1 tt = w tt := fun z => z.2
    first
    | exact fun _ _ => congrFun h.2 _
    | exact hs h.2
    | (obtain ⟨_, c1, _, z⟩ := h; exact hs z)
    | (refine z_ifq h (fun _ h => ?_) (fun _ h => ?_) <;> first | exact fun _ _ => congrFun h.2 _ | exact hs h.2 | (obtain ⟨_, c1, z, _⟩ := h; exact hs z) | (obtain ⟨_, c1, l1, z, _⟩ := h; exact hs z) | (obtain ⟨_, g1, c1, l1, z, _⟩ := h; exact hs z) | (obtain ⟨_, c1, _, _, _, z⟩ := h; exact hs z))
  by_cases hA : (0 ≤ n ∧ n ≤ 2000) ∧ c (13, 0) 7 + n ≤ 20000
  · rw [if_pos hA] at h
    obtain ⟨hq, c1, l1, hX1, zF, zf⟩ := h
    refine (m_X12_blow G (kM hX1 hM) n ra bl ch u nc hMF h11 (by omega) p5.2.2.1 (by have := p5.2.1; omega)).imp (fun q2 w2 h2 => ?_)
    rw [if_pos (hE.mp hA)] at h2
    obtain ⟨hq2, d1, lM1, hM1, yF, yi, zm⟩ := h2
    have eF := f_n_cg (n := nc) p5.2.2.2.1 ch (ra, bl, u) n.toNatClampNeg
    rw [eF] at hq2 yF
    obtain ⟨N, n1, n2⟩ := nI_of2 (n := 2000) (by decide) (pos_0 hA.1.1) hA.1.2
    have eN : n.toNatClampNeg = N := by rw [n2, nI_clamp (by omega)]
    have hmi : mi + N ≤ 20000 := by
      have z := hA.2
      rw [hXF.2.2.2.2.2 7 (by omega) (by omega), h8, n2, nI_add] at z
      exact (nI_leI (by omega) (by decide)).mp z
    have hJ := f_J_n (nb := nb) (nc := nc) (le := c (9, 0)) (si := c (10, 0)) (nu := c (11, 0)) (ai := c (12, 0)) (ch := ch) (s := (ra, bl, u)) p5.2.2.2.2 (by omega) ⟨⟨bu, h6, h7⟩, h8, h10, h13, h12, h3⟩ N
    have hgp := f_n_gap (nc := nc) (le := c (9, 0)) (si := c (10, 0)) (nu := c (11, 0)) (ai := c (12, 0)) (ch := ch) (s := (ra, bl, u)) N
    have hor := f_n_ore (nc := nc) (le := c (9, 0)) (si := c (10, 0)) (nu := c (11, 0)) (ai := c (12, 0)) (ch := ch) (s := (ra, bl, u)) N
    rw [eN] at zF yF
    generalize f_n nc (c (9, 0)) (c (10, 0)) (c (11, 0)) (c (12, 0)) ch (ra, bl, u) N = S at zF yF hJ hgp hor
    obtain ⟨⟨bu', j1, j2⟩, j3, j4, j5, j6, j7⟩ := hJ
    have fX : frX [13, 14, 15, 45] [] c c1 := ⟨fun t ht h0 => zf t (fun e => ht (by rw [e]; simp)) (fun e => ht (by rw [e]; simp)) (fun e => ht (by rw [e]; simp)) (fun e => ht (by rw [e]; simp)), fun k _ => by rw [zf (0, 0) (by simp) (by simp) (by simp) (by simp)]⟩
    have fM : frM [117, 118, 119, 121] [22, 23, 24, 25, 26, 27, 28] d d1 := ⟨fun t ht h0 => zm t (fun e => h0 (by rw [e])) (fun e => ht (by rw [e]; simp)) (fun e => ht (by rw [e]; simp)) (fun e => ht (by rw [e]; simp)) (fun e => ht (by rw [e]; simp)), fun k hk => yi k (ni22 hk)⟩
    refine kq_com hX hX1 hM1 fX rfl ?_ hq (hq2)
    refine ⟨y, nc, nt, nr, nl, no, bu', (mi + N), yo, yc, S.1, S.2.1, ch, S.2.2, p1.tr fX fM (by decide), p2.tr fX fM (by decide), p3.tr fX fM (Nat.le_refl _) (Nat.le_succ _) (by decide), ?_, p5.tr fX fM (by decide), p6.tr fX fM (by decide), p7.tr fX fM (Nat.le_refl _) (by decide), p8.tr fX fM (by decide), p9.tr fX fM (Nat.le_refl _) (Nat.le_succ _) (by decide), p10.tr fX fM (congrFun (fX.1 (35, 0) (by decide) (by decide)) 3) (by decide)⟩
    · refine ⟨zF, yF, j7, Nat.le_trans hor (by show p_sm ra 12 ≤ _; omega), by omega, j1, j2, j3, hmi, j4, ?_, j6, j5⟩
      rw [hgp.1]; exact h11
  · rw [if_neg hA] at h
    obtain ⟨hq, hw⟩ := h
    subst hw
    refine (m_X12_blow G hM n ra bl ch u nc hMF h11 (by omega) p5.2.2.1 (by have := p5.2.1; omega)).imp (fun q2 w2 h2 => ?_)
    rw [if_neg (fun z => hA (hE.mpr z))] at h2
    obtain ⟨hq2, hw⟩ := h2
    subst hw
    exact kq_same hX hM hC0 hq hq2
