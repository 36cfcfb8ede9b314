/-! one call on each side: the frames, the state of the law's loop -/
theorem r_cs_at (c : r_c) (a i k : Nat) (v : Int32) (a2 j k2 : Nat) : r_cs c (a, i) k v (a2, j) k2 = if a2 = a ∧ j = i ∧ k2 = k then v else c (a2, j) k2 := by
  by_cases h : (a2, j) = (a, i)
  · rw [r_cs, h, r_cf_self]
    have h1 : a2 = a := congrArg Prod.fst h
    have h2 : j = i := congrArg Prod.snd h
    by_cases hk : k2 = k
    · rw [if_pos ⟨h1, h2, hk⟩]; exact if_pos hk
    · rw [if_neg (fun q => hk q.2.2)]; exact if_neg hk
  · rw [r_cs, r_cf_ne h, if_neg (fun q => h (by rw [q.1, q.2.1]))]
theorem frX.cs {S I : List Nat} {c c' : r_c} (h : frX S I c c') {a i k : Nat} {v : Int32} (ha : a ∈ S) (h0 : a ≠ 0) : frX S I c (r_cs c' (a, i) k v) := ⟨fun t ht h1 => by
  rw [r_cs, r_cf_ne (fun e => ht (by rw [e]; exact ha))]; exact h.1 t ht h1, fun j hj => by
  rw [r_cs, r_cf_ne (fun e => h0 (congrArg Prod.fst e).symm)]; exact h.2 j hj⟩
theorem frX.c0 {S I : List Nat} {c c' : r_c} (h : frX S I c c') {k : Nat} {v : Int32} (hk : k ∈ I) : frX S I c (r_cs c' (0, 0) k v) := ⟨fun t ht h1 => by
  rw [r_cs, r_cf_ne (fun e => h1 (by rw [e]))]; exact h.1 t ht h1, fun j hj => by
  rw [r_cs_at, if_neg (fun q => hj (by rw [q.2.2]; exact hk))]; exact h.2 j hj⟩
theorem frX.cf {S I : List Nat} {c c' : r_c} (h : frX S I c c') {a i : Nat} {f : Nat → Int32} (ha : a ∈ S) (h0 : a ≠ 0) : frX S I c (r_cf c' (a, i) f) := ⟨fun t ht h1 => by
  rw [r_cf_ne (fun e => ht (by rw [e]; exact ha))]; exact h.1 t ht h1, fun j hj => by
  rw [r_cf_ne (fun e => h0 (congrArg Prod.fst e).symm)]; exact h.2 j hj⟩
theorem frM.cs {S I : List Nat} {c c' : r_c} (h : frM S I c c') {a i k : Nat} {v : Int32} (ha : a ∈ S) (h0 : a ≠ 100) : frM S I c (r_cs c' (a, i) k v) := ⟨fun t ht h1 => by
  rw [r_cs, r_cf_ne (fun e => ht (by rw [e]; exact ha))]; exact h.1 t ht h1, fun j hj => by
  rw [r_cs, r_cf_ne (fun e => h0 (congrArg Prod.fst e).symm)]; exact h.2 j hj⟩
theorem frM.c0 {S I : List Nat} {c c' : r_c} (h : frM S I c c') {k : Nat} {v : Int32} (hk : k ∈ I) : frM S I c (r_cs c' (100, 0) k v) := ⟨fun t ht h1 => by
  rw [r_cs, r_cf_ne (fun e => h1 (by rw [e]))]; exact h.1 t ht h1, fun j hj => by
  rw [r_cs_at, if_neg (fun q => hj (by rw [q.2.2]; exact hk))]; exact h.2 j hj⟩
theorem part_keep {dom : z_T → Prop} {T : z_T → Option r_sh} {w0 w w1 : z_w} {c : r_c} {l : r_l} {r : r_r} (h : r_p dom T w0 c l r w) (hk : ∀ t, dom t → w1 t = w t) : r_p dom T w1 c l r w1 := ⟨fun t ht => (hk t ht).trans (h.1 t ht), fun _ _ => rfl⟩
theorem dX_M {t : z_T} (h : dM t) : ¬ dX t := Nat.not_lt.mpr h
theorem dM_X {t : z_T} (h : dX t) : ¬ dM t := Nat.not_le.mpr h
/-- the model's table after the class's call -/
theorem kM {T T' : z_T → Option r_sh} {w w1 : z_w} {c : r_c} {l : r_l} {r : r_r} {d : r_c} {lM : r_l} {rM : r_r} (hX1 : r_p dX T w c l r w1) (hM : r_p dM T' w d lM rM w) : r_p dM T' w1 d lM rM w1 := part_keep hM (fun t ht => hX1.2 t (dX_M ht))
/-- the state of the law's loop after t calls -/
def KS (t gX gM : Nat) (w : z_w) : Prop := ∃ (nb na np : Nat) (c : r_c) (l : r_l) (r : r_r) (d : r_c) (lM : r_l) (rM : r_r), XR nb na np gX w c l r w ∧ r_p dM (TM gM) w d lM rM w ∧ CP t gX gM nb na np c d
theorem CP.mono {t gX gM nb na np : Nat} {c d : r_c} (h : CP t gX gM nb na np c d) : CP (t + 1) gX gM nb na np c d := by
  obtain ⟨y, nc, nt, nr, nl, no, bu, mi, yo, yc, ra, bl, ch, u, p1, p2, p3, p4, p5, p6, p7, p8, p9, p10⟩ := h
  have fX : frX [] [] c c := frX.rf
  have fM : frM [] [] d d := frM.rf
  exact ⟨y, nc, nt, nr, nl, no, bu, mi, yo, yc, ra, bl, ch, u, p1, p2, p3.tr fX fM (Nat.le_refl _) (Nat.le_succ _) (by decide), p4.tr fX fM (Nat.le_refl _) (Nat.le_succ _) (by decide), p5, p6, p7, p8, p9.tr fX fM (Nat.le_refl _) (Nat.le_succ _) (by decide), p10⟩
def KQ (t gX gM : Nat) (q q2 : Option z_v) (w2 : z_w) : Prop := (∃ v, q = some (vi v) ∧ q2 = some (vi v)) ∧ KS t gX gM w2
theorem kq_same {t gX gM nb na np : Nat} {w : z_w} {c : r_c} {l : r_l} {r : r_r} {d : r_c} {lM : r_l} {rM : r_r} (hX : XR nb na np gX w c l r w) (hM : r_p dM (TM gM) w d lM rM w) (hC : CP t gX gM nb na np c d) {v : Int32} {q q2 : Option z_v} (hq : q = some (vi v)) (hq2 : q2 = some (vi v)) : KQ (t + 1) gX gM q q2 w := ⟨⟨v, hq, hq2⟩, nb, na, np, c, l, r, d, lM, rM, hX, hM, hC.mono⟩
theorem kq_com {t gX gM nb na np : Nat} {w w1 w2 : z_w} {c c' : r_c} {l l' : r_l} {r : r_r} {d' : r_c} {lM' : r_l} {rM' : r_r} {SX IX : List Nat} (hX : XR nb na np gX w c l r w) (hX1 : r_p dX (TX nb na np gX) w c' l' r w1) (hM : r_p dM (TM gM) w1 d' lM' rM' w2) (fX : frX SX IX c c') (q : dj [2, 8, 12] IX = true) (hCP : CP t gX gM nb na np c' d') {v : Int32} {q1 q2 : Option z_v} (hq : q1 = some (vi v)) (hq2 : q2 = some (vi v)) : KQ t gX gM q1 q2 w2 := by
  obtain ⟨x1, x2, x3, x4, x5, x6, x7, x8, x9, x10, x11⟩ := hX
  exact ⟨⟨v, hq, hq2⟩, nb, na, np, c', l', r, d', lM', rM', ⟨part_keep hX1 (fun t ht => hM.2 t (dM_X ht)), x2, x3, x4, x5, (fX.ix q (by simp)).trans x6, (fX.ix q (by simp)).trans x7, (fX.ix q (by simp)).trans x8, x9, x10, x11⟩, part_keep hM (fun _ _ => rfl), hCP⟩
