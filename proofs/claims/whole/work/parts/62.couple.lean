/-! the class's contents and the reference's, side by side -/
def dj (A S : List Nat) : Bool := A.all (fun a => !(S.any (Nat.beq a)))
theorem dj_no {A S : List Nat} (h : dj A S = true) {a : Nat} (ha : a ∈ A) : a ∉ S := fun hs => by
  have := List.all_eq_true.mp h a ha
  rw [Bool.not_eq_true'] at this
  have h2 : S.any (Nat.beq a) = true := List.any_eq_true.mpr ⟨a, hs, by rw [z_beq]; simp⟩
  rw [h2] at this
  cases this
def frX (S I : List Nat) (c c' : r_c) : Prop := (∀ t : z_T, t.1 ∉ S → t.1 ≠ 0 → c' t = c t) ∧ ∀ k, k ∉ I → c' (0, 0) k = c (0, 0) k
def frM (S I : List Nat) (d d' : r_c) : Prop := (∀ t : z_T, t.1 ∉ S → t.1 ≠ 100 → d' t = d t) ∧ ∀ k, k ∉ I → d' (100, 0) k = d (100, 0) k
theorem frX.rf {S I : List Nat} {c : r_c} : frX S I c c := ⟨fun _ _ _ => rfl, fun _ _ => rfl⟩
theorem frM.rf {S I : List Nat} {d : r_c} : frM S I d d := ⟨fun _ _ _ => rfl, fun _ _ => rfl⟩
theorem frX.at {S I : List Nat} {c c' : r_c} (h : frX S I c c') {A : List Nat} (hA : dj (0 :: A) (0 :: S) = true ∨ dj A S = true ∧ dj A [0] = true) {k i : Nat} (hk : k ∈ A) : c' (k, i) = c (k, i) := by
  rcases hA with hA | ⟨h1, h2⟩
  · exact absurd (List.mem_cons_self) (dj_no hA (List.mem_cons_self))
  · exact h.1 (k, i) (dj_no h1 hk) (fun e => dj_no h2 hk (by rw [show k = 0 from e]; simp))
theorem frM.at {S I : List Nat} {c c' : r_c} (h : frM S I c c') {A : List Nat} (hA : dj A S = true ∧ dj A [100] = true) {k i : Nat} (hk : k ∈ A) : c' (k, i) = c (k, i) := h.1 (k, i) (dj_no hA.1 hk) (fun e => dj_no hA.2 hk (by rw [show k = 100 from e]; simp))
theorem frX.ix {S I : List Nat} {c c' : r_c} (h : frX S I c c') {A : List Nat} (hA : dj A I = true) {k : Nat} (hk : k ∈ A) : c' (0, 0) k = c (0, 0) k := h.2 k (dj_no hA hk)
theorem frM.ix {S I : List Nat} {c c' : r_c} (h : frM S I c c') {A : List Nat} (hA : dj A I = true) {k : Nat} (hk : k ∈ A) : c' (100, 0) k = c (100, 0) k := h.2 k (dj_no hA hk)
section CP
variable {SX IX SM IM : List Nat} {c c' d d' : r_c}
def cpN (y : Nat) (c d : r_c) : Prop := c (0, 0) 0 = nI y ∧ d (100, 0) 0 = nI y ∧ y ≤ 100 ∧ c (0, 0) 9 = d (100, 0) 7
theorem cpN.tr {y : Nat} (h : cpN y c d) (hX : frX SX IX c c') (hM : frM SM IM d d') (q : dj [0, 9] IX = true ∧ dj [0, 7] IM = true) : cpN y c' d' := by
  obtain ⟨h1, h2, h3, h4⟩ := h
  exact ⟨(hX.ix q.1 (by simp)).trans h1, (hM.ix q.2 (by simp)).trans h2, h3, by rw [hX.ix q.1 (by simp), hM.ix q.2 (by simp)]; exact h4⟩
def cpB (nb : Nat) (c d : r_c) : Prop := d (100, 0) 1 = nI nb ∧ ∀ i, i < nb → (d (108, 0) i = c (2, i) 0 ∧ d (109, 0) i = c (2, i) 1 ∧ d (110, 0) i = c (2, i) 2 ∧ d (111, 0) i = c (2, i) 3 ∧ d (112, 0) i = c (2, i) 4 ∧ d (113, 0) i = c (2, i) 5) ∧ (∃ o, o ≤ 100000 ∧ c (2, i) 0 = nI o) ∧ ∃ o, o ≤ 5000 ∧ c (2, i) 1 = nI o
theorem cpB.tr {nb : Nat} (h : cpB nb c d) (hX : frX SX IX c c') (hM : frM SM IM d d') (q : (dj [2] SX = true ∧ dj [2] [0] = true) ∧ (dj [108, 109, 110, 111, 112, 113] SM = true ∧ dj [108, 109, 110, 111, 112, 113] [100] = true) ∧ dj [1] IM = true) : cpB nb c' d' := by
  obtain ⟨h1, h2⟩ := h
  refine ⟨(hM.ix q.2.2 (by simp)).trans h1, fun i hi => ?_⟩
  rw [hX.at (Or.inr q.1) (k := 2) (i := i) (by simp), hM.at q.2.1 (k := 108) (by simp), hM.at q.2.1 (k := 109) (by simp), hM.at q.2.1 (k := 110) (by simp), hM.at q.2.1 (k := 111) (by simp), hM.at q.2.1 (k := 112) (by simp), hM.at q.2.1 (k := 113) (by simp)]
  exact h2 i hi
def cpY (nb : Nat) (yo yc : Nat → Nat) (t : Nat) (c d : r_c) : Prop := (∀ i, c (4, 0) i = nI (yo i)) ∧ (∀ i, i < 12 → d (114, 0) i = nI (yo i)) ∧ p_sm yo 12 ≤ 100000 * t ∧ (∀ i, nb ≤ i → yo i = 0) ∧ (∀ i, c (5, 0) i = nI (yc i)) ∧ (∀ i, i < 8 → d (115, 0) i = nI (yc i)) ∧ ∀ i, yc i ≤ 1000000
theorem cpY.tr {nb t : Nat} {yo yc : Nat → Nat} (h : cpY nb yo yc t c d) (hX : frX SX IX c c') (hM : frM SM IM d d') {nb' t' : Nat} (hb : nb ≤ nb') (ht : t ≤ t') (q : (dj [4, 5] SX = true ∧ dj [4, 5] [0] = true) ∧ (dj [114, 115] SM = true ∧ dj [114, 115] [100] = true)) : cpY nb' yo yc t' c' d' := by
  obtain ⟨h1, h2, h3, h4, h5, h6, h7⟩ := h
  unfold cpY
  rw [hX.at (Or.inr q.1) (k := 4) (by simp), hX.at (Or.inr q.1) (k := 5) (by simp), hM.at q.2 (k := 114) (by simp), hM.at q.2 (k := 115) (by simp)]
  exact ⟨h1, h2, by omega, fun i hi => h4 i (by omega), h5, h6, h7⟩
def cpF (nb t : Nat) (ra bl ch : Nat → Nat) (u : Nat → Int32) (bu mi : Nat) (c d : r_c) : Prop := XF ra bl ch u c ∧ MF ra bl ch u d ∧ (∀ i, nb ≤ i → ra i = 0 ∧ bl i = 0) ∧ p_sm ra 12 ≤ 5000 * t ∧ p_sm ch 8 ≤ 5000 * t ∧ u 5 = nI bu ∧ bu ≤ p_sm ch 8 ∧ u 7 = nI mi ∧ mi ≤ 20000 ∧ p_sm bl 12 ≤ 3 * mi ∧ ¬ u 13 ≤ 0 ∧ 0 ≤ u 12 ∧ 0 ≤ u 9
theorem cpF.tr {nb t : Nat} {ra bl ch : Nat → Nat} {u : Nat → Int32} {bu mi : Nat} (h : cpF nb t ra bl ch u bu mi c d) (hX : frX SX IX c c') (hM : frM SM IM d d') {nb' t' : Nat} (hb : nb ≤ nb') (ht : t ≤ t') (q : (dj [13, 14, 15, 16] SX = true ∧ dj [13, 14, 15, 16] [0] = true) ∧ (dj [119, 120, 121] SM = true ∧ dj [119, 120, 121] [100] = true) ∧ dj [22, 23, 24, 25, 26, 27, 28, 29, 30] IM = true) : cpF nb' t' ra bl ch u bu mi c' d' := by
  obtain ⟨⟨x1, x2, x3, x4, x5, x6⟩, ⟨m1, m2, m3, m4⟩, h3, h4, h5, h6, h7, h8, h9, h10, h11⟩ := h
  refine ⟨?_, ?_, fun i hi => h3 i (by omega), by omega, by omega, h6, h7, h8, h9, h10, h11⟩
  · unfold XF
    rw [hX.at (Or.inr q.1) (k := 13) (by simp), hX.at (Or.inr q.1) (k := 14) (by simp), hX.at (Or.inr q.1) (k := 15) (by simp), hX.at (Or.inr q.1) (k := 16) (by simp)]
    exact ⟨x1, x2, x3, x4, x5, x6⟩
  · unfold MF
    rw [hM.at q.2.1 (k := 119) (by simp), hM.at q.2.1 (k := 120) (by simp), hM.at q.2.1 (k := 121) (by simp)]
    refine ⟨m1, m2, m3, fun k h1 h2 => ?_⟩
    rw [hM.ix q.2.2 (k := k + 17) (by rcases (show k = 5 ∨ k = 6 ∨ k = 7 ∨ k = 8 ∨ k = 9 ∨ k = 10 ∨ k = 11 ∨ k = 12 ∨ k = 13 by omega) with e | e | e | e | e | e | e | e | e <;> subst e <;> simp)]
    exact m4 k h1 h2
def cpR (nc : Nat) (c d : r_c) : Prop := c (8, 0) 4 = nI nc ∧ nc ≤ 40 ∧ d (100, 0) 34 = nI nc ∧ (∀ i, i < nc → d (136, 0) i = c (9, 0) i ∧ d (137, 0) i = c (10, 0) i ∧ d (138, 0) i = c (11, 0) i ∧ d (139, 0) i = c (12, 0) i) ∧ ∀ i, 0 ≤ c (12, 0) i
theorem cpR.tr {nc : Nat} (h : cpR nc c d) (hX : frX SX IX c c') (hM : frM SM IM d d') (q : (dj [8, 9, 10, 11, 12] SX = true ∧ dj [8, 9, 10, 11, 12] [0] = true) ∧ (dj [136, 137, 138, 139] SM = true ∧ dj [136, 137, 138, 139] [100] = true) ∧ dj [34] IM = true) : cpR nc c' d' := by
  unfold cpR
  rw [hX.at (Or.inr q.1) (k := 8) (by simp), hX.at (Or.inr q.1) (k := 9) (by simp), hX.at (Or.inr q.1) (k := 10) (by simp), hX.at (Or.inr q.1) (k := 11) (by simp), hX.at (Or.inr q.1) (k := 12) (by simp), hM.at q.2.1 (k := 136) (by simp), hM.at q.2.1 (k := 137) (by simp), hM.at q.2.1 (k := 138) (by simp), hM.at q.2.1 (k := 139) (by simp), hM.ix q.2.2 (k := 34) (by simp)]
  exact h
def cpT (nt : Nat) (c d : r_c) : Prop := c (6, 0) 1 = nI nt ∧ nt ≤ 200 ∧ d (100, 0) 32 = nI nt ∧ d (131, 0) = c (7, 0) ∧ ∀ i, c (7, 0) i ≠ -1
theorem cpT.tr {nt : Nat} (h : cpT nt c d) (hX : frX SX IX c c') (hM : frM SM IM d d') (q : (dj [6, 7] SX = true ∧ dj [6, 7] [0] = true) ∧ (dj [131] SM = true ∧ dj [131] [100] = true) ∧ dj [32] IM = true) : cpT nt c' d' := by
  unfold cpT
  rw [hX.at (Or.inr q.1) (k := 6) (by simp), hX.at (Or.inr q.1) (k := 7) (by simp), hM.at q.2.1 (k := 131) (by simp), hM.ix q.2.2 (k := 32) (by simp)]
  exact h
def cpA (nb na : Nat) (c d : r_c) : Prop := d (100, 0) 2 = nI na ∧ (∀ b, b < na → (∀ k, k < 12 → d (144, 0) (12 * b + k) = c (19, b) k) ∧ (∀ k, k < 8 → d (145, 0) (8 * b + k) = c (20, b) k) ∧ (d (146, 0) b = c (18, b) 4 ∧ d (147, 0) b = c (18, b) 5 ∧ d (148, 0) b = c (18, b) 2 ∧ d (149, 0) b = c (18, b) 6 ∧ d (150, 0) b = c (18, b) 3) ∧ ∃ oo : Nat → Nat, (∀ k, k < 12 → c (19, b) k = nI (oo k)) ∧ p_sm oo 12 ≤ 60000 ∧ ∀ k, nb ≤ k → oo k = 0) ∧ (∀ j, 12 * na ≤ j → d (144, 0) j = 0) ∧ ∀ j, 8 * na ≤ j → d (145, 0) j = 0
theorem cpA.tr {nb na : Nat} (h : cpA nb na c d) (hX : frX SX IX c c') (hM : frM SM IM d d') {nb' : Nat} (hb : nb ≤ nb') (q : (dj [18, 19, 20] SX = true ∧ dj [18, 19, 20] [0] = true) ∧ (dj [144, 145, 146, 147, 148, 149, 150] SM = true ∧ dj [144, 145, 146, 147, 148, 149, 150] [100] = true) ∧ dj [2] IM = true) : cpA nb' na c' d' := by
  obtain ⟨h1, h2, h3, h4⟩ := h
  unfold cpA
  rw [hM.at q.2.1 (k := 144) (by simp), hM.at q.2.1 (k := 145) (by simp), hM.at q.2.1 (k := 146) (by simp), hM.at q.2.1 (k := 147) (by simp), hM.at q.2.1 (k := 148) (by simp), hM.at q.2.1 (k := 149) (by simp), hM.at q.2.1 (k := 150) (by simp), hM.ix q.2.2 (k := 2) (by simp)]
  refine ⟨h1, fun b hb2 => ?_, h3, h4⟩
  rw [hX.at (Or.inr q.1) (k := 18) (i := b) (by simp), hX.at (Or.inr q.1) (k := 19) (i := b) (by simp), hX.at (Or.inr q.1) (k := 20) (i := b) (by simp)]
  obtain ⟨a1, a2, a3, oo, o1, o2, o3⟩ := h2 b hb2
  exact ⟨a1, a2, a3, oo, o1, o2, fun k hk => o3 k (by omega)⟩
def cpP (nr : Nat) (c d : r_c) : Prop := c (21, 0) 4 = nI nr ∧ nr ≤ 100 ∧ d (100, 0) 6 = nI nr ∧ ∀ i, i < nr → (d (151, 0) i = c (22, 0) i ∧ d (152, 0) i = c (23, 0) i ∧ d (153, 0) i = c (24, 0) i ∧ d (154, 0) i = c (25, 0) i) ∧ ∃ p, p ≤ 100 ∧ c (24, 0) i = nI p
theorem cpP.tr {nr : Nat} (h : cpP nr c d) (hX : frX SX IX c c') (hM : frM SM IM d d') (q : (dj [21, 22, 23, 24, 25] SX = true ∧ dj [21, 22, 23, 24, 25] [0] = true) ∧ (dj [151, 152, 153, 154] SM = true ∧ dj [151, 152, 153, 154] [100] = true) ∧ dj [6] IM = true) : cpP nr c' d' := by
  unfold cpP
  rw [hX.at (Or.inr q.1) (k := 21) (by simp), hX.at (Or.inr q.1) (k := 22) (by simp), hX.at (Or.inr q.1) (k := 23) (by simp), hX.at (Or.inr q.1) (k := 24) (by simp), hX.at (Or.inr q.1) (k := 25) (by simp), hM.at q.2.1 (k := 151) (by simp), hM.at q.2.1 (k := 152) (by simp), hM.at q.2.1 (k := 153) (by simp), hM.at q.2.1 (k := 154) (by simp), hM.ix q.2.2 (k := 6) (by simp)]
  exact h
def cpL (na np nl t gX gM : Nat) (c d : r_c) : Prop := d (100, 0) 3 = nI np ∧ (∀ p, p < np → (∃ bi co, bi < na ∧ co ≤ 1000000 ∧ c (27, p) 0 = nI bi ∧ c (27, p) 1 = nI co) ∧ (d (155, 0) p = c (27, p) 0 ∧ d (156, 0) p = c (27, p) 1 ∧ d (157, 0) p = c (27, p) 2) ∧ ∀ j, j < 8 → d (158, 0) (8 * p + j) = c (28, p) j) ∧ (∀ j, 8 * np ≤ j → d (158, 0) j = 0) ∧
  c (29, 0) 5 = nI nl ∧ d (100, 0) 4 = nI nl ∧ nl ≤ 64 * 2 ^ gX ∧ nl ≤ 256 * 2 ^ gM ∧ nl ≤ 8 * t ∧ gM ≤ 4 ∧ (∀ k, k < nl → d (160, gM) k = c (30, gX) k ∧ d (161, gM) k = c (31, gX) k ∧ d (162, gM) k = c (32, gX) k ∧ d (163, gM) k = c (33, gX) k) ∧ ∀ h, h < 8 → d (159, 0) h = c (34, 0) h
theorem cpL.tr {na np nl t gX gM : Nat} (h : cpL na np nl t gX gM c d) (hX : frX SX IX c c') (hM : frM SM IM d d') {na' t' : Nat} (ha : na ≤ na') (ht : t ≤ t') (q : (dj [27, 28, 29, 30, 31, 32, 33, 34] SX = true ∧ dj [27, 28, 29, 30, 31, 32, 33, 34] [0] = true) ∧ (dj [155, 156, 157, 158, 159, 160, 161, 162, 163] SM = true ∧ dj [155, 156, 157, 158, 159, 160, 161, 162, 163] [100] = true) ∧ dj [3, 4] IM = true) : cpL na' np nl t' gX gM c' d' := by
  obtain ⟨h1, h2, h3, h4, h5, h6, h7, h8, h9, h10, h11⟩ := h
  unfold cpL
  rw [hX.at (Or.inr q.1) (k := 29) (by simp), hX.at (Or.inr q.1) (k := 30) (by simp), hX.at (Or.inr q.1) (k := 31) (by simp), hX.at (Or.inr q.1) (k := 32) (by simp), hX.at (Or.inr q.1) (k := 33) (by simp), hX.at (Or.inr q.1) (k := 34) (by simp), hM.at q.2.1 (k := 155) (by simp), hM.at q.2.1 (k := 156) (by simp), hM.at q.2.1 (k := 157) (by simp), hM.at q.2.1 (k := 158) (by simp), hM.at q.2.1 (k := 159) (by simp), hM.at q.2.1 (k := 160) (by simp), hM.at q.2.1 (k := 161) (by simp), hM.at q.2.1 (k := 162) (by simp), hM.at q.2.1 (k := 163) (by simp), hM.ix q.2.2 (k := 3) (by simp), hM.ix q.2.2 (k := 4) (by simp)]
  refine ⟨h1, fun p hp => ?_, h3, h4, h5, h6, h7, by omega, h9, h10, h11⟩
  rw [hX.at (Or.inr q.1) (k := 27) (i := p) (by simp), hX.at (Or.inr q.1) (k := 28) (i := p) (by simp)]
  obtain ⟨⟨bi, co, b1, b2⟩, b3⟩ := h2 p hp
  exact ⟨⟨bi, co, by omega, b2⟩, b3⟩
def cpO (no : Nat) (c d : r_c) : Prop := c (35, 0) 3 = nI no ∧ no ≤ 8 ∧ d (100, 0) 5 = nI no ∧ ∀ o, o < no → d (164, 0) o = c (36, 0) o ∧ d (165, 0) o = c (37, 0) o
theorem cpO.tr {no : Nat} (h : cpO no c d) (hX : frX SX IX c c') (hM : frM SM IM d d') (h3 : c' (35, 0) 3 = c (35, 0) 3) (q : (dj [36, 37] SX = true ∧ dj [36, 37] [0] = true) ∧ (dj [164, 165] SM = true ∧ dj [164, 165] [100] = true) ∧ dj [5] IM = true) : cpO no c' d' := by
  unfold cpO
  rw [h3, hX.at (Or.inr q.1) (k := 36) (by simp), hX.at (Or.inr q.1) (k := 37) (by simp), hM.at q.2.1 (k := 164) (by simp), hM.at q.2.1 (k := 165) (by simp), hM.ix q.2.2 (k := 5) (by simp)]
  exact h
end CP
/-- what has no shape of its own: the ghosts are ore and coal in numbers -/
abbrev cpGh : Type := (Nat → Nat) × ((Nat → Nat) × ((Nat → Nat) × ((Nat → Nat) × ((Nat → Nat) × (Nat → Int32)))))
def CP (t gX gM nb na np : Nat) (c d : r_c) : Prop := ∃ (y nc nt nr nl no bu mi : Nat) (yo yc ra bl ch : Nat → Nat) (u : Nat → Int32), cpN y c d ∧ cpB nb c d ∧ cpY nb yo yc t c d ∧ cpF nb t ra bl ch u bu mi c d ∧ cpR nc c d ∧ cpT nt c d ∧ cpA nb na c d ∧ cpP nr c d ∧ cpL na np nl t gX gM c d ∧ cpO no c d
theorem CP_0 : CP 0 0 0 0 0 0 cX0 cM0 := by
  have hz : p_sm (fun _ => 0) 12 = 0 := rfl
  refine ⟨0, 0, 0, 0, 0, 0, 0, 0, fun _ => 0, fun _ => 0, fun _ => 0, fun _ => 0, fun _ => 0, upd (upd (upd (fun _ => 0) 11 (-1)) 12 9) 13 1, ⟨rfl, rfl, by omega, rfl⟩, ⟨rfl, fun i hi => by omega⟩, ⟨fun _ => rfl, fun _ _ => rfl, Nat.le_refl _, fun _ _ => rfl, fun _ => rfl, fun _ _ => rfl, fun _ => Nat.zero_le _⟩, ?_, ⟨rfl, by omega, rfl, fun i hi => by omega, fun _ => (show (0 : Int32) ≤ 0 by decide)⟩, ⟨rfl, by omega, rfl, rfl, fun _ => (show (0 : Int32) ≠ -1 by decide)⟩, ⟨rfl, fun b hb => by omega, fun _ _ => rfl, fun _ _ => rfl⟩, ⟨rfl, by omega, rfl, fun i hi => by omega⟩, ⟨rfl, fun p hp => by omega, fun _ _ => rfl, rfl, rfl, by omega, by omega, by omega, by omega, fun k hk => by omega, fun _ _ => rfl⟩, ⟨rfl, by omega, rfl, fun o ho => by omega⟩⟩
  refine ⟨⟨rfl, rfl, rfl, rfl, rfl, fun k h1 h2 => ?_⟩, ⟨fun _ _ => rfl, fun _ _ => rfl, fun _ _ => rfl, fun k h1 h2 => ?_⟩, fun _ _ => ⟨rfl, rfl⟩, Nat.le_refl _, Nat.le_refl _, rfl, Nat.le_refl _, rfl, by omega, Nat.le_refl _, by decide, by decide, by decide⟩
  · rfl
  · rcases (show k = 5 ∨ k = 6 ∨ k = 7 ∨ k = 8 ∨ k = 9 ∨ k = 10 ∨ k = 11 ∨ k = 12 ∨ k = 13 by omega) with e | e | e | e | e | e | e | e | e <;> subst e <;> rfl
