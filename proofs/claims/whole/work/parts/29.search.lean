/-! the class' search finds, or nothing can be found -/
theorem nI_m1 {a : Nat} (h : a < 2 ^ 31) : nI a ≠ -1 := fun q => by
  rw [z_ie, nI_toInt h, show (-1 : Int32).toInt = -1 from by decide] at q
  omega
theorem nI_j {a b : Nat} (ha : a < 2 ^ 31) (hb : b < 2 ^ 31) (h : nI a = nI b) : a = b := (nI_eq ha hb).mp h
def xR (n m : Nat) (F : Nat → Int32) : mR := fun x y => x < n ∧ y < m ∧ F x = nI y
/-- the two rows tell one matching -/
def oM (n m : Nat) (F T : Nat → Int32) : Prop := (∀ x, x < n → F x = -1 ∨ ∃ y, y < m ∧ F x = nI y ∧ T y = nI x) ∧ ∀ y, y < m → T y = -1 ∨ ∃ x, x < n ∧ T y = nI x ∧ F x = nI y
def xadj (cm P : Nat → Int32) (n m : Nat) : mR := fun x y => x < n ∧ y < m ∧ ¬ (cm y >>> (nI x &&& 31)) &&& 1 = 0 ∧ P y = 0
/-- how each order of the queue was reached -/
def hch (n m j wt : Nat) (F K Q : Nat → Int32) (adj : mR) : Prop := ∀ k x, k < wt → x < n → Q k = nI x → (k = 0 ∧ x = j) ∨ (0 < k ∧ ∃ y k' x', y < m ∧ k' < k ∧ x' < n ∧ Q k' = nI x' ∧ K y = nI x' ∧ F x = nI y ∧ adj x' y)
theorem xR_un {n m : Nat} {F : Nat → Int32} (hm : m ≤ 100) {o b b' : Nat} (h : xR n m F o b) (h' : xR n m F o b') : b = b' := nI_j (by have := h.2.1; omega) (by have := h'.2.1; omega) (h.2.2.symm.trans h'.2.2)
theorem ho_spec {n m j wt : Nat} {F K Q : Nat → Int32} {adj : mR} (hn : n ≤ 8) (hm : m ≤ 100) (hc : hch n m j wt F K Q adj) (hi : ∀ k k', k < wt → k' < wt → Q k = Q k' → k = k') (hj : j < n) (hF : F j = -1) :
    ∀ (fuel k x y : Nat) (F1 T1 : Nat → Int32), k < fuel → k < wt → x < n → Q k = nI x → y < m → K y = nI x → adj x y → mt adj (xR n m F1) → (∀ i x', i ≤ k → x' < n → Q i = nI x' → F1 x' = F x') → (∀ x', x' < n → F1 x' ≠ nI y) →
      (∀ x', x' < n → F1 x' = -1 ∨ ∃ y', y' < m ∧ F1 x' = nI y' ∧ T1 y' = nI x') → (∀ y', y' < m → y' ≠ y → T1 y' = -1 ∨ ∃ x', x' < n ∧ T1 y' = nI x' ∧ F1 x' = nI y') → (∀ x', mh (xR n m F1) x' ↔ mh (xR n m F) x') → (∀ Z, mcl adj (xR n m F) Z → ¬ Z x ∧ ∀ x', Z x' → F1 x' = F x') →
      oM n m (ho K fuel F1 T1 (nI y)).1 (ho K fuel F1 T1 (nI y)).2 ∧ mt adj (xR n m (ho K fuel F1 T1 (nI y)).1) ∧ (∀ x', mh (xR n m (ho K fuel F1 T1 (nI y)).1) x' ↔ mh (xR n m F) x' ∨ x' = j) ∧ ∀ Z, mcl adj (xR n m F) Z → ¬ Z j ∧ ∀ x', Z x' → (ho K fuel F1 T1 (nI y)).1 x' = F x' := by
  intro fuel
  induction fuel with
  | zero => intros; omega
  | succ fuel ih =>
    intro k x y F1 T1 hk hkw hx hQ hy hK ha hA hs hfr hc1 hc2 hh hZ
    have e1 : ho K (fuel + 1) F1 T1 (nI y) = ho K fuel (upd F1 x (nI y)) (upd T1 y (nI x)) (F1 x) := by
      rw [ho, if_neg (fun q => q.elim (nI_pos (by omega)) (fun q => by have := (nI_leI (by decide) (by omega)).mp q; omega)), nI_clamp (show y < 2 ^ 31 by omega), hK, if_neg (fun q => q.elim (nI_pos (by omega)) (fun q => by have := (nI_leI (by decide) (by omega)).mp q; omega)), nI_clamp (show x < 2 ^ 31 by omega)]
    have hF1 : F1 x = F x := hs k x (Nat.le_refl k) hx hQ
    -- the new rows
    have hA3 : mt adj (xR n m (upd F1 x (nI y))) := by
      refine ⟨fun o b h => ?_, fun o b b' h h' => xR_un hm h h', fun o o' b h h' => ?_⟩
      · obtain ⟨h1, h2, h3⟩ := h
        by_cases e : o = x
        · subst e
          rw [pk_us] at h3
          rw [← nI_j (by omega) (by omega) h3]; exact ha
        · rw [pk_un e] at h3
          exact hA.1 o b ⟨h1, h2, h3⟩
      · obtain ⟨h1, h2, h3⟩ := h
        obtain ⟨h1', h2', h3'⟩ := h'
        by_cases e : o = x
        · by_cases e' : o' = x
          · rw [e, e']
          · rw [e, pk_us] at h3
            rw [pk_un e', ← h3] at h3'
            exact absurd h3' (hfr o' h1')
        · rw [pk_un e] at h3
          by_cases e' : o' = x
          · rw [e', pk_us] at h3'
            rw [← h3'] at h3
            exact absurd h3 (hfr o h1)
          · rw [pk_un e'] at h3'
            exact hA.2.2 o o' b ⟨h1, h2, h3⟩ ⟨h1', h2', h3'⟩
    have hC1 : ∀ x', x' < n → (upd F1 x (nI y)) x' = -1 ∨ ∃ y', y' < m ∧ (upd F1 x (nI y)) x' = nI y' ∧ (upd T1 y (nI x)) y' = nI x' := fun x' hx' => by
      by_cases e : x' = x
      · subst e
        exact Or.inr ⟨y, hy, pk_us, pk_us⟩
      · rw [pk_un e]
        rcases hc1 x' hx' with q | ⟨y', q1, q2, q3⟩
        · exact Or.inl q
        · refine Or.inr ⟨y', q1, q2, ?_⟩
          rw [pk_un (fun z => hfr x' hx' (by rw [← z]; exact q2))]
          exact q3
    rw [e1]
    rcases hc k x hkw hx hQ with ⟨k0, xj⟩ | ⟨k0, y', k', x'', h1, h2, h3, h4, h5, h6, h7⟩
    · subst xj
      rw [hF1, hF, ho_stop (Or.inl (by decide))]
      show oM n m (upd F1 x (nI y)) (upd T1 y (nI x)) ∧ mt adj (xR n m (upd F1 x (nI y))) ∧ (∀ x', mh (xR n m (upd F1 x (nI y))) x' ↔ mh (xR n m F) x' ∨ x' = x) ∧ ∀ Z, mcl adj (xR n m F) Z → ¬ Z x ∧ ∀ x', Z x' → (upd F1 x (nI y)) x' = F x'
      refine ⟨⟨hC1, fun y'' hy'' => ?_⟩, hA3, fun x' => ⟨fun ⟨b, b1, b2, b3⟩ => ?_, fun q => ?_⟩, fun Z hz => ⟨(hZ Z hz).1, fun x' hx' => ?_⟩⟩
      · by_cases e : y'' = y
        · subst e
          exact Or.inr ⟨x, hx, pk_us, pk_us⟩
        · rw [pk_un e]
          rcases hc2 y'' hy'' e with q | ⟨x', q1, q2, q3⟩
          · exact Or.inl q
          · refine Or.inr ⟨x', q1, q2, ?_⟩
            rw [pk_un (fun z => by rw [z, hF1, hF] at q3; exact nI_m1 (by omega) q3.symm)]
            exact q3
      · by_cases e : x' = x
        · exact Or.inr e
        · rw [pk_un e] at b3
          exact Or.inl ((hh x').mp ⟨b, b1, b2, b3⟩)
      · rcases q with q | q
        · obtain ⟨b, b1, b2, b3⟩ := (hh x').mpr q
          refine ⟨b, b1, b2, ?_⟩
          rw [pk_un (fun z => by rw [z, hF1, hF] at b3; exact nI_m1 (by omega) b3.symm)]
          exact b3
        · subst q
          exact ⟨y, hx, hy, pk_us⟩
      · have hz2 := hZ Z hz
        rw [pk_un (fun z => hz2.1 (by rw [← z]; exact hx'))]
        exact hz2.2 x' hx'
    · rw [hF1, h6]
      have hF1' : F1 x = nI y' := hF1.trans h6
      have hyy : y' ≠ y := fun z => hfr x hx (by rw [← z]; exact hF1')
      have hkk : ∀ i x', i ≤ k' → x' < n → Q i = nI x' → x' ≠ x := fun i x' i1 i2 i3 z => by
        rw [z, ← hQ] at i3
        have := hi i k (by omega) hkw i3
        omega
      refine ih k' x'' y' _ _ (by omega) (by omega) h3 h4 h1 h5 h7 hA3 (fun i x' i1 i2 i3 => ?_) (fun x' hx' z => ?_) hC1 (fun y'' hy'' hne => ?_) (fun x' => ?_) (fun Z hz => ?_)
      · rw [pk_un (hkk i x' i1 i2 i3)]
        exact hs i x' (by omega) i2 i3
      · by_cases e : x' = x
        · rw [e, pk_us] at z
          exact hyy (nI_j (by omega) (by omega) z.symm)
        · rw [pk_un e] at z
          exact e (hA.2.2 x' x y' ⟨hx', h1, z⟩ ⟨hx, h1, hF1'⟩)
      · by_cases e : y'' = y
        · subst e
          exact Or.inr ⟨x, hx, pk_us, pk_us⟩
        · rw [pk_un e]
          rcases hc2 y'' hy'' e with q | ⟨x', q1, q2, q3⟩
          · exact Or.inl q
          · refine Or.inr ⟨x', q1, q2, ?_⟩
            rw [pk_un (fun z => by rw [z, hF1'] at q3; exact hne (nI_j (by omega) (by omega) q3.symm))]
            exact q3
      · rw [← hh x']
        by_cases e : x' = x
        · subst e
          exact ⟨fun _ => ⟨y', hx, h1, hF1'⟩, fun _ => ⟨y, hx, hy, pk_us⟩⟩
        · exact ⟨fun ⟨b, b1, b2, b3⟩ => ⟨b, b1, b2, by rw [pk_un e] at b3; exact b3⟩, fun ⟨b, b1, b2, b3⟩ => ⟨b, b1, b2, by rw [pk_un e]; exact b3⟩⟩
      · have hz2 := hZ Z hz
        refine ⟨fun q => ?_, fun x' hx' => ?_⟩
        · obtain ⟨o', q1, q2⟩ := hz x'' y' q h7
          have q3 : F1 o' = nI y' := (hz2.2 o' q1).trans q2.2.2
          have := hA.2.2 o' x y' ⟨q2.1, h1, q3⟩ ⟨hx, h1, hF1'⟩
          exact hz2.1 (by rw [← this]; exact q1)
        · rw [pk_un (fun z => hz2.1 (by rw [← z]; exact hx'))]
          exact hz2.2 x' hx'
theorem q_len {n w : Nat} {q : Nat → Int32} (hn : n ≤ 8) (h : ∀ k, k < w → ∃ x, x < n ∧ q k = nI x) (hi : ∀ k k', k < w → k' < w → q k = q k' → k = k') : w ≤ n := by
  have ht : ∀ k, o_cnt (fun _ => true) k = k := fun k => by
    induction k with
    | zero => rfl
    | succ k ih => rw [o_cnt, ih]; rfl
  have := o_ph (fun k => (q k).toNatClampNeg) (fun _ => true) n w (fun _ => true) (fun o ho _ => by
    obtain ⟨x, h1, h2⟩ := h o ho
    show (q o).toNatClampNeg < n ∧ _
    rw [h2, nI_clamp (by omega)]
    exact ⟨h1, rfl⟩) (fun o o' ho ho' _ _ e => by
    obtain ⟨x, h1, h2⟩ := h o ho
    obtain ⟨x', h1', h2'⟩ := h o' ho'
    have e : (q o).toNatClampNeg = (q o').toNatClampNeg := e
    rw [h2, h2', nI_clamp (by omega), nI_clamp (by omega)] at e
    exact hi o o' ho ho' (by rw [h2, h2', e]))
  rw [ht, ht] at this
  exact this
def fbI (n m j s : Nat) (F cm P : Nat → Int32) (adj : mR) (h y0 : Nat) (S : fbS) : Prop :=
  1 ≤ S.2.2.1 ∧ S.2.2.2 = none ∧ (∀ k, k < S.2.2.1 → ∃ x, x < n ∧ s ≤ x ∧ S.2.1 k = nI x) ∧ S.2.1 0 = nI j ∧ hch n m j S.2.2.1 F S.1 S.2.1 adj ∧ (∀ k k', k < S.2.2.1 → k' < S.2.2.1 → S.2.1 k = S.2.1 k' → k = k') ∧
  (∀ y, y < m → S.1 y = -1 ∨ ∃ k' x', k' < S.2.2.1 ∧ x' < n ∧ S.2.1 k' = nI x' ∧ F x' = nI y) ∧
  ∀ k x y, k < S.2.2.1 → x < n → S.2.1 k = nI x → y < m → xadj cm P n m x y → (k < h ∨ (k = h ∧ y < y0)) → S.1 y ≠ -1
def fbE (n m j : Nat) (F T : Nat → Int32) (adj : mR) (S : fbS) : Prop :=
  hch n m j S.2.2.1 F S.1 S.2.1 adj ∧ (∀ k k', k < S.2.2.1 → k' < S.2.2.1 → S.2.1 k = S.2.1 k' → k = k') ∧ S.2.2.1 ≤ n ∧ ∃ k x y, S.2.2.2 = some y ∧ k < S.2.2.1 ∧ x < n ∧ S.2.1 k = nI x ∧ y < m ∧ S.1 y = nI x ∧ adj x y ∧ T y = -1
theorem fb1_spec {n m j s : Nat} {F T cm P : Nat → Int32} {adj : mR} (hn : n ≤ 8) (hm : m ≤ 100) (hO : oM n m F T) (hadj : ∀ x y, s ≤ x → (adj x y ↔ xadj cm P n m x y)) (hpr : ∀ x y, x < s → x < n → y < m → F x = nI y → ¬ P y = 0) (hj : j < n) (hF : F j = -1)
    {h y : Nat} {S : fbS} {ov : Int32} (hI : fbI n m j s F cm P adj h y S) (hy : y < m) (hh : h < S.2.2.1) (ho : S.2.1 h = ov) :
    (fbI n m j s F cm P adj h (y + 1) (fb1 cm P T ov y S) ∧ h < (fb1 cm P T ov y S).2.2.1 ∧ (fb1 cm P T ov y S).2.1 h = ov) ∨ ((fb1 cm P T ov y S).2.2.2 ≠ none ∧ fbE n m j F T adj (fb1 cm P T ov y S)) := by
  obtain ⟨i1, i2, i3, i4, i5, i6, i7, i8⟩ := id hI
  obtain ⟨o, o1, o2, o3⟩ := i3 h hh
  have hov : ov = nI o := by rw [← ho, o3]
  subst hov
  by_cases c1 : (cm y >>> (nI o &&& 31)) &&& 1 = 0 ∨ ¬ P y = 0 ∨ ¬ S.1 y = -1
  · rw [fb1, if_pos c1]
    refine Or.inl ⟨⟨i1, i2, i3, i4, i5, i6, i7, fun k x y' k1 k2 k3 k4 k5 k6 => ?_⟩, hh, o3⟩
    by_cases e : k = h ∧ y' = y
    · obtain ⟨rfl, rfl⟩ := e
      have hxo : x = o := nI_j (by omega) (by omega) (k3.symm.trans o3)
      subst hxo
      exact c1.elim (fun q => absurd q k5.2.2.1) (fun q => q.elim (fun z => absurd k5.2.2.2 z) id)
    · exact i8 k x y' k1 k2 k3 k4 k5 (by omega)
  · have d1 : ¬ (cm y >>> (nI o &&& 31)) &&& 1 = 0 := fun q => c1 (Or.inl q)
    have d2 : P y = 0 := Classical.byContradiction fun q => c1 (Or.inr (Or.inl q))
    have d3 : S.1 y = -1 := Classical.byContradiction fun q => c1 (Or.inr (Or.inr q))
    have hxa : xadj cm P n m o y := ⟨o1, hy, d1, d2⟩
    have haa : adj o y := (hadj o y o2).mpr hxa
    have hKne : ∀ y1 x1, x1 < n → S.1 y1 = nI x1 → y1 ≠ y := fun y1 x1 q1 q2 z => by
      rw [z, d3] at q2
      exact nI_m1 (by omega) q2.symm
    have hch' : hch n m j S.2.2.1 F (upd S.1 y (nI o)) S.2.1 adj := fun k x k1 k2 k3 => by
      rcases i5 k x k1 k2 k3 with q | ⟨q0, y1, k', x', q1, q2, q3, q4, q5, q6, q7⟩
      · exact Or.inl q
      · exact Or.inr ⟨q0, y1, k', x', q1, q2, q3, q4, by rw [pk_un (hKne y1 x' q3 q5)]; exact q5, q6, q7⟩
    rw [fb1, if_neg c1]
    by_cases c2 : T y = -1
    · rw [if_pos c2]
      refine Or.inr ⟨by simp, hch', i6, q_len hn (fun k hk => (i3 k hk).elim fun x q => ⟨x, q.1, q.2.2⟩) i6, h, o, y, rfl, hh, o1, o3, hy, pk_us, haa, c2⟩
    · rw [if_neg c2]
      rcases hO.2 y hy with q | ⟨x', x1, x2, x3⟩
      · exact absurd q c2
      · have hsx : s ≤ x' := by
          by_cases q : s ≤ x'
          · exact q
          · exact absurd d2 (hpr x' y (by omega) x1 hy x3)
        have hnq : ∀ k, k < S.2.2.1 → S.2.1 k ≠ nI x' := fun k hk z => by
          rcases i5 k x' hk x1 z with q | ⟨q0, y1, k', x'', q1, q2, q3, q4, q5, q6, q7⟩
          · rw [q.2, hF] at x3
            exact nI_m1 (by omega) x3.symm
          · have : y1 = y := nI_j (by omega) (by omega) (q6.symm.trans x3)
            exact hKne y1 x'' q3 q5 this
        have hQ3 : ∀ k, k < S.2.2.1 + 1 → ∃ x, x < n ∧ s ≤ x ∧ (upd S.2.1 S.2.2.1 (T y)) k = nI x := fun k hk => by
          by_cases e : k = S.2.2.1
          · exact ⟨x', x1, hsx, by rw [e, pk_us]; exact x2⟩
          · obtain ⟨x, q⟩ := i3 k (by omega)
            exact ⟨x, q.1, q.2.1, by rw [pk_un e]; exact q.2.2⟩
        have hQi : ∀ k k', k < S.2.2.1 + 1 → k' < S.2.2.1 + 1 → (upd S.2.1 S.2.2.1 (T y)) k = (upd S.2.1 S.2.2.1 (T y)) k' → k = k' := fun k k' k1 k2 e => by
          by_cases e1 : k = S.2.2.1
          · by_cases e2 : k' = S.2.2.1
            · omega
            · rw [e1, pk_us, pk_un e2, x2] at e
              exact absurd e.symm (hnq k' (by omega))
          · by_cases e2 : k' = S.2.2.1
            · rw [e2, pk_us, pk_un e1, x2] at e
              exact absurd e (hnq k (by omega))
            · rw [pk_un e1, pk_un e2] at e
              exact i6 k k' (by omega) (by omega) e
        have hlen := q_len hn (fun k hk => (hQ3 k hk).elim fun x q => ⟨x, q.1, q.2.2⟩) hQi
        rw [if_pos (by omega)]
        refine Or.inl ⟨⟨by show 1 ≤ S.2.2.1 + 1; omega, rfl, hQ3, ?_, fun k x k1 k2 k3 => ?_, hQi, fun y1 hy1 => ?_, fun k x y1 k1 k2 k3 k4 k5 k6 => ?_⟩, by show h < S.2.2.1 + 1; omega, ?_⟩
        · show (upd S.2.1 S.2.2.1 (T y)) 0 = _
          rw [pk_un (by omega)]; exact i4
        · have k1 : k < S.2.2.1 + 1 := k1
          have k3 : (upd S.2.1 S.2.2.1 (T y)) k = nI x := k3
          by_cases e : k = S.2.2.1
          · rw [e, pk_us, x2] at k3
            have hx : x = x' := nI_j (by omega) (by omega) k3.symm
            subst hx
            refine Or.inr ⟨by omega, y, h, o, hy, by omega, o1, ?_, pk_us, x3, haa⟩
            show (upd S.2.1 S.2.2.1 (T y)) h = _
            rw [pk_un (by omega)]; exact o3
          · rw [pk_un e] at k3
            rcases hch' k x (by omega) k2 k3 with q | ⟨q0, y1, k', x'', q1, q2, q3, q4, q5, q6, q7⟩
            · exact Or.inl q
            · refine Or.inr ⟨q0, y1, k', x'', q1, q2, q3, ?_, q5, q6, q7⟩
              show (upd S.2.1 S.2.2.1 (T y)) k' = _
              rw [pk_un (by omega)]; exact q4
        · by_cases e : y1 = y
          · subst e
            exact Or.inr ⟨S.2.2.1, x', Nat.lt_succ_self _, x1, by show (upd S.2.1 S.2.2.1 (T y1)) S.2.2.1 = _; rw [pk_us]; exact x2, x3⟩
          · show (upd S.1 y (nI o)) y1 = -1 ∨ _
            rw [pk_un e]
            rcases i7 y1 hy1 with q | ⟨k', x'', q1, q2, q3, q4⟩
            · exact Or.inl q
            · refine Or.inr ⟨k', x'', Nat.lt_succ_of_lt q1, q2, ?_, q4⟩
              show (upd S.2.1 S.2.2.1 (T y)) k' = _
              rw [pk_un (by omega)]; exact q3
        · have k1 : k < S.2.2.1 + 1 := k1
          have k3 : (upd S.2.1 S.2.2.1 (T y)) k = nI x := k3
          show (upd S.1 y (nI o)) y1 ≠ -1
          by_cases e : y1 = y
          · subst e
            rw [pk_us]; exact nI_m1 (by omega)
          · rw [pk_un e]
            rw [pk_un (by omega)] at k3
            exact i8 k x y1 (by omega) k2 k3 k4 k5 (by omega)
        · show (upd S.2.1 S.2.2.1 (T y)) h = _
          rw [pk_un (by omega)]; exact o3
theorem fbi_spec {n m j s : Nat} {F T cm P : Nat → Int32} {adj : mR} (hn : n ≤ 8) (hm : m ≤ 100) (hO : oM n m F T) (hadj : ∀ x y, s ≤ x → (adj x y ↔ xadj cm P n m x y)) (hpr : ∀ x y, x < s → x < n → y < m → F x = nI y → ¬ P y = 0) (hj : j < n) (hF : F j = -1)
    {h : Nat} {S : fbS} (hI : fbI n m j s F cm P adj h 0 S) (hh : h < S.2.2.1) : ∀ y, y ≤ m → (fbI n m j s F cm P adj h y (fbi cm P T (S.2.1 h) S y) ∧ h < (fbi cm P T (S.2.1 h) S y).2.2.1 ∧ (fbi cm P T (S.2.1 h) S y).2.1 h = S.2.1 h) ∨ ((fbi cm P T (S.2.1 h) S y).2.2.2 ≠ none ∧ fbE n m j F T adj (fbi cm P T (S.2.1 h) S y))
  | 0, _ => Or.inl ⟨hI, hh, rfl⟩
  | y + 1, hy => by
    rcases fbi_spec hn hm hO hadj hpr hj hF hI hh y (by omega) with ⟨q1, q2, q3⟩ | ⟨q1, q2⟩
    · rw [fbi, if_pos q1.2.1]
      exact fb1_spec hn hm hO hadj hpr hj hF q1 (by omega) q2 q3
    · rw [fbi, if_neg q1]
      exact Or.inr ⟨q1, q2⟩
theorem fbo_spec {n m j s : Nat} {F T cm P : Nat → Int32} {adj : mR} (hn : n ≤ 8) (hm : m ≤ 100) (hO : oM n m F T) (hadj : ∀ x y, s ≤ x → (adj x y ↔ xadj cm P n m x y)) (hpr : ∀ x y, x < s → x < n → y < m → F x = nI y → ¬ P y = 0) (hj : j < n) (hF : F j = -1)
    {S : fbS} (hI : fbI n m j s F cm P adj 0 0 S) : ∀ h, ((∃ h', h' ≤ (fbo cm P T m S h).2.2.1 ∧ (h' = h ∨ (h' = (fbo cm P T m S h).2.2.1 ∧ (fbo cm P T m S h).2.2.1 ≤ h)) ∧ fbI n m j s F cm P adj h' 0 (fbo cm P T m S h)) ∨ ((fbo cm P T m S h).2.2.2 ≠ none ∧ fbE n m j F T adj (fbo cm P T m S h)))
  | 0 => Or.inl ⟨0, Nat.zero_le _, Or.inl rfl, hI⟩
  | h + 1 => by
    rcases fbo_spec hn hm hO hadj hpr hj hF hI h with ⟨h', q1, q2, q3⟩ | ⟨q1, q2⟩
    · by_cases c : h < (fbo cm P T m S h).2.2.1
      · have hh : h' = h := by omega
        subst hh
        rw [fbo, if_pos ⟨q3.2.1, c⟩]
        rcases fbi_spec hn hm hO hadj hpr hj hF q3 c m (Nat.le_refl m) with ⟨r1, r2, r3⟩ | r
        · refine Or.inl ⟨h' + 1, r2, Or.inl rfl, r1.1, r1.2.1, r1.2.2.1, r1.2.2.2.1, r1.2.2.2.2.1, r1.2.2.2.2.2.1, r1.2.2.2.2.2.2.1, fun k x y k1 k2 k3 k4 k5 k6 => r1.2.2.2.2.2.2.2 k x y k1 k2 k3 k4 k5 (by omega)⟩
        · exact Or.inr r
      · rw [fbo, if_neg (fun q => c q.2)]
        have hh : h' = (fbo cm P T m S h).2.2.1 := by omega
        exact Or.inl ⟨h', q1, Or.inr ⟨hh, by omega⟩, q3⟩
    · rw [fbo, if_neg (fun q => q1 q.1)]
      exact Or.inr ⟨q1, q2⟩
theorem fb_spec {n m j s : Nat} {F T cm P : Nat → Int32} {adj : mR} (hn : n ≤ 8) (hm : m ≤ 100) (hO : oM n m F T) (hA : mt adj (xR n m F)) (hadj : ∀ x y, s ≤ x → (adj x y ↔ xadj cm P n m x y)) (hpr : ∀ x y, x < s → x < n → y < m → F x = nI y → ¬ P y = 0) (hj : j < n) (hsj : s ≤ j) (hF : F j = -1) :
    ((fbr cm P m F T (nI j)).1 = 0 ∧ mF adj (xR n m F) j) ∨ ((fbr cm P m F T (nI j)).1 = 1 ∧ oM n m (fbr cm P m F T (nI j)).2.1 (fbr cm P m F T (nI j)).2.2 ∧ mS adj (xR n m F) (xR n m (fbr cm P m F T (nI j)).2.1) j) := by
  have hI0 : fbI n m j s F cm P adj 0 0 (fun _ => -1, upd (fun _ => 0) 0 (nI j), 1, none) := by
    refine ⟨Nat.le_refl 1, rfl, fun k hk => ⟨j, hj, hsj, ?_⟩, (show upd (fun _ => 0) 0 (nI j) 0 = nI j from pk_us), fun k x k1 k2 k3 => ?_, fun k k' k1 k2 _ => ?_, fun y _ => Or.inl rfl, fun k x y _ _ _ _ _ q => by omega⟩
    · have : k = 0 := by have : k < 1 := hk; omega
      rw [this]; exact (show upd (fun _ => 0) 0 (nI j) 0 = nI j from pk_us)
    · have : k = 0 := by have : k < 1 := k1; omega
      subst this
      have k3 : (upd (fun _ => 0) 0 (nI j)) 0 = nI x := k3
      rw [pk_us] at k3
      exact Or.inl ⟨rfl, nI_j (by omega) (by omega) k3.symm⟩
    · have k1 : k < 1 := k1
      have k2 : k' < 1 := k2
      omega
  have hfo := fbo_spec (T := T) hn hm hO hadj hpr hj hF hI0 8
  have hZe : fbZ cm P T m (nI j) = fbo cm P T m (fun _ => -1, upd (fun _ => 0) 0 (nI j), 1, none) 8 := rfl
  rw [← hZe] at hfo
  rcases hfo with ⟨h', q1, q2, q3⟩ | ⟨q1, q2⟩
  · obtain ⟨i1, i2, i3, i4, i5, i6, i7, i8⟩ := q3
    have hlen := q_len hn (fun k hk => (i3 k hk).elim fun x q => ⟨x, q.1, q.2.2⟩) i6
    have hh : h' = (fbZ cm P T m (nI j)).2.2.1 := by omega
    rw [fbr_none i2]
    refine Or.inl ⟨rfl, fun x => ∃ k, k < (fbZ cm P T m (nI j)).2.2.1 ∧ x < n ∧ (fbZ cm P T m (nI j)).2.1 k = nI x, fun o b ⟨k, k1, k2, k3⟩ ha => ?_, ⟨0, by omega, hj, i4⟩, fun x ⟨k, k1, k2, k3⟩ => ?_⟩
    · obtain ⟨x, x1, x2, x3⟩ := i3 k k1
      have e : o = x := nI_j (by omega) (by omega) (k3.symm.trans x3)
      have hxa := (hadj o b (by omega)).mp ha
      have hb := hxa.2.1
      rcases i7 b hb with q | ⟨k', x', p1, p2, p3, p4⟩
      · exact absurd q (i8 k o b k1 k2 k3 hb hxa (Or.inl (by omega)))
      · exact ⟨x', ⟨k', p1, p2, p3⟩, p2, hb, p4⟩
    · rcases i5 k x k1 k2 k3 with q | ⟨p0, y1, k', x', p1, p2, p3, p4, p5, p6, p7⟩
      · exact Or.inl q.2
      · exact Or.inr ⟨y1, k2, p1, p6⟩
  · obtain ⟨e1, e2, e2n, k, x, y, e3, e4, e5, e6, e7, e8, e9, e10⟩ := q2
    rw [fbr_some e3]
    have hfree : ∀ x', x' < n → F x' ≠ nI y := fun x' hx' z => by
      rcases hO.1 x' hx' with q | ⟨y', p1, p2, p3⟩
      · rw [z] at q; exact nI_m1 (by omega) q
      · have : y' = y := nI_j (by omega) (by omega) (p2.symm.trans z)
        rw [this, e10] at p3
        exact nI_m1 (by omega) p3.symm
    obtain ⟨s1, s2, s3, s4⟩ := ho_spec hn hm e1 e2 hj hF 8 k x y F T (by omega) e4 e5 e6 e7 e8 e9 hA (fun _ _ _ _ _ => rfl) hfree hO.1 (fun y' hy' _ => hO.2 y' hy') (fun _ => Iff.rfl) (fun Z hz => ⟨fun q => by
      obtain ⟨o', p1, p2⟩ := hz x y q e9
      exact hfree o' p2.1 p2.2.2, fun _ _ => rfl⟩)
    refine Or.inr ⟨rfl, s1, s2, s3, fun Z hz => ⟨(s4 Z hz).1, fun x' b hx' => ?_⟩⟩
    show (_ ∧ _ ∧ _) ↔ (_ ∧ _ ∧ _)
    rw [(s4 Z hz).2 x' hx']
