/-! the class' MET is the first way of all -/
def xfit (cm : Nat → Int32) (n m : Nat) : mR := fun x y => x < n ∧ y < m ∧ ¬ (cm y >>> (nI x &&& 31)) &&& 1 = 0
theorem oM_mh {n m : Nat} {F T : Nat → Int32} (h : oM n m F T) {x : Nat} (hx : x < n) : F x = -1 ∨ mh (xR n m F) x := (h.1 x hx).imp id (fun ⟨y, q1, q2, _⟩ => ⟨y, hx, q1, q2⟩)
theorem xR_no {n m : Nat} {F : Nat → Int32} (hm : m ≤ 100) {x : Nat} (h : F x = -1) : ¬ mh (xR n m F) x := fun ⟨y, _, q1, q2⟩ => nI_m1 (show y < 2 ^ 31 by omega) (by rw [← q2, h])
theorem ix_nI {a n : Nat} (h : a < n) (hn : n ≤ 100) : ix_ok (nI a) n := ix_of h (by omega)
theorem ix_m1 {n : Nat} : ¬ ix_ok (-1) n := fun q => q.1 (by decide)
/-- order i gets the free bar b -/
theorem oM_asg {n m : Nat} {F T : Nat → Int32} (hn : n ≤ 8) (hm : m ≤ 100) (h : oM n m F T) {i b : Nat} (hi : i < n) (hb : b < m) (hf : T b = -1) : oM n m (upd F i (nI b)) (upd (if ix_ok (F i) 100 then upd T (F i).toNatClampNeg (-1) else T) b (nI i)) := by
  have hfree : ∀ x', x' < n → F x' ≠ nI b := fun x' hx' z => by
    rcases h.1 x' hx' with q | ⟨y', p1, p2, p3⟩
    · rw [z] at q; exact nI_m1 (by omega) q
    · have : y' = b := nI_j (by omega) (by omega) (p2.symm.trans z)
      rw [this, hf] at p3
      exact nI_m1 (by omega) p3.symm
  have hT : ∀ y', y' ≠ b → (F i ≠ nI y' → (if ix_ok (F i) 100 then upd T (F i).toNatClampNeg (-1) else T) y' = T y') := fun y' _ hne => by
    split
    · rename_i q
      refine pk_un fun z => hne ?_
      rw [ix_eq q, z]
    · rfl
  refine ⟨fun x' hx' => ?_, fun y' hy' => ?_⟩
  · by_cases e : x' = i
    · subst e
      exact Or.inr ⟨b, hb, pk_us, pk_us⟩
    · rw [pk_un e]
      rcases h.1 x' hx' with q | ⟨y', p1, p2, p3⟩
      · exact Or.inl q
      · have hyb : y' ≠ b := fun z => hfree x' hx' (by rw [← z]; exact p2)
        refine Or.inr ⟨y', p1, p2, ?_⟩
        rw [pk_un hyb, hT y' hyb (fun z => ?_)]
        · exact p3
        · rcases h.1 i hi with q | ⟨y2, r1, r2, r3⟩
          · rw [z] at q; exact nI_m1 (by omega) q
          · have : y2 = y' := nI_j (by omega) (by omega) (r2.symm.trans z)
            rw [this, p3] at r3
            exact e (nI_j (by omega) (by omega) r3)
  · by_cases e : y' = b
    · subst e
      exact Or.inr ⟨i, hi, pk_us, pk_us⟩
    · rw [pk_un e]
      by_cases hFi : F i = nI y'
      · have hok : ix_ok (F i) 100 := by rw [hFi]; exact ix_nI (by omega) (by omega)
        rw [if_pos hok, hFi, nI_clamp (by omega), pk_us]
        exact Or.inl rfl
      · rw [hT y' e hFi]
        rcases h.2 y' hy' with q | ⟨x', p1, p2, p3⟩
        · exact Or.inl q
        · refine Or.inr ⟨x', p1, p2, ?_⟩
          rw [pk_un (fun z => hFi (by rw [← z]; exact p3))]
          exact p3
theorem oM_drop {n m : Nat} {F T : Nat → Int32} (hn : n ≤ 8) (hm : m ≤ 100) (h : oM n m F T) {l b : Nat} (hl : l < n) (hb : b < m) (hT : T b = nI l) (hF : F l = nI b) : oM n m (upd F l (-1)) (upd T b (-1)) := by
  refine ⟨fun x' hx' => ?_, fun y' hy' => ?_⟩
  · by_cases e : x' = l
    · subst e; exact Or.inl pk_us
    · rw [pk_un e]
      rcases h.1 x' hx' with q | ⟨y', p1, p2, p3⟩
      · exact Or.inl q
      · refine Or.inr ⟨y', p1, p2, ?_⟩
        rw [pk_un (fun z => by rw [z, hT] at p3; exact e (nI_j (by omega) (by omega) p3.symm))]
        exact p3
  · by_cases e : y' = b
    · subst e; exact Or.inl pk_us
    · rw [pk_un e]
      rcases h.2 y' hy' with q | ⟨x', p1, p2, p3⟩
      · exact Or.inl q
      · refine Or.inr ⟨x', p1, p2, ?_⟩
        rw [pk_un (fun z => by rw [z, hF] at p3; exact e (nI_j (by omega) (by omega) p3.symm))]
        exact p3
theorem mt_asg {n m : Nat} {F : Nat → Int32} {adj : mR} (hm : m ≤ 100) (hA : mt adj (xR n m F)) {i b : Nat} (ha : adj i b) (hb : b < m) (hfr : ∀ x, x < n → F x ≠ nI b) : mt adj (xR n m (upd F i (nI b))) := by
  refine ⟨fun o c h => ?_, fun o c c' h h' => xR_un hm h h', fun o o' c h h' => ?_⟩
  · obtain ⟨h1, h2, h3⟩ := h
    by_cases e : o = i
    · subst e
      rw [pk_us] at h3
      rw [← nI_j (by omega) (by omega) h3]; exact ha
    · rw [pk_un e] at h3
      exact hA.1 o c ⟨h1, h2, h3⟩
  · obtain ⟨h1, h2, h3⟩ := h
    obtain ⟨h1', h2', h3'⟩ := h'
    by_cases e : o = i
    · by_cases e' : o' = i
      · rw [e, e']
      · rw [e, pk_us] at h3
        rw [pk_un e', ← h3] at h3'
        exact absurd h3' (hfr o' h1')
    · rw [pk_un e] at h3
      by_cases e' : o' = i
      · rw [e', pk_us] at h3'
        rw [← h3'] at h3
        exact absurd h3 (hfr o h1)
      · rw [pk_un e'] at h3'
        exact hA.2.2 o o' c ⟨h1, h2, h3⟩ ⟨h1', h2', h3'⟩
theorem mh_asg {n m : Nat} {F : Nat → Int32} {i b : Nat} (hi : i < n) (hb : b < m) (x : Nat) : mh (xR n m (upd F i (nI b))) x ↔ mh (xR n m F) x ∨ x = i := by
  constructor
  · intro ⟨y, h1, h2, h3⟩
    by_cases e : x = i
    · exact Or.inr e
    · rw [pk_un e] at h3
      exact Or.inl ⟨y, h1, h2, h3⟩
  · intro h
    by_cases e : x = i
    · subst e; exact ⟨b, hi, hb, pk_us⟩
    · obtain ⟨y, h1, h2, h3⟩ := h.resolve_right e
      exact ⟨y, h1, h2, by rw [pk_un e]; exact h3⟩
theorem mh_drop {n m : Nat} {F : Nat → Int32} (hm : m ≤ 100) {l : Nat} (x : Nat) : mh (xR n m (upd F l (-1))) x ↔ mh (xR n m F) x ∧ x ≠ l := by
  by_cases e : x = l
  · subst e
    exact ⟨fun h => absurd h (xR_no hm pk_us), fun h => absurd rfl h.2⟩
  · constructor
    · intro ⟨y, h1, h2, h3⟩
      rw [pk_un e] at h3
      exact ⟨⟨y, h1, h2, h3⟩, e⟩
    · intro ⟨⟨y, h1, h2, h3⟩, _⟩
      exact ⟨y, h1, h2, by rw [pk_un e]; exact h3⟩
theorem mt_drop {n m : Nat} {F : Nat → Int32} {adj : mR} (hm : m ≤ 100) (hA : mt adj (xR n m F)) {l : Nat} : mt adj (xR n m (upd F l (-1))) := by
  have hs : ∀ o c, xR n m (upd F l (-1)) o c → xR n m F o c := fun o c h => by
    by_cases e : o = l
    · subst e
      exact absurd ⟨c, h⟩ (xR_no hm pk_us)
    · have := h.2.2
      rw [pk_un e] at this
      exact ⟨h.1, h.2.1, this⟩
  exact ⟨fun o c h => hA.1 o c (hs o c h), fun o c c' h h' => xR_un hm h h', fun o o' c h h' => hA.2.2 o o' c (hs o c h) (hs o' c h')⟩
/-- the later orders, searched for -/
theorem fba_spec {n m s : Nat} {F T cm P : Nat → Int32} {adj : mR} (hn : n ≤ 8) (hm : m ≤ 100) (hO : oM n m F T) (hA : mt adj (xR n m F)) (hadj : ∀ x y, s ≤ x → (adj x y ↔ xadj cm P n m x y)) (hpr : ∀ x y, x < s → x < n → y < m → F x = nI y → ¬ P y = 0) :
    ∀ k x, s ≤ x → x + k ≤ n → ((fba cm P m F T k x).1 = 0 ∧ ∀ j, x ≤ j → j < x + k → F j = -1 → mF adj (xR n m F) j) ∨ ((fba cm P m F T k x).1 = 1 ∧ ∃ j, x ≤ j ∧ j < x + k ∧ F j = -1 ∧ oM n m (fba cm P m F T k x).2.1 (fba cm P m F T k x).2.2 ∧ mS adj (xR n m F) (xR n m (fba cm P m F T k x).2.1) j)
  | 0, x, _, _ => Or.inl ⟨rfl, fun j h1 h2 => by omega⟩
  | k + 1, x, hs, hk => by
    rw [fba]
    by_cases c : F x = -1 ∧ (fbr cm P m F T (nI x)).1 = 1
    · rw [if_pos c]
      rcases fb_spec hn hm hO hA hadj hpr (show x < n by omega) hs c.1 with ⟨q, _⟩ | ⟨q1, q2, q3⟩
      · rw [q] at c; exact absurd c.2 (by decide)
      · exact Or.inr ⟨q1, x, Nat.le_refl x, by omega, c.1, q2, q3⟩
    · rw [if_neg c]
      rcases fba_spec hn hm hO hA hadj hpr k (x + 1) (by omega) (by omega) with ⟨q1, q2⟩ | ⟨q1, j, q2, q3, q4⟩
      · refine Or.inl ⟨q1, fun j h1 h2 hF => ?_⟩
        by_cases e : j = x
        · subst e
          rcases fb_spec hn hm hO hA hadj hpr (show j < n by omega) hs hF with ⟨_, r⟩ | ⟨r, _⟩
          · exact r
          · exact absurd ⟨hF, r⟩ c
        · exact q2 j (by omega) (by omega) hF
      · exact Or.inr ⟨q1, j, by omega, by omega, q4⟩
def XP (cm : Nat → Int32) (n m i : Nat) (F T P : Nat → Int32) : Prop :=
  oM n m F T ∧ mt (xfit cm n m) (xR n m F) ∧ (∀ N, mt (xfit cm n m) N → mc N n ≤ mc (xR n m F) n) ∧ (∀ y, y < m → (P y = 0 ↔ ¬ ∃ x, x < i ∧ x < n ∧ F x = nI y)) ∧
  ∀ o, o < i → ∀ b', (∀ b, xR n m F o b → b' < b) → ¬ mext (xfit cm n m) (xR n m F) n (mc (xR n m F) n) o b'
/-- moving order i to bar b -/
theorem mvt_spec {cm : Nat → Int32} {n m i : Nat} {F T P : Nat → Int32} (hn : n ≤ 8) (hm : m ≤ 100) (hX : XP cm n m i F T P) (hi : i < n) {b : Nat} (hb : b < m) (hfit : xfit cm n m i b) (hP : P b = 0) (hne : F i ≠ nI b) :
    ((mvt cm P m n F T i b).1 = 1 ∧ oM n m (mvt cm P m n F T i b).2.1 (mvt cm P m n F T i b).2.2.1 ∧ (mvt cm P m n F T i b).2.2.2 = upd P b 1 ∧ mt (xfit cm n m) (xR n m (mvt cm P m n F T i b).2.1) ∧ mc (xR n m (mvt cm P m n F T i b).2.1) n = mc (xR n m F) n ∧ (mvt cm P m n F T i b).2.1 i = nI b ∧ ∀ x y, x < i → (xR n m (mvt cm P m n F T i b).2.1 x y ↔ xR n m F x y)) ∨
    ((mvt cm P m n F T i b).1 = 0 ∧ (mvt cm P m n F T i b).2 = (F, T, P) ∧ ¬ mext (xfit cm n m) (xR n m F) n (mc (xR n m F) n) i b) := by
  obtain ⟨hO, hA, hMx, hPr, hCn⟩ := hX
  have hfree0 : T b = -1 → ∀ x', x' < n → F x' ≠ nI b := fun hf x' hx' z => by
    rcases hO.1 x' hx' with q | ⟨y', p1, p2, p3⟩
    · rw [z] at q; exact nI_m1 (by omega) q
    · have : y' = b := nI_j (by omega) (by omega) (p2.symm.trans z)
      rw [this, hf] at p3
      exact nI_m1 (by omega) p3.symm
  rcases hO.2 b hb with hf | ⟨l, hl, hTl, hFl⟩
  · -- the bar is free
    have hno : ¬ (ix_ok (F i) 100 ∧ ix_ok (T b) 8) := fun q => ix_m1 (n := 8) (by rw [hf] at q; exact q.2)
    have e : mvt cm P m n F T i b = (1, mvF F T i b, mvT F T i b, upd P b 1) := by unfold mvt; rw [if_pos hno]
    have eF : mvF F T i b = upd F i (nI b) := by unfold mvF; rw [if_neg (fun q => ix_m1 (n := 8) (by rw [hf] at q; exact q))]
    have hA' := mt_asg hm hA hfit hb (hfree0 hf)
    rw [e, eF]
    refine Or.inl ⟨rfl, oM_asg hn hm hO hi hb hf, rfl, hA', ?_, pk_us, fun x y hx => ?_⟩
    · show mc (xR n m (upd F i (nI b))) n = _
      by_cases hmi : mh (xR n m F) i
      · exact mc_congr fun o _ => (mh_asg hi hb o).trans ⟨fun q => q.elim id (fun q => q ▸ hmi), Or.inl⟩
      · have h1 := mc_add (R := xR n m F) (R' := xR n m (upd F i (nI b))) hi hmi (mh_asg hi hb)
        have h2 := hMx _ hA'
        omega
    · show (_ ∧ _ ∧ (upd F i (nI b)) x = _) ↔ _
      rw [pk_un (show x ≠ i by omega)]
      exact Iff.rfl
  · have hli : l ≠ i := fun z => hne (by rw [← z]; exact hFl)
    have hli2 : ¬ l < i := fun z => (hPr b hb).mp hP ⟨l, z, hl, hFl⟩
    have hTok : ix_ok (T b) 8 := by rw [hTl]; exact ix_nI (by omega) (by omega)
    have hTc : (T b).toNatClampNeg = l := by rw [hTl, nI_clamp (by omega)]
    have eF : mvF F T i b = upd (upd F l (-1)) i (nI b) := by unfold mvF; rw [if_pos hTok, hTc]
    have hOd := oM_drop hn hm hO hl hb hTl hFl
    have hAd := mt_drop (l := l) hm hA
    have hml : mh (xR n m F) l := ⟨b, hl, hb, hFl⟩
    have hcd : mc (xR n m F) n = mc (xR n m (upd F l (-1))) n + 1 := mc_add hl (xR_no hm pk_us) (fun x => by
      rw [mh_drop hm x]
      by_cases e : x = l
      · subst e; exact ⟨fun _ => Or.inr rfl, fun _ => hml⟩
      · exact ⟨fun q => Or.inl ⟨q, e⟩, fun q => (q.resolve_right e).1⟩)
    have hfd : ∀ x', x' < n → (upd F l (-1)) x' ≠ nI b := fun x' hx' z => by
      by_cases e : x' = l
      · rw [e, pk_us] at z; exact nI_m1 (by omega) z.symm
      · rw [pk_un e] at z
        exact e (hA.2.2 x' l b ⟨hx', hb, z⟩ ⟨hl, hb, hFl⟩)
    have hA1 := mt_asg hm hAd hfit hb hfd
    have hO1 := oM_asg hn hm hOd hi hb pk_us
    have eT : upd (if ix_ok ((upd F l (-1)) i) 100 then upd (upd T b (-1)) ((upd F l (-1)) i).toNatClampNeg (-1) else upd T b (-1)) b (nI i) = mvT F T i b := by
      unfold mvT
      rw [pk_un (Ne.symm hli)]
      funext y
      by_cases e : y = b
      · rw [e, pk_us, pk_us]
      · rw [pk_un e, pk_un e]
        split
        · by_cases e2 : y = (F i).toNatClampNeg
          · rw [e2, pk_us, pk_us]
          · rw [pk_un e2, pk_un e2, pk_un e]
        · rw [pk_un e]
    rw [eT, ← eF] at hO1
    rw [← eF] at hA1
    have hpre : ∀ x y, x < i → (xR n m (mvF F T i b) x y ↔ xR n m F x y) := fun x y hx => by
      rw [eF]
      show (_ ∧ _ ∧ (upd (upd F l (-1)) i (nI b)) x = _) ↔ _
      rw [pk_un (show x ≠ i by omega), pk_un (show x ≠ l by omega)]
      exact Iff.rfl
    by_cases hFi : ix_ok (F i) 100
    · -- both
      have hFn : F i ≠ -1 := fun z => ix_m1 (n := 100) (by rw [z] at hFi; exact hFi)
      obtain ⟨y0, hy0, hFy0, hTy0⟩ := (hO.1 i hi).resolve_left hFn
      have hc1 : mc (xR n m (mvF F T i b)) n + 1 = mc (xR n m F) n := by
        rw [hcd, eF]
        refine congrArg (· + 1) (mc_congr fun o _ => (mh_asg hi hb o).trans ⟨fun q => q.elim id (fun q => ?_), Or.inl⟩)
        rw [q, mh_drop hm i]
        exact ⟨⟨y0, hi, hy0, hFy0⟩, Ne.symm hli⟩
      have hA2 : mt (mfx (xfit cm n m) (xR n m (mvF F T i b)) (i + 1)) (xR n m (mvF F T i b)) := mt_ext hA1 (fun _ _ _ => Iff.rfl)
      have hP1 : ∀ y, y < m → ((upd P b 1) y = 0 ↔ ¬ ∃ x, x < i + 1 ∧ x < n ∧ (mvF F T i b) x = nI y) := fun y hy => by
        by_cases e : y = b
        · subst e
          rw [pk_us]
          exact ⟨fun q => absurd q (by decide), fun q => absurd ⟨i, Nat.lt_succ_self i, hi, by rw [eF, pk_us]⟩ q⟩
        · rw [pk_un e, hPr y hy]
          refine not_congr ⟨fun ⟨x, x1, x2, x3⟩ => ⟨x, by omega, x2, ((hpre x y x1).mpr ⟨x2, hy, x3⟩).2.2⟩, fun ⟨x, x1, x2, x3⟩ => ?_⟩
          by_cases e2 : x = i
          · rw [e2, eF, pk_us] at x3
            exact absurd (nI_j (by omega) (by omega) x3) (Ne.symm e)
          · exact ⟨x, by omega, x2, ((hpre x y (by omega)).mp ⟨x2, hy, x3⟩).2.2⟩
      have hadj : ∀ x y, i + 1 ≤ x → (mfx (xfit cm n m) (xR n m (mvF F T i b)) (i + 1) x y ↔ xadj cm (upd P b 1) n m x y) := fun x y hx => by
        constructor
        · intro ⟨q1, _, q3⟩
          refine ⟨q1.1, q1.2.1, q1.2.2, (hP1 y q1.2.1).mpr fun ⟨z, z1, z2, z3⟩ => q3 hx z z1 ⟨z2, q1.2.1, z3⟩⟩
        · intro ⟨q1, q2, q3, q4⟩
          exact ⟨⟨q1, q2, q3⟩, fun q => by omega, fun _ z z1 z2 => (hP1 y q2).mp q4 ⟨z, z1, z2.1, z2.2.2⟩⟩
      have hpr : ∀ x y, x < i + 1 → x < n → y < m → (mvF F T i b) x = nI y → ¬ (upd P b 1) y = 0 := fun x y h1 h2 h3 h4 q => (hP1 y h3).mp q ⟨x, h1, h2, h4⟩
      have hno : ¬ ¬ (ix_ok (F i) 100 ∧ ix_ok (T b) 8) := fun q => q ⟨hFi, hTok⟩
      rcases fba_spec hn hm hO1 hA2 hadj hpr (n - (i + 1)) (i + 1) (Nat.le_refl _) (by omega) with ⟨q1, q2⟩ | ⟨q1, j, q2, q3, q4, q5, q6⟩
      · -- fails
        have hr1 : ¬ (mvr cm P m n F T i b).1 = 1 := fun z => by
          have : (mvr cm P m n F T i b).1 = 0 := q1
          rw [this] at z; exact absurd z (by decide)
        have e : mvt cm P m n F T i b = (0, upd (upd (mvF F T i b) i (F i)) (T b).toNatClampNeg (nI b), upd (upd (mvT F T i b) (F i).toNatClampNeg (nI i)) b (T b), upd (upd P b 1) b 0) := by unfold mvt; rw [if_neg hno, if_neg hr1]
        rw [e]
        refine Or.inr ⟨rfl, ?_, fun ⟨N, n1, n2, n3, n4⟩ => ?_⟩
        · show (upd (upd (mvF F T i b) i (F i)) (T b).toNatClampNeg (nI b), upd (upd (mvT F T i b) (F i).toNatClampNeg (nI i)) b (T b), upd (upd P b 1) b 0) = (F, T, P)
          refine Prod.ext ?_ (Prod.ext ?_ ?_)
          · show upd (upd (mvF F T i b) i (F i)) (T b).toNatClampNeg (nI b) = F
            rw [hTc, eF]
            funext x
            by_cases e1 : x = l
            · rw [e1, pk_us, hFl]
            · rw [pk_un e1]
              by_cases e2 : x = i
              · rw [e2, pk_us]
              · rw [pk_un e2, pk_un e2, pk_un e1]
          · show upd (upd (mvT F T i b) (F i).toNatClampNeg (nI i)) b (T b) = T
            have hFc : (F i).toNatClampNeg = y0 := by rw [hFy0, nI_clamp (by omega)]
            rw [hFc]
            funext y
            by_cases e1 : y = b
            · rw [e1, pk_us]
            · rw [pk_un e1]
              by_cases e2 : y = y0
              · rw [e2, pk_us, hTy0]
              · rw [pk_un e2]
                unfold mvT
                rw [pk_un e1, if_pos hFi, hFc, pk_un e2]
          · show upd (upd P b 1) b 0 = P
            funext y
            by_cases e1 : y = b
            · rw [e1, pk_us, hP]
            · rw [pk_un e1, pk_un e1]
        · have hN : mt (mfx (xfit cm n m) (xR n m (mvF F T i b)) (i + 1)) N := mt_ext n1 (fun x y hx => by
            by_cases e2 : x = i
            · subst e2
              constructor
              · intro q
                have : y = b := n1.2.1 _ _ _ q n4
                subst this
                exact ⟨hi, hb, by rw [eF, pk_us]⟩
              · intro ⟨_, p2, p3⟩
                rw [eF, pk_us] at p3
                rw [← nI_j (by omega) (by omega) p3]; exact n4
            · exact (n3 x y (by omega)).trans (hpre x y (by omega)).symm)
          have := mcert (n := n) (Q := fun x => (x < i + 1 ∧ ¬ mh (xR n m (mvF F T i b)) x) ∨ ∃ Z, mcl (mfx (xfit cm n m) (xR n m (mvF F T i b)) (i + 1)) (xR n m (mvF F T i b)) Z ∧ Z x) hN hA2 (fun o c hq ha => by
            rcases hq with ⟨h1, h2⟩ | ⟨Z, h1, h2⟩
            · exact absurd ⟨c, ha.2.1 h1⟩ h2
            · obtain ⟨o', p1, p2⟩ := h1 o c h2 ha
              exact ⟨o', Or.inr ⟨Z, h1, p1⟩, p2⟩) (fun o ho hno => by
            by_cases h1 : o < i + 1
            · exact Or.inl ⟨h1, hno⟩
            · obtain ⟨Z, z1, z2, _⟩ := q2 o (by omega) (by omega) ((oM_mh hO1 ho).resolve_right hno)
              exact Or.inr ⟨Z, z1, z2⟩) (fun o c ha => ha.1.1)
          omega
      · have hr1 : (mvr cm P m n F T i b).1 = 1 := q1
        have e : mvt cm P m n F T i b = (1, (mvr cm P m n F T i b).2.1, (mvr cm P m n F T i b).2.2, upd P b 1) := by unfold mvt; rw [if_neg hno, if_pos hr1]
        have q5 : oM n m (mvr cm P m n F T i b).2.1 (mvr cm P m n F T i b).2.2 := q5
        have q6 : mS (mfx (xfit cm n m) (xR n m (mvF F T i b)) (i + 1)) (xR n m (mvF F T i b)) (xR n m (mvr cm P m n F T i b).2.1) j := q6
        rw [e]
        have hsame : ∀ x y, x < i + 1 → (xR n m (mvr cm P m n F T i b).2.1 x y ↔ xR n m (mvF F T i b) x y) := fun x y hx => by
          constructor
          · intro h; exact (q6.1.1 x y h).2.1 hx
          · intro h
            obtain ⟨y', h'⟩ := (q6.2.1 x).mpr (Or.inl ⟨y, h⟩)
            have := xR_un hm h ((q6.1.1 x y' h').2.1 hx)
            rw [this]; exact h'
        refine Or.inl ⟨rfl, q5, rfl, mt_fit q6.1, ?_, ?_, fun x y hx => (hsame x y (by omega)).trans (hpre x y hx)⟩
        · show mc (xR n m (mvr cm P m n F T i b).2.1) n = _
          rw [← hc1]
          exact mc_add (by omega) (xR_no hm q4) q6.2.1
        · exact ((hsame i b (Nat.lt_succ_self i)).mpr ⟨hi, hb, by rw [eF, pk_us]⟩).2.2
    · -- the order had none
      have hFn : F i = -1 := by
        rcases hO.1 i hi with q | ⟨y, p1, p2, _⟩
        · exact q
        · exact absurd (by rw [p2]; exact ix_nI (by omega) (by omega)) hFi
      have e : mvt cm P m n F T i b = (1, mvF F T i b, mvT F T i b, upd P b 1) := by unfold mvt; rw [if_pos (fun q => hFi q.1)]
      rw [e]
      refine Or.inl ⟨rfl, hO1, rfl, hA1, ?_, by show mvF F T i b i = _; rw [eF, pk_us], hpre⟩
      show mc (xR n m (mvF F T i b)) n = _
      rw [hcd, eF]
      exact mc_add hi (xR_no hm (by rw [pk_un (Ne.symm hli)]; exact hFn)) (mh_asg hi hb)
theorem pll_spec {cm : Nat → Int32} {n m i : Nat} (hn : n ≤ 8) (hm : m ≤ 100) (hi : i < n) : ∀ (k y : Nat) (F T P : Nat → Int32), y + k = m → XP cm n m i F T P → (∀ b', b' < y → ¬ mext (xfit cm n m) (xR n m F) n (mc (xR n m F) n) i b') → (∀ b, b < m → F i = nI b → y ≤ b) → XP cm n m (i + 1) (pll cm m n i k y F T P).1 (pll cm m n i k y F T P).2.1 (pll cm m n i k y F T P).2.2
  | 0, y, F, T, P, hk, hX, hf, hown => by
    obtain ⟨hO, hA, hMx, hPr, hCn⟩ := hX
    rw [pll]
    have hFn : F i = -1 := by
      rcases hO.1 i hi with q | ⟨b, p1, p2, _⟩
      · exact q
      · have := hown b p1 p2; omega
    refine ⟨hO, hA, hMx, fun y hy => (hPr y hy).trans (not_congr ⟨fun ⟨x, x1, x2, x3⟩ => ⟨x, by omega, x2, x3⟩, fun ⟨x, x1, x2, x3⟩ => ⟨x, ?_, x2, x3⟩⟩), fun o ho b' hb' hext => ?_⟩
    · by_cases e : x = i
      · rw [e] at x3
        have x3 : F i = nI y := x3
        rw [hFn] at x3
        exact absurd x3.symm (nI_m1 (by omega))
      · omega
    · by_cases e : o = i
      · subst e
        obtain ⟨N, n1, n2, n3, n4⟩ := hext
        have := (n1.1 _ _ n4).2.1
        exact hf b' (by omega) ⟨N, n1, n2, n3, n4⟩
      · exact hCn o (by omega) b' hb' hext
  | k + 1, y, F, T, P, hk, hX, hf, hown => by
    rw [pll]
    by_cases c1 : ¬ (cm y >>> (nI i &&& 31)) &&& 1 = 0 ∧ P y = 0
    · rw [if_pos c1]
      have hfit : xfit cm n m i y := ⟨hi, by omega, c1.1⟩
      by_cases c2 : F i = nI y
      · rw [if_pos c2]
        obtain ⟨hO, hA, hMx, hPr, hCn⟩ := hX
        refine ⟨hO, hA, hMx, fun y' hy' => ?_, fun o ho b' hb' hext => ?_⟩
        · show (upd P y 1) y' = 0 ↔ _
          by_cases e : y' = y
          · subst e
            rw [pk_us]
            exact ⟨fun q => absurd q (by decide), fun q => absurd ⟨i, Nat.lt_succ_self i, hi, c2⟩ q⟩
          · rw [pk_un e, hPr y' hy']
            refine not_congr ⟨fun ⟨x, x1, x2, x3⟩ => ⟨x, by omega, x2, x3⟩, fun ⟨x, x1, x2, x3⟩ => ⟨x, ?_, x2, x3⟩⟩
            by_cases e2 : x = i
            · have x3 : F x = nI y' := x3
              rw [e2, c2] at x3
              exact absurd (nI_j (by omega) (by omega) x3) (Ne.symm e)
            · omega
        · by_cases e : o = i
          · subst e
            exact hf b' (hb' y ⟨hi, by omega, c2⟩) hext
          · exact hCn o (by omega) b' hb' hext
      · rw [if_neg c2]
        rcases mvt_spec hn hm hX hi (show y < m by omega) hfit c1.2 c2 with ⟨q1, q2, q3, q4, q5, q6, q7⟩ | ⟨q1, q2, q3⟩
        · rw [if_pos q1]
          obtain ⟨hO, hA, hMx, hPr, hCn⟩ := hX
          refine ⟨q2, q4, fun N hN => by rw [q5]; exact hMx N hN, fun y' hy' => ?_, fun o ho b' hb' hext => ?_⟩
          · show (upd (mvt cm P m n F T i y).2.2.2 y 1) y' = 0 ↔ _
            rw [q3]
            by_cases e : y' = y
            · subst e
              rw [pk_us]
              exact ⟨fun q => absurd q (by decide), fun q => absurd ⟨i, Nat.lt_succ_self i, hi, q6⟩ q⟩
            · rw [pk_un e, pk_un e, hPr y' hy']
              refine not_congr ⟨fun ⟨x, x1, x2, x3⟩ => ⟨x, by omega, x2, ((q7 x y' x1).mpr ⟨x2, hy', x3⟩).2.2⟩, fun ⟨x, x1, x2, x3⟩ => ?_⟩
              by_cases e2 : x = i
              · have x3 : (mvt cm P m n F T i y).2.1 x = nI y' := x3
                rw [e2, q6] at x3
                exact absurd (nI_j (by omega) (by omega) x3) (Ne.symm e)
              · exact ⟨x, by omega, x2, ((q7 x y' (by omega)).mp ⟨x2, hy', x3⟩).2.2⟩
          · have hext : mext (xfit cm n m) (xR n m (mvt cm P m n F T i y).2.1) n (mc (xR n m (mvt cm P m n F T i y).2.1) n) o b' := hext
            rw [q5] at hext
            have hext' := mext_congr (G' := xR n m F) (fun x y' hx => q7 x y' (by omega)) hext
            by_cases e : o = i
            · subst e
              exact hf b' (hb' y ⟨hi, by omega, q6⟩) hext'
            · exact hCn o (by omega) b' (fun b hb => hb' b ((q7 o b (by omega)).mpr hb)) hext'
        · rw [if_neg (fun z => by rw [q1] at z; exact absurd z (by decide)), q2]
          refine pll_spec hn hm hi k (y + 1) F T P (by omega) hX (fun b' hb' => ?_) (fun b hb hFb => ?_)
          · by_cases e : b' = y
            · subst e; exact q3
            · exact hf b' (by omega)
          · have := hown b hb hFb
            by_cases e : b = y
            · subst e; exact absurd hFb c2
            · omega
    · rw [if_neg c1]
      refine pll_spec hn hm hi k (y + 1) F T P (by omega) hX (fun b' hb' hext => ?_) (fun b hb hFb => ?_)
      · by_cases e : b' = y
        · subst e
          obtain ⟨N, n1, n2, n3, n4⟩ := hext
          have hfy := n1.1 _ _ n4
          have hp : ¬ P b' = 0 := fun z => c1 ⟨hfy.2.2, z⟩
          refine hp ((hX.2.2.2.1 b' hfy.2.1).mpr fun ⟨x, x1, x2, x3⟩ => ?_)
          have := n1.2.2 x i b' ((n3 x b' x1).mpr ⟨x2, hfy.2.1, x3⟩) n4
          omega
        · exact hf b' (by omega) hext
      · have := hown b hb hFb
        by_cases e : b = y
        · subst e
          have hfy := hX.2.1.1 i b ⟨hi, hb, hFb⟩
          refine absurd ⟨hfy.2.2, (hX.2.2.2.1 b hb).mpr fun ⟨x, x1, x2, x3⟩ => ?_⟩ c1
          have := hX.2.1.2.2 x i b ⟨x2, hb, x3⟩ ⟨hi, hb, hFb⟩
          omega
        · omega
theorem ph1_spec {cm P : Nat → Int32} {n m : Nat} (hn : n ≤ 8) (hm : m ≤ 100) (hP : ∀ y, y < m → P y = 0) : ∀ k, k ≤ n → oM n m (ph1 cm P m (fun _ => -1) (fun _ => -1) k).1 (ph1 cm P m (fun _ => -1) (fun _ => -1) k).2 ∧ mI (xfit cm n m) (xR n m (ph1 cm P m (fun _ => -1) (fun _ => -1) k).1) k
  | 0, _ => by
    have h0 : ∀ x, ¬ mh (xR n m (fun _ => -1)) x := fun x => xR_no hm rfl
    refine ⟨⟨fun _ _ => Or.inl rfl, fun _ _ => Or.inl rfl⟩, ⟨fun o b h => absurd ⟨b, h⟩ (h0 o), fun o b b' h => absurd ⟨b, h⟩ (h0 o), fun o o' b h => absurd ⟨b, h⟩ (h0 o)⟩, fun x hx => absurd hx (h0 x), fun _ => False, fun o b q => q.elim, fun x q => q.elim, fun x hx => by omega⟩
  | k + 1, hk => by
    obtain ⟨h1, h2⟩ := ph1_spec (cm := cm) hn hm hP k (by omega)
    rw [ph1]
    have hF : (ph1 cm P m (fun _ => -1) (fun _ => -1) k).1 k = -1 := (oM_mh h1 (show k < n by omega)).resolve_right fun q => by
      have := h2.2.1 k q; omega
    have hadj : ∀ x y, 0 ≤ x → (xfit cm n m x y ↔ xadj cm P n m x y) := fun x y _ => ⟨fun q => ⟨q.1, q.2.1, q.2.2, hP y q.2.1⟩, fun q => ⟨q.1, q.2.1, q.2.2.1⟩⟩
    rcases fb_spec hn hm h1 h2.1 hadj (fun x y hx => by omega) (show k < n by omega) (Nat.zero_le k) hF with ⟨q1, q2⟩ | ⟨q1, q2, q3⟩
    · have e := ((fbr_01 cm P m _ _ (nI k)).resolve_right (fun z => by rw [q1] at z; exact absurd z (by decide))).2
      rw [e]
      exact ⟨h1, mI_fail h2 q2⟩
    · exact ⟨q2, mI_found h2 q3⟩
theorem ph2_spec {cm : Nat → Int32} {n m : Nat} {F T P : Nat → Int32} (hn : n ≤ 8) (hm : m ≤ 100) (hX : XP cm n m 0 F T P) : ∀ k, k ≤ n → XP cm n m k (ph2 cm m n F T P k).1 (ph2 cm m n F T P k).2.1 (ph2 cm m n F T P k).2.2
  | 0, _ => hX
  | k + 1, hk => pll_spec hn hm (show k < n by omega) m 0 _ _ _ (by omega) (ph2_spec hn hm hX k (by omega)) (fun b' hb' => by omega) (fun b _ _ => Nat.zero_le b)
/-- the class' way is the way of MET -/
theorem mtc_can {cm P : Nat → Int32} {n m : Nat} (hn : n ≤ 8) (hm : m ≤ 100) : oM n m (mtc cm P m n).1 (mtc cm P m n).2.1 ∧ mcan (xfit cm n m) (xR n m (mtc cm P m n).1) n := by
  have hP : ∀ y, y < m → (mtP m P m) y = 0 := fun y hy => if_pos hy
  obtain ⟨h1, h2⟩ := ph1_spec (cm := cm) hn hm hP n (Nat.le_refl n)
  have hX : XP cm n m 0 (ph1 cm (mtP m P m) m (fun _ => -1) (fun _ => -1) n).1 (ph1 cm (mtP m P m) m (fun _ => -1) (fun _ => -1) n).2 (mtP m P m) := ⟨h1, h2.1, fun N hN => mI_max h2 (fun o b q => q.1) hN, fun y hy => ⟨fun _ ⟨x, q, _⟩ => by omega, fun _ => hP y hy⟩, fun o ho => by omega⟩
  have h3 := ph2_spec hn hm hX n (Nat.le_refl n)
  exact ⟨h3.1, h3.2.1, h3.2.2.1, h3.2.2.2.2⟩
