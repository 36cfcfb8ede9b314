/-! matchings: counting, the certificate, searches one after the other, the first way of all -/
theorem o_cnt_congr {P P' : Nat → Bool} : ∀ {n}, (∀ i, i < n → P i = P' i) → o_cnt P n = o_cnt P' n
  | 0, _ => rfl
  | n + 1, h => by
    rw [o_cnt, o_cnt, o_cnt_congr (n := n) (fun i hi => h i (by omega)), h n (by omega)]
theorem o_cnt_rm {P : Nat → Bool} {x : Nat} (hx : P x = true) : ∀ {n}, x < n → o_cnt P n = o_cnt (fun i => P i && !(Nat.beq i x)) n + 1
  | n + 1, h => by
    rw [o_cnt, o_cnt]
    by_cases e : x = n
    · subst e
      have e2 : o_cnt (fun i => P i && !(Nat.beq i x)) x = o_cnt P x := o_cnt_congr (fun i hi => by
        have : Nat.beq i x = false := by rw [z_beq]; simpa using (show i ≠ x by omega)
        simp [this])
      have e3 : Nat.beq x x = true := by rw [z_beq]; simp
      rw [e2, if_pos hx]
      simp [e3]
    · have ih := o_cnt_rm hx (n := n) (by omega)
      have e3 : Nat.beq n x = false := by rw [z_beq]; simpa using (show n ≠ x by omega)
      rw [ih]
      simp only [e3, Bool.not_false, Bool.and_true]
      omega
theorem o_ph (φ : Nat → Nat) (P : Nat → Bool) (n : Nat) : ∀ (k : Nat) (R : Nat → Bool), (∀ o, o < k → P o = true → φ o < n ∧ R (φ o) = true) → (∀ o o', o < k → o' < k → P o = true → P o' = true → φ o = φ o' → o = o') → o_cnt P k ≤ o_cnt R n
  | 0, R, _, _ => Nat.zero_le _
  | k + 1, R, hm, hi => by
    rw [o_cnt]
    by_cases hp : P k = true
    · have h1 := hm k (by omega) hp
      rw [if_pos hp, o_cnt_rm h1.2 h1.1]
      have := o_ph φ P n k (fun i => R i && !(Nat.beq i (φ k))) (fun o ho hpo => by
        have h2 := hm o (by omega) hpo
        refine ⟨h2.1, ?_⟩
        have e3 : Nat.beq (φ o) (φ k) = false := by
          rw [z_beq]
          simp only [decide_eq_false_iff_not]
          intro e
          have := hi o k (by omega) (by omega) hpo hp e
          omega
        simp [h2.2, e3]) (fun o o' ho ho' => hi o o' (by omega) (by omega))
      omega
    · rw [if_neg hp]
      exact o_ph φ P n k R (fun o ho => hm o (by omega)) (fun o o' ho ho' => hi o o' (by omega) (by omega))
noncomputable def mbo (p : Prop) : Bool := @decide p (Classical.propDecidable p)
theorem mbo_t {p : Prop} : mbo p = true ↔ p := by
  unfold mbo
  exact @decide_eq_true_iff p (Classical.propDecidable p)
theorem mbo_congr {p q : Prop} (h : p ↔ q) : mbo p = mbo q := by rw [propext h]
abbrev mR : Type := Nat → Nat → Prop
/-- a matching of what may be met -/
def mt (adj R : mR) : Prop := (∀ o b, R o b → adj o b) ∧ (∀ o b b', R o b → R o b' → b = b') ∧ ∀ o o' b, R o b → R o' b → o = o'
def mh (R : mR) (o : Nat) : Prop := ∃ b, R o b
def mcl (adj R : mR) (Q : Nat → Prop) : Prop := ∀ o b, Q o → adj o b → ∃ o', Q o' ∧ R o' b
noncomputable def mc (R : mR) (n : Nat) : Nat := o_cnt (fun o => mbo (mh R o)) n
theorem mc_congr {R R' : mR} {n : Nat} (h : ∀ o, o < n → (mh R o ↔ mh R' o)) : mc R n = mc R' n := o_cnt_congr fun i hi => mbo_congr (h i hi)
theorem mc_add {R R' : mR} {n o : Nat} (ho : o < n) (hn : ¬ mh R o) (h : ∀ x, mh R' x ↔ mh R x ∨ x = o) : mc R' n = mc R n + 1 := by
  unfold mc
  rw [o_cnt_rm (mbo_t.mpr ((h o).mpr (Or.inr rfl))) ho]
  refine congrArg (· + 1) (o_cnt_congr fun i hi => ?_)
  by_cases e : i = o
  · subst e
    have e3 : Nat.beq i i = true := by rw [z_beq]; simp
    have e4 : mbo (mh R i) = false := by
      cases q : mbo (mh R i) with
      | false => rfl
      | true => exact absurd (mbo_t.mp q) hn
    rw [e3, e4]; simp
  · have e3 : Nat.beq i o = false := by rw [z_beq]; simpa using e
    rw [e3, mbo_congr (h i)]
    simp only [Bool.not_false, Bool.and_true]
    exact mbo_congr ⟨fun q => q.resolve_right e, Or.inl⟩
/-- who can't be reached from outside: no matching covers more -/
theorem mcert {adj N M : mR} {Q : Nat → Prop} {n : Nat} (hN : mt adj N) (hM : mt adj M) (hQ : mcl adj M Q) (hu : ∀ o, o < n → ¬ mh M o → Q o) (ha : ∀ o b, adj o b → o < n) : mc N n ≤ mc M n := by
  have hex : ∀ o, ∃ o', Q o ∧ mh N o → Q o' ∧ ∃ b, N o b ∧ M o' b := fun o => by
    by_cases h : Q o ∧ mh N o
    · obtain ⟨h1, b, h2⟩ := h
      obtain ⟨o', h3, h4⟩ := hQ o b h1 (hN.1 o b h2)
      exact ⟨o', fun _ => ⟨h3, b, h2, h4⟩⟩
    · exact ⟨0, fun q => absurd q h⟩
  let ψ : Nat → Nat := fun o => Classical.choose (hex o)
  have hψ : ∀ o, Q o ∧ mh N o → Q (ψ o) ∧ ∃ b, N o b ∧ M (ψ o) b := fun o => Classical.choose_spec (hex o)
  let φ : Nat → Nat := fun o => @ite _ (Q o) (Classical.propDecidable _) (ψ o) o
  have hφ1 : ∀ o, Q o → φ o = ψ o := fun o h => @if_pos _ (Classical.propDecidable _) h _ _ _
  have hφ2 : ∀ o, ¬ Q o → φ o = o := fun o h => @if_neg _ (Classical.propDecidable _) h _ _ _
  refine o_ph φ _ n n _ (fun o ho hp => ?_) (fun o o' ho ho' hp hp' e => ?_)
  · have hp := mbo_t.mp hp
    by_cases hq : Q o
    · obtain ⟨h1, b, h2, h3⟩ := hψ o ⟨hq, hp⟩
      rw [hφ1 o hq]
      exact ⟨ha _ _ (hM.1 _ _ h3), mbo_t.mpr ⟨b, h3⟩⟩
    · rw [hφ2 o hq]
      refine ⟨ho, mbo_t.mpr ?_⟩
      by_cases hm : mh M o
      · exact hm
      · exact absurd (hu o ho hm) hq
  · have hp := mbo_t.mp hp
    have hp' := mbo_t.mp hp'
    by_cases hq : Q o
    · obtain ⟨h1, b, h2, h3⟩ := hψ o ⟨hq, hp⟩
      rw [hφ1 o hq] at e
      by_cases hq' : Q o'
      · obtain ⟨h1', b', h2', h3'⟩ := hψ o' ⟨hq', hp'⟩
        rw [hφ1 o' hq'] at e
        rw [e] at h3
        have hb := hM.2.1 _ _ _ h3 h3'
        rw [hb] at h2
        exact hN.2.2 _ _ _ h2 h2'
      · rw [hφ2 o' hq'] at e
        rw [e] at h1
        exact absurd h1 hq'
    · rw [hφ2 o hq] at e
      by_cases hq' : Q o'
      · obtain ⟨h1', b', h2', h3'⟩ := hψ o' ⟨hq', hp'⟩
        rw [hφ1 o' hq'] at e
        rw [← e] at h1'
        exact absurd h1' hq
      · rw [hφ2 o' hq'] at e
        exact e
/-- what a search from o does: it finds, or it fails -/
def mS (adj R R' : mR) (o : Nat) : Prop := mt adj R' ∧ (∀ x, mh R' x ↔ mh R x ∨ x = o) ∧ ∀ Q, mcl adj R Q → ¬ Q o ∧ ∀ x b, Q x → (R' x b ↔ R x b)
def mF (adj R : mR) (o : Nat) : Prop := ∃ Q, mcl adj R Q ∧ Q o ∧ ∀ x, Q x → x = o ∨ mh R x
/-- the orders below o have been searched for -/
def mI (adj R : mR) (o : Nat) : Prop := mt adj R ∧ (∀ x, mh R x → x < o) ∧ ∃ Q, mcl adj R Q ∧ (∀ x, Q x → x < o) ∧ ∀ x, x < o → ¬ mh R x → Q x
theorem mI_found {adj R R' : mR} {o : Nat} (h : mI adj R o) (hs : mS adj R R' o) : mI adj R' (o + 1) := by
  obtain ⟨h1, h2, Q, h3, h4, h5⟩ := h
  obtain ⟨s1, s2, s3⟩ := hs
  obtain ⟨s4, s5⟩ := s3 Q h3
  refine ⟨s1, fun x hx => ?_, Q, fun x b hq ha => ?_, fun x hx => by have := h4 x hx; omega, fun x hx hn => ?_⟩
  · rcases (s2 x).mp hx with q | q
    · have := h2 x q; omega
    · omega
  · obtain ⟨o', q1, q2⟩ := h3 x b hq ha
    exact ⟨o', q1, (s5 o' b q1).mpr q2⟩
  · by_cases e : x = o
    · exact absurd ((s2 x).mpr (Or.inr e)) hn
    · exact h5 x (by omega) (fun q => hn ((s2 x).mpr (Or.inl q)))
theorem mI_fail {adj R : mR} {o : Nat} (h : mI adj R o) (hf : mF adj R o) : mI adj R (o + 1) := by
  obtain ⟨h1, h2, Q, h3, h4, h5⟩ := h
  obtain ⟨Q', f1, f2, f3⟩ := hf
  refine ⟨h1, fun x hx => by have := h2 x hx; omega, fun x => Q x ∨ Q' x, fun x b hq ha => ?_, fun x hx => ?_, fun x hx hn => ?_⟩
  · rcases hq with hq | hq
    · obtain ⟨o', q1, q2⟩ := h3 x b hq ha
      exact ⟨o', Or.inl q1, q2⟩
    · obtain ⟨o', q1, q2⟩ := f1 x b hq ha
      exact ⟨o', Or.inr q1, q2⟩
  · rcases hx with hx | hx
    · have := h4 x hx; omega
    · rcases f3 x hx with q | q
      · omega
      · have := h2 x q; omega
  · by_cases e : x = o
    · subst e; exact Or.inr f2
    · exact Or.inl (h5 x (by omega) hn)
theorem mI_max {adj R N : mR} {n : Nat} (h : mI adj R n) (ha : ∀ o b, adj o b → o < n) (hN : mt adj N) : mc N n ≤ mc R n := by
  obtain ⟨h1, h2, Q, h3, h4, h5⟩ := h
  exact mcert hN h1 h3 h5 ha
/-- what goes on from a beginning G of s orders -/
def mfx (fit G : mR) (s : Nat) : mR := fun x y => fit x y ∧ (x < s → G x y) ∧ (s ≤ x → ∀ z, z < s → ¬ G z y)
def mpre (G : mR) (s : Nat) : mR := fun x y => x < s ∧ G x y
theorem mI_init {fit G : mR} {s : Nat} (hG : mt fit (mpre G s)) : mI (mfx fit G s) (mpre G s) s := by
  refine ⟨⟨fun o b h => ⟨hG.1 o b h, fun _ => h.2, fun q => by have := h.1; omega⟩, hG.2.1, hG.2.2⟩, fun x hx => hx.elim fun b q => q.1, fun x => x < s ∧ ¬ mh (mpre G s) x, fun o b hq ha => ?_, fun x hx => hx.1, fun x hx hn => ⟨hx, hn⟩⟩
  exact absurd ⟨b, hq.1, ha.2.1 hq.1⟩ hq.2
theorem mfx_0 {fit G : mR} : mfx fit G 0 = fit := by
  funext x y
  exact propext ⟨fun q => q.1, fun q => ⟨q, fun h => by omega, fun _ z h => by omega⟩⟩
theorem mt_fit {fit G R : mR} {s : Nat} (h : mt (mfx fit G s) R) : mt fit R := ⟨fun o b q => (h.1 o b q).1, h.2.1, h.2.2⟩
theorem mt_ext {fit G N : mR} {s : Nat} (h : mt fit N) (he : ∀ x y, x < s → (N x y ↔ G x y)) : mt (mfx fit G s) N := by
  refine ⟨fun o b q => ⟨h.1 o b q, fun ho => (he o b ho).mp q, fun ho z hz hg => ?_⟩, h.2.1, h.2.2⟩
  have := h.2.2 o z b q ((he z b hz).mpr hg)
  omega
/-- a beginning can go on to a way that meets k -/
def mext (fit G : mR) (n k o b : Nat) : Prop := ∃ N, mt fit N ∧ mc N n = k ∧ (∀ x y, x < o → (N x y ↔ G x y)) ∧ N o b
theorem mext_congr {fit G G' : mR} {n k o b : Nat} (h : ∀ x y, x < o → (G x y ↔ G' x y)) (he : mext fit G n k o b) : mext fit G' n k o b := by
  obtain ⟨N, h1, h2, h3, h4⟩ := he
  exact ⟨N, h1, h2, fun x y hx => (h3 x y hx).trans (h x y hx), h4⟩
/-- the way of MET -/
def mcan (fit M : mR) (n : Nat) : Prop := mt fit M ∧ (∀ N, mt fit N → mc N n ≤ mc M n) ∧ ∀ o, o < n → ∀ b', (∀ b, M o b → b' < b) → ¬ mext fit M n (mc M n) o b'
theorem mcan_k {fit M M' : mR} {n : Nat} (h : mcan fit M n) (h' : mcan fit M' n) : mc M n = mc M' n := Nat.le_antisymm (h'.2.1 M h.1) (h.2.1 M' h'.1)
theorem mcan_1 {fit M M' : mR} {n : Nat} (h : mcan fit M n) (h' : mcan fit M' n) {o : Nat} (ho : o < n) (ih : ∀ x y, x < o → (M x y ↔ M' x y)) {b : Nat} (hb : M o b) : ∃ b1, M' o b1 ∧ b1 ≤ b := by
  have hk := mcan_k h h'
  by_cases q : ∃ b1, M' o b1 ∧ b1 ≤ b
  · exact q
  · exact absurd ⟨M, h.1, hk, fun x y hx => ih x y hx, hb⟩ (h'.2.2 o ho b (fun b1 hb1 => by
      by_cases q2 : b < b1
      · exact q2
      · exact absurd ⟨b1, hb1, by omega⟩ q))
theorem mcan_uq {fit M M' : mR} {n : Nat} (h : mcan fit M n) (h' : mcan fit M' n) : ∀ o, o < n → ∀ b, M o b ↔ M' o b := by
  intro o
  induction o using Nat.strongRecOn with
  | ind o ih =>
    intro ho
    have ih' : ∀ x y, x < o → (M x y ↔ M' x y) := fun x y hx => ih x hx (by omega) y
    have ih'' : ∀ x y, x < o → (M' x y ↔ M x y) := fun x y hx => (ih' x y hx).symm
    intro b
    constructor
    · intro hb
      obtain ⟨b1, h1, h2⟩ := mcan_1 h h' ho ih' hb
      obtain ⟨b2, h3, h4⟩ := mcan_1 h' h ho ih'' h1
      have := h.1.2.1 o b b2 hb h3
      have : b = b1 := by omega
      rw [this]; exact h1
    · intro hb
      obtain ⟨b1, h1, h2⟩ := mcan_1 h' h ho ih'' hb
      obtain ⟨b2, h3, h4⟩ := mcan_1 h h' ho ih' h1
      have := h'.1.2.1 o b b2 hb h3
      have : b = b1 := by omega
      rw [this]; exact h1
