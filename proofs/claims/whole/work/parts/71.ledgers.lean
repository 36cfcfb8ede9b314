/-! claims and ledgers, side by side -/
theorem i_f_cg {bo ho pa fr bo' ho' pa' fr' : Nat → Int32} {b h y : Int32} : ∀ {n}, (∀ i, i < n → bo' i = bo i ∧ ho' i = ho i ∧ pa' i = pa i ∧ fr' i = fr i) → i_f bo' ho' pa' fr' b h y n = i_f bo ho pa fr b h y n
  | 0, _ => rfl
  | n + 1, hc => by
    obtain ⟨h1, h2, h3, h4⟩ := hc n (by omega)
    rw [i_f, i_f, h1, h2, h3, h4, i_f_cg (n := n) (fun i hi => hc i (by omega))]
theorem i_f_100 {bo ho pa fr : Nat → Int32} {b h y : Int32} : ∀ {n}, (∀ i, i < n → ∃ p, p ≤ 100 ∧ pa i = nI p) → ∃ p, p ≤ 100 ∧ (i_f bo ho pa fr b h y n).2 = nI p
  | 0, _ => ⟨0, by omega, rfl⟩
  | n + 1, hc => by
    rw [i_f]
    split
    · exact hc n (by omega)
    · exact i_f_100 (n := n) (fun i hi => hc i (by omega))
theorem p_sm_tail {f : Nat → Nat} {a : Nat} (h : ∀ k, a ≤ k → f k = 0) : ∀ n, a ≤ n → p_sm f n = p_sm f a
  | 0, h2 => by obtain rfl : a = 0 := by omega
                rfl
  | n + 1, h2 => by
    by_cases e : a = n + 1
    · rw [e]
    · rw [p_sm, h n (by omega), p_sm_tail h n (by omega)]; rfl
theorem p_sm_100 {oo pf : Nat → Nat} (hp : ∀ k, pf k ≤ 100) : ∀ n, p_sm (fun k => oo k * pf k) n ≤ 100 * p_sm oo n
  | 0 => Nat.le_refl _
  | n + 1 => by
    have h1 := p_sm_100 (oo := oo) hp n
    have h2 : oo n * pf n ≤ oo n * 100 := Nat.mul_le_mul_left _ (hp n)
    rw [p_sm, p_sm]
    omega
/-- the claims on a bar, as numbers -/
theorem claims {nb na nr bi : Nat} {c d : r_c} {y : Int32} (hnb : nb ≤ 12) (hA : cpA nb na c d) (hP : cpP nr c d) (hb : bi < na) : ∃ m : Nat → Nat, (∀ h, m h < 2 ^ 31) ∧ (∀ h, s_cl c bi nr y h = nI (m h)) ∧ ∀ h, ms_l d bi nr y h nb = lN (m h) := by
  obtain ⟨a1, a2, a3, oo, o1, o2, o3⟩ := hA.2.1 bi hb
  have hi : ∀ h k, ∃ p, p ≤ 100 ∧ (i_f (c (22, 0)) (c (23, 0)) (c (24, 0)) (c (25, 0)) (nI k) (nI h) y nr).2 = nI p := fun h k => i_f_100 (fun i hi => (hP.2.2.2 i hi).2)
  obtain ⟨pf, hpf⟩ : ∃ pf : Nat → Nat → Nat, ∀ h k, pf h k ≤ 100 ∧ (i_f (c (22, 0)) (c (23, 0)) (c (24, 0)) (c (25, 0)) (nI k) (nI h) y nr).2 = nI (pf h k) := ⟨fun h k => Classical.choose (hi h k), fun h k => Classical.choose_spec (hi h k)⟩
  have hm : ∀ h, p_sm (fun k => oo k * pf h k) 12 ≤ 100 * p_sm oo 12 := fun h => p_sm_100 (fun k => (hpf h k).1) 12
  refine ⟨fun h => p_sm (fun k => oo k * pf h k) 12, fun h => by have := hm h; show p_sm _ 12 < _; omega, fun h => ?_, fun h => ?_⟩
  · exact z_sum_nI (fun k hk => by rw [o1 k hk, (hpf h k).2, nI_mul])
  · show _ = lN (p_sm _ 12)
    rw [p_sm_tail (f := fun k => oo k * pf h k) (a := nb) (fun k hk => by show oo k * _ = 0; rw [o3 k hk]; exact Nat.zero_mul _) 12 hnb]
    have go : ∀ n, n ≤ nb → ms_l d bi nr y h n = lN (p_sm (fun k => oo k * pf h k) n) := by
      intro n
      induction n with
      | zero => intro _; rfl
      | succ n ih =>
        intro hn
        have hoo := p_sm_one (f := oo) (show n < 12 by omega)
        have hp := hpf h n
        rw [ms_l, ih (by omega), a1 n (by omega), o1 n (by omega), i_f_cg (fun i hi => (hP.2.2.2 i hi).1), hp.2, nI_l (by omega), nI_l (by omega), lN_mul, lN_add]
        rfl
    exact go nb (Nat.le_refl _)
theorem cn_cg {D D' : Nat → Int32} : ∀ {n}, (∀ h, h < n → D' h = D h) → cn D' n = cn D n
  | 0, _ => rfl
  | n + 1, h => by rw [cn, cn, cn_cg (n := n) (fun i hi => h i (by omega)), h n (by omega)]
theorem cn_sj {D : Nat → Int32} : ∀ {n i}, i < cn D n → ∃ j, j < n ∧ D j ≠ 0 ∧ cn D j = i
  | 0, i, h => absurd h (Nat.not_lt_zero i)
  | n + 1, i, h => by
    by_cases hd : D n = 0
    · rw [cn, if_pos hd] at h
      obtain ⟨j, j1, j2⟩ := cn_sj (D := D) (n := n) h
      exact ⟨j, by omega, j2⟩
    · rw [cn, if_neg hd] at h
      by_cases e : i = cn D n
      · exact ⟨n, by omega, hd, e.symm⟩
      · obtain ⟨j, j1, j2⟩ := cn_sj (D := D) (n := n) (i := i) (by omega)
        exact ⟨j, by omega, j2⟩
theorem led_join {c d c1 d1 : r_c} {nl p gX gM g1 gm t : Nat} {D DM : Nat → Int32} {now nowM : Int32}
    (hl : ∀ k, k < nl → d (160, gM) k = c (30, gX) k ∧ d (161, gM) k = c (31, gX) k ∧ d (162, gM) k = c (32, gX) k ∧ d (163, gM) k = c (33, gX) k) (hh : ∀ h, h < 8 → d (159, 0) h = c (34, 0) h)
    (hD : ∀ h, h < 8 → DM h = D h) (hnow : nowM = now) (hX : LN c gX nl p D now 8 c1 g1) (hM : MLN d gM nl p DM nowM 8 d1 gm) (b1 : nl ≤ 64 * 2 ^ gX) (b2 : nl ≤ 256 * 2 ^ gM) (b3 : nl ≤ 8 * t) (ht : t ≤ 511) (b4 : gX ≤ 6) (b5 : gM ≤ 4) :
    (nl + cn D 8 ≤ 64 * 2 ^ g1 ∧ nl + cn D 8 ≤ 256 * 2 ^ gm ∧ nl + cn D 8 ≤ 8 * (t + 1) ∧ gm ≤ 4 ∧ g1 ≤ 6) ∧ c1 (29, 0) 5 = nI (nl + cn D 8) ∧ d1 (100, 0) 4 = nI (nl + cn D 8) ∧
    (∀ k, k < nl + cn D 8 → d1 (160, gm) k = c1 (30, g1) k ∧ d1 (161, gm) k = c1 (31, g1) k ∧ d1 (162, gm) k = c1 (32, g1) k ∧ d1 (163, gm) k = c1 (33, g1) k) ∧ ∀ h, h < 8 → d1 (159, 0) h = c1 (34, 0) h := by
  have ec : cn DM 8 = cn D 8 := cn_cg hD
  have hc8 := cn_le D 8
  obtain ⟨x1, x2, x3, x4, x5⟩ := hX
  obtain ⟨y1, y2, y3, y4, y5⟩ := hM
  rw [ec] at y1 y5
  have px : 0 < 2 ^ gX := Nat.pow_pos (by omega)
  have pm : 0 < 2 ^ gM := Nat.pow_pos (by omega)
  have q6 : 64 * 2 ^ gX < nl + cn D 8 → gX < 6 := fun q => by
    rcases Nat.lt_or_ge gX 6 with z | z
    · exact z
    · have h5 : 2 ^ 6 ≤ 2 ^ gX := Nat.pow_le_pow_right (by omega) z
      omega
  have q4 : 256 * 2 ^ gM < nl + cn D 8 → gM < 4 := fun q => by
    rcases Nat.lt_or_ge gM 4 with z | z
    · exact z
    · have h5 : 2 ^ 4 ≤ 2 ^ gM := Nat.pow_le_pow_right (by omega) z
      omega
  refine ⟨⟨?_, ?_, by omega, ?_, ?_⟩, x5, y5, fun k hk => ?_, fun h hb => ?_⟩
  · rcases x1 with ⟨e, q⟩ | ⟨e, q⟩
    · rw [e]; exact q
    · rw [e, Nat.pow_succ]; omega
  · rcases y1 with ⟨e, q⟩ | ⟨e, q⟩
    · rw [e]; exact q
    · rw [e, Nat.pow_succ]; omega
  · rcases y1 with ⟨e, q⟩ | ⟨e, q⟩
    · omega
    · have := q4 q; omega
  · rcases x1 with ⟨e, q⟩ | ⟨e, q⟩
    · omega
    · have := q6 q; omega
  · by_cases e : k < nl
    · obtain ⟨a1, a2, a3, a4⟩ := x2 k e
      obtain ⟨b1, b2, b3, b4⟩ := y2 k e
      rw [a1, a2, a3, a4, b1, b2, b3, b4]
      exact hl k e
    · obtain ⟨j, j1, j2, j3⟩ := cn_sj (D := D) (n := 8) (i := k - nl) (by omega)
      obtain ⟨a1, a2, a3, a4⟩ := x3 j j1 j2
      obtain ⟨b1, b2, b3, b4⟩ := y3 j j1 (by rw [hD j j1]; exact j2)
      rw [cn_cg (n := j) (fun h hb => hD h (by omega))] at b1 b2 b3 b4
      have ek : nl + cn D j = k := by omega
      rw [ek] at a1 a2 a3 a4 b1 b2 b3 b4
      rw [a1, a2, a3, a4, b1, b2, b3, b4, hnow, hD j j1]
      exact ⟨rfl, rfl, rfl, rfl⟩
  · rw [x4 h, y4 h, if_pos hb, if_pos hb, hh h hb, hD h hb]
