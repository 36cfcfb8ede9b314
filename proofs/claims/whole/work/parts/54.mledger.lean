/-! the reference's ledger: longer rows, lines -/
theorem tm_g {g : Nat} {q : z_T} (h0 : q ≠ (100, 0)) (h1 : q ≠ (160, g + 1)) (h2 : q ≠ (161, g + 1)) (h3 : q ≠ (162, g + 1)) (h4 : q ≠ (163, g + 1)) : TM (g + 1) q = TM g q := by
  obtain ⟨k, i⟩ := q
  by_cases e : k = 100
  · subst e
    have hi : i ≠ 0 := fun z => h0 (by rw [z])
    have hb : Nat.beq i 0 = false := by rw [z_beq]; simpa using hi
    show (bif Nat.beq i 0 then _ else _) = (bif Nat.beq i 0 then _ else _)
    rw [hb]; rfl
  · by_cases e2 : 160 ≤ k ∧ k ≤ 163
    · have hi : i ≠ g + 1 := fun z => by
        subst z
        rcases (show k = 160 ∨ k = 161 ∨ k = 162 ∨ k = 163 by omega) with rfl | rfl | rfl | rfl
        · exact h1 rfl
        · exact h2 rfl
        · exact h3 rfl
        · exact h4 rfl
      have hb : Nat.ble i (g + 1) = Nat.ble i g := by
        by_cases hl : i ≤ g
        · rw [Nat.ble_eq_true_of_le hl, Nat.ble_eq_true_of_le (show i ≤ g + 1 by omega)]
        · rw [ble_false (show g < i by omega), ble_false (show g + 1 < i by omega)]
      rcases (show k = 160 ∨ k = 161 ∨ k = 162 ∨ k = 163 by omega) with rfl | rfl | rfl | rfl <;>
      · show (bif Nat.ble i (g + 1) then _ else _) = (bif Nat.ble i g then _ else _)
        rw [hb]
    · have b100 : Nat.beq k 100 = false := by rw [z_beq]; simpa using e
      have b160 : (Nat.ble 160 k && Nat.ble k 163) = false := by
        by_cases hk : 160 ≤ k
        · rw [ble_false (show 163 < k by omega)]; simp
        · rw [ble_false (show k < 160 by omega)]; rfl
      unfold TM
      simp only [b100, b160]
      rfl
theorem tm_free {g k : Nat} (hk : 160 ≤ k ∧ k ≤ 163) : TM g (k, g + 1) = none := by
  rcases (show k = 160 ∨ k = 161 ∨ k = 162 ∨ k = 163 by omega) with rfl | rfl | rfl | rfl <;>
  · show (bif Nat.ble (g + 1) g then _ else _) = _
    rw [ble_false (by omega)]
    rfl
def mlg_c (c : r_c) (g : Nat) : r_c := r_cf (r_cf (r_cf (r_cf c (160, g + 1) (lg_e (256 * 2 ^ g) (c (160, g)))) (161, g + 1) (lg_e (256 * 2 ^ g) (c (161, g)))) (162, g + 1) (lg_e (256 * 2 ^ g) (c (162, g)))) (163, g + 1) (lg_e (256 * 2 ^ g) (c (163, g)))
theorem mlg_new {g : Nat} {w0 w W : z_w} {c : r_c} {l : r_l} {r : r_r} (hR : r_p dM (TM g) w0 c l r w) (n : Nat) (hn : n = 256 * 2 ^ (g + 1))
    (a100 : W (100, 0) = some (z_ob 12 (r_row (c (100, 0)) 0 (MO (g + 1))))) (a160 : W (160, g + 1) = some (z_ia n (lg_e (256 * 2 ^ g) (c (160, g))))) (a161 : W (161, g + 1) = some (z_ia n (lg_e (256 * 2 ^ g) (c (161, g))))) (a162 : W (162, g + 1) = some (z_ia n (lg_e (256 * 2 ^ g) (c (162, g))))) (a163 : W (163, g + 1) = some (z_ia n (lg_e (256 * 2 ^ g) (c (163, g)))))
    (hf : z_fr [(100, 0), (160, g + 1), (161, g + 1), (162, g + 1), (163, g + 1)] w W) : r_p dM (TM (g + 1)) w0 (mlg_c c g) l r W := by
  subst hn
  refine ⟨fun q hq => ?_, fun q hq => ?_⟩
  · by_cases e0 : q = (100, 0)
    · subst e0
      rw [a100]
      show _ = some (z_ob 12 (r_row (mlg_c c g (100, 0)) 0 (MO (g + 1))))
      unfold mlg_c
      rw [r_cf_ne (by simp), r_cf_ne (by simp), r_cf_ne (by simp), r_cf_ne (by simp)]
    · by_cases e1 : q = (160, g + 1)
      · subst e1; rw [a160, tm_160 (Nat.le_refl _)]
        show some (z_ia _ _) = some (z_ia _ (mlg_c c g (160, g + 1)))
        unfold mlg_c
        rw [r_cf_ne (by simp), r_cf_ne (by simp), r_cf_ne (by simp), r_cf_self]
      · by_cases e2 : q = (161, g + 1)
        · subst e2; rw [a161, tm_161 (Nat.le_refl _)]
          show some (z_ia _ _) = some (z_ia _ (mlg_c c g (161, g + 1)))
          unfold mlg_c
          rw [r_cf_ne (by simp), r_cf_ne (by simp), r_cf_self]
        · by_cases e3 : q = (162, g + 1)
          · subst e3; rw [a162, tm_162 (Nat.le_refl _)]
            show some (z_ia _ _) = some (z_ia _ (mlg_c c g (162, g + 1)))
            unfold mlg_c
            rw [r_cf_ne (by simp), r_cf_self]
          · by_cases e4 : q = (163, g + 1)
            · subst e4; rw [a163, tm_163 (Nat.le_refl _)]
              show some (z_ia _ _) = some (z_ia _ (mlg_c c g (163, g + 1)))
              unfold mlg_c
              rw [r_cf_self]
            · rw [hf q (by simp [e0, e1, e2, e3, e4]), hR.1 q hq, tm_g e0 e1 e2 e3 e4]
              unfold mlg_c
              rw [r_cf_ne e4, r_cf_ne e3, r_cf_ne e2, r_cf_ne e1]
  · have hne : ∀ k i, 100 ≤ k → q ≠ (k, i) := fun k i hk e => hq (by rw [e]; exact hk)
    rw [hf q (by simp [hne 100 0 (by decide), hne 160 _ (by decide), hne 161 _ (by decide), hne 162 _ (by decide), hne 163 _ (by decide)]), hR.2 q hq]
/-- room for a line -/
def MGR (c1 : r_c) (g1 NL : Nat) (c2 : r_c) (g2 : Nat) : Prop :=
  g2 = (if NL < 256 * 2 ^ g1 then g1 else g1 + 1) ∧ NL < 256 * 2 ^ g2 ∧ (∀ k, k < NL → c2 (160, g2) k = c1 (160, g1) k ∧ c2 (161, g2) k = c1 (161, g1) k ∧ c2 (162, g2) k = c1 (162, g1) k ∧ c2 (163, g2) k = c1 (163, g1) k) ∧ ∀ t : z_T, ¬ (160 ≤ t.1 ∧ t.1 ≤ 163) → c2 t = c1 t
theorem MGR_a {c1 : r_c} {g1 NL : Nat} (h : NL < 256 * 2 ^ g1) : MGR c1 g1 NL c1 g1 := ⟨(if_pos h).symm, h, fun _ _ => ⟨rfl, rfl, rfl, rfl⟩, fun _ _ => rfl⟩
theorem MGR_b {c1 : r_c} {g1 NL : Nat} (h : NL = 256 * 2 ^ g1) : MGR c1 g1 NL (mlg_c c1 g1) (g1 + 1) := by
  refine ⟨(if_neg (by omega)).symm, by rw [Nat.pow_succ]; have : 0 < 2 ^ g1 := Nat.pow_pos (by omega); omega, fun k hk => ?_, fun t ht => ?_⟩
  · unfold mlg_c
    refine ⟨?_, ?_, ?_, ?_⟩
    · rw [r_cf_ne (by simp), r_cf_ne (by simp), r_cf_ne (by simp), r_cf_self]; exact if_pos (by omega)
    · rw [r_cf_ne (by simp), r_cf_ne (by simp), r_cf_self]; exact if_pos (by omega)
    · rw [r_cf_ne (by simp), r_cf_self]; exact if_pos (by omega)
    · rw [r_cf_self]; exact if_pos (by omega)
  · unfold mlg_c
    have hne : ∀ k, 160 ≤ k → k ≤ 163 → t ≠ (k, g1 + 1) := fun k h1 h2 e => ht (by rw [e]; exact ⟨h1, h2⟩)
    rw [r_cf_ne (hne 163 (by omega) (by omega)), r_cf_ne (hne 162 (by omega) (by omega)), r_cf_ne (hne 161 (by omega) (by omega)), r_cf_ne (hne 160 (by omega) (by omega))]
/-- the ledger, h holders on -/
def MLN (c : r_c) (g nl p : Nat) (d : Nat → Int32) (now : Int32) (h : Nat) (c1 : r_c) (g1 : Nat) : Prop :=
  ((g1 = g ∧ nl + cn d h ≤ 256 * 2 ^ g) ∨ (g1 = g + 1 ∧ 256 * 2 ^ g < nl + cn d h)) ∧ (∀ k, k < nl → c1 (160, g1) k = c (160, g) k ∧ c1 (161, g1) k = c (161, g) k ∧ c1 (162, g1) k = c (162, g) k ∧ c1 (163, g1) k = c (163, g) k) ∧
  (∀ j, j < h → d j ≠ 0 → c1 (160, g1) (nl + cn d j) = now ∧ c1 (161, g1) (nl + cn d j) = nI p ∧ c1 (162, g1) (nl + cn d j) = nI j ∧ c1 (163, g1) (nl + cn d j) = d j) ∧
  (∀ j, c1 (159, 0) j = if j < h then c (159, 0) j + d j else c (159, 0) j) ∧ c1 (100, 0) 4 = nI (nl + cn d h)
theorem MLN_0 {c c1 : r_c} {g nl p : Nat} {d : Nat → Int32} {now : Int32} (hn : nl ≤ 256 * 2 ^ g) (h5 : c (100, 0) 4 = nI nl) (hf : ∀ t : z_T, t ≠ (117, 0) → t ≠ (118, 0) → c1 t = c t) : MLN c g nl p d now 0 c1 g := by
  refine ⟨Or.inl ⟨rfl, hn⟩, fun k _ => ?_, fun j hj => absurd hj (Nat.not_lt_zero j), fun j => ?_, ?_⟩
  · rw [hf (160, g) (by simp) (by simp), hf (161, g) (by simp) (by simp), hf (162, g) (by simp) (by simp), hf (163, g) (by simp) (by simp)]
    exact ⟨rfl, rfl, rfl, rfl⟩
  · rw [hf (159, 0) (by simp) (by simp), if_neg (Nat.not_lt_zero j)]
  · rw [hf (100, 0) (by simp) (by simp)]
    exact h5
theorem MLN_skip {c c1 : r_c} {g g1 nl p h : Nat} {d : Nat → Int32} {now : Int32} (H : MLN c g nl p d now h c1 g1) (hd : d h = 0) : MLN c g nl p d now (h + 1) c1 g1 := by
  have e : cn d (h + 1) = cn d h := by show cn d h + (if d h = 0 then 0 else 1) = _; rw [if_pos hd]; rfl
  obtain ⟨h1, h2, h3, h4, h5⟩ := H
  refine ⟨by rw [e]; exact h1, h2, fun j hj hdj => ?_, fun j => ?_, by rw [e]; exact h5⟩
  · by_cases q : j = h
    · subst q; exact absurd hd hdj
    · exact h3 j (by omega) hdj
  · rw [h4 j]
    by_cases q : j = h
    · subst q; rw [if_neg (by omega), if_pos (by omega), hd, Int32.add_zero]
    · by_cases q2 : j < h
      · rw [if_pos q2, if_pos (by omega)]
      · rw [if_neg q2, if_neg (by omega)]
theorem MLN_step {c c1 c2 c3 : r_c} {g g1 g2 nl p h : Nat} {d : Nat → Int32} {now : Int32} (H : MLN c g nl p d now h c1 g1) (hd : d h ≠ 0) (hn : nl ≤ 256 * 2 ^ g) (hh : h < 8) (G : MGR c1 g1 (nl + cn d h) c2 g2)
    (k0 : ∀ k, k ≠ nl + cn d h → c3 (160, g2) k = c2 (160, g2) k ∧ c3 (161, g2) k = c2 (161, g2) k ∧ c3 (162, g2) k = c2 (162, g2) k ∧ c3 (163, g2) k = c2 (163, g2) k)
    (k3 : c3 (160, g2) (nl + cn d h) = now) (k4 : c3 (161, g2) (nl + cn d h) = nI p) (k5 : c3 (162, g2) (nl + cn d h) = nI h) (k6 : c3 (163, g2) (nl + cn d h) = d h) (k7 : c3 (159, 0) = upd (c1 (159, 0)) h (c1 (159, 0) h + d h)) (k8 : c3 (100, 0) 4 = nI (nl + cn d h + 1)) : MLN c g nl p d now (h + 1) c3 g2 := by
  have e : cn d (h + 1) = cn d h + 1 := by show cn d h + (if d h = 0 then 0 else 1) = _; rw [if_neg hd]
  have hc := cn_le d h
  have hp : 0 < 2 ^ g := Nat.pow_pos (by omega)
  obtain ⟨h1, h2, h3, h4, h5⟩ := H
  obtain ⟨k1, _, k2, k9⟩ := G
  refine ⟨?_, fun k hk => ?_, fun j hj hdj => ?_, fun j => ?_, ?_⟩
  · rw [e]
    rcases h1 with ⟨q1, q2⟩ | ⟨q1, q2⟩
    · subst q1
      by_cases q3 : nl + cn d h < 256 * 2 ^ g1
      · rw [if_pos q3] at k1; exact Or.inl ⟨k1, by omega⟩
      · rw [if_neg q3] at k1; exact Or.inr ⟨k1, by omega⟩
    · subst q1
      rw [if_pos (by rw [Nat.pow_succ]; omega)] at k1
      exact Or.inr ⟨k1, by omega⟩
  · obtain ⟨b1, b2, b3, b4⟩ := h2 k hk
    obtain ⟨a1, a2, a3, a4⟩ := k2 k (by omega)
    obtain ⟨z1, z2, z3, z4⟩ := k0 k (by omega)
    exact ⟨z1.trans (a1.trans b1), z2.trans (a2.trans b2), z3.trans (a3.trans b3), z4.trans (a4.trans b4)⟩
  · by_cases q : j = h
    · subst q; exact ⟨k3, k4, k5, k6⟩
    · have hl := cn_lt d (show j < h by omega) hdj
      obtain ⟨b1, b2, b3, b4⟩ := h3 j (by omega) hdj
      obtain ⟨a1, a2, a3, a4⟩ := k2 (nl + cn d j) (by omega)
      obtain ⟨z1, z2, z3, z4⟩ := k0 (nl + cn d j) (by omega)
      exact ⟨z1.trans (a1.trans b1), z2.trans (a2.trans b2), z3.trans (a3.trans b3), z4.trans (a4.trans b4)⟩
  · rw [k7]
    by_cases q : j = h
    · subst q; rw [pk_us, h4 j, if_neg (by omega), if_pos (by omega)]
    · rw [pk_un q, h4 j]
      by_cases q2 : j < h
      · rw [if_pos q2, if_pos (by omega)]
      · rw [if_neg q2, if_neg (by omega)]
  · rw [e, ← Nat.add_assoc]; exact k8
/-- a share's measure, as longs add -/
def ms_l (c : r_c) (bi nr : Nat) (y : Int32) (h : Nat) : Nat → Int64
  | 0 => 0
  | n + 1 => ms_l c bi nr y h n + (c (144, 0) (12 * bi + n)).toInt64 * (i_f (c (151, 0)) (c (152, 0)) (c (153, 0)) (c (154, 0)) (nI n) (nI h) y nr).2.toInt64
/-- all to the first, where nobody has a claim -/
def s_m1 (m : Nat → Nat) : Nat → Nat := if p_sm m 8 = 0 then (fun i => if i = 0 then 1 else 0) else m
theorem s_m1_pos (m : Nat → Nat) : 0 < p_sm (s_m1 m) 8 := by
  unfold s_m1
  by_cases h : p_sm m 8 = 0
  · rw [if_pos h]; decide
  · rw [if_neg h]; omega
theorem s_sh_m1 {co : Nat} {m : Nat → Nat} {i : Nat} (hi : i < 8) : nI (part co (s_m1 m) 8 i) = s_sh co m i := by
  unfold s_sh s_m1
  by_cases h : p_sm m 8 = 0
  · rw [if_pos h, if_pos h]
    have hS : p_sm (fun i => if i = 0 then 1 else 0) 8 = 1 := rfl
    have hq : ∀ i, p_q co (fun i => if i = 0 then 1 else 0) 1 i = if i = 0 then co else 0 := fun i => by
      show co * (if i = 0 then 1 else 0) / 1 = _
      by_cases e : i = 0
      · rw [if_pos e, if_pos e, Nat.mul_one, Nat.div_one]
      · rw [if_neg e, if_neg e, Nat.mul_zero, Nat.div_one]
    have hlf : p_lf co (fun i => if i = 0 then 1 else 0) 8 = 0 := by
      unfold p_lf
      rw [hS]
      have : p_sm (p_q co (fun i => if i = 0 then 1 else 0) 1) 8 = co := by
        rw [p_sm_eq (g := fun i => if i = 0 then co else 0) (fun i _ => hq i)]
        show 0 + co + 0 + 0 + 0 + 0 + 0 + 0 + 0 = co
        omega
      omega
    unfold part
    rw [hlf, hS, hq]
    show nI ((if i = 0 then co else 0) + if false = true then 1 else 0) = _
    by_cases e : i = 0
    · rw [if_pos e, if_pos e]; rfl
    · rw [if_neg e, if_neg e]; rfl
  · rw [if_neg h, if_neg h]
