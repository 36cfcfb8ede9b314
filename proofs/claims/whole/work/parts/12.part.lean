/-! TO PART a number among some by their measures, as numbers -/
def p_sm (f : Nat → Nat) : Nat → Nat
  | 0 => 0
  | n + 1 => p_sm f n + f n
theorem p_sm_le {f g : Nat → Nat} : ∀ {n : Nat}, (∀ i, i < n → f i ≤ g i) → p_sm f n ≤ p_sm g n
  | 0, _ => Nat.le_refl 0
  | n + 1, h => Nat.add_le_add (p_sm_le (fun i hi => h i (by omega))) (h n (by omega))
theorem p_sm_eq {f g : Nat → Nat} : ∀ {n : Nat}, (∀ i, i < n → f i = g i) → p_sm f n = p_sm g n
  | 0, _ => rfl
  | n + 1, h => by show p_sm f n + f n = p_sm g n + g n; rw [p_sm_eq (fun i hi => h i (by omega)), h n (by omega)]
theorem p_sm_mul (c : Nat) (f : Nat → Nat) : ∀ n, p_sm (fun i => c * f i) n = c * p_sm f n
  | 0 => rfl
  | n + 1 => by show p_sm (fun i => c * f i) n + c * f n = c * (p_sm f n + f n); rw [p_sm_mul c f n, Nat.mul_add]
theorem p_sm_add (f g : Nat → Nat) : ∀ n, p_sm (fun i => f i + g i) n = p_sm f n + p_sm g n
  | 0 => rfl
  | n + 1 => by show p_sm (fun i => f i + g i) n + (f n + g n) = p_sm f n + f n + (p_sm g n + g n); rw [p_sm_add f g n]; omega
theorem p_sm_one {f : Nat → Nat} : ∀ {n i : Nat}, i < n → f i ≤ p_sm f n
  | n + 1, i, h => by
    show f i ≤ p_sm f n + f n
    by_cases e : i = n
    · subst e; omega
    · have := p_sm_one (f := f) (show i < n by omega); omega
def p_q (N : Nat) (m : Nat → Nat) (S i : Nat) : Nat := N * m i / S
def p_r (N : Nat) (m : Nat → Nat) (S i : Nat) : Nat := N * m i % S
def p_val (N : Nat) (m : Nat → Nat) (S : Nat) (g : Nat → Bool) (i : Nat) : Int := if g i = true then -1 else (p_r N m S i : Int)
/-- the first place of the greatest -/
def p_gb (f : Nat → Int) : Nat → Nat
  | 0 => 0
  | n + 1 => if f (p_gb f n) < f n then n else p_gb f n
def p_g (N : Nat) (m : Nat → Nat) (S n : Nat) : Nat → Nat → Bool
  | 0 => fun _ => false
  | k + 1 => fun i => decide (i = p_gb (p_val N m S (p_g N m S n k)) n) || p_g N m S n k i
def p_lf (N : Nat) (m : Nat → Nat) (n : Nat) : Nat := N - p_sm (p_q N m (p_sm m n)) n
def part (N : Nat) (m : Nat → Nat) (n i : Nat) : Nat := p_q N m (p_sm m n) i + if p_g N m (p_sm m n) n (p_lf N m n) i = true then 1 else 0
theorem p_gb_lt {f : Nat → Int} : ∀ {n : Nat}, 0 < n → p_gb f n < n
  | n + 1, _ => by
    show (if f (p_gb f n) < f n then n else p_gb f n) < n + 1
    by_cases h : f (p_gb f n) < f n
    · rw [if_pos h]; omega
    · rw [if_neg h]
      by_cases e : n = 0
      · subst e; exact Nat.zero_lt_one
      · have := p_gb_lt (f := f) (show 0 < n by omega); omega
theorem p_gb_max {f : Nat → Int} : ∀ {n i : Nat}, i < n → f i ≤ f (p_gb f n)
  | n + 1, i, h => by
    show f i ≤ f (if f (p_gb f n) < f n then n else p_gb f n)
    by_cases hc : f (p_gb f n) < f n
    · rw [if_pos hc]
      by_cases e : i = n
      · subst e; exact Int.le_refl _
      · have := p_gb_max (f := f) (show i < n by omega); omega
    · rw [if_neg hc]
      by_cases e : i = n
      · subst e; omega
      · exact p_gb_max (by omega)
theorem p_gb_first {f : Nat → Int} : ∀ {n i : Nat}, i < p_gb f n → f i < f (p_gb f n)
  | 0, i => fun h => absurd h (Nat.not_lt_zero i)
  | n + 1, i => by
    show i < (if f (p_gb f n) < f n then n else p_gb f n) → f i < f (if f (p_gb f n) < f n then n else p_gb f n)
    by_cases hc : f (p_gb f n) < f n
    · rw [if_pos hc]
      intro h
      have := p_gb_max (f := f) h
      omega
    · rw [if_neg hc]
      exact p_gb_first
/-- how many are given -/
def p_ct (g : Nat → Bool) : Nat → Nat := p_sm (fun i => if g i = true then 1 else 0)
theorem p_ct_all {g : Nat → Bool} {n : Nat} (h : ∀ i, i < n → g i = true) : p_ct g n = n := by
  have e : p_ct g n = p_sm (fun _ => 1) n := p_sm_eq (fun i hi => by rw [h i hi]; rfl)
  have : ∀ n, p_sm (fun _ => 1) n = n := fun n => by
    induction n with
    | zero => rfl
    | succ n ih => show p_sm (fun _ => 1) n + 1 = n + 1; rw [ih]
  rw [e, this]
theorem p_ct_new {g : Nat → Bool} {j : Nat} : ∀ {n : Nat}, g j = false → p_ct (fun i => decide (i = j) || g i) n = p_ct g n + if j < n then 1 else 0
  | 0, _ => rfl
  | n + 1, h => by
    show p_ct (fun i => decide (i = j) || g i) n + (if (decide (n = j) || g n) = true then 1 else 0) = p_ct g n + (if g n = true then 1 else 0) + if j < n + 1 then 1 else 0
    rw [p_ct_new h]
    by_cases e : n = j
    · subst e; simp [h]
    · by_cases h2 : j < n
      · simp [e, h2, show j < n + 1 by omega]; omega
      · simp [e, h2, show ¬ j < n + 1 by omega]
theorem p_ct_le (g : Nat → Bool) : ∀ n, p_ct g n ≤ n
  | 0 => Nat.le_refl 0
  | n + 1 => by
    have := p_ct_le g n
    show p_ct g n + (if g n = true then 1 else 0) ≤ n + 1
    split <;> omega
theorem p_free {g : Nat → Bool} {n : Nat} (h : p_ct g n < n) : ∃ i, i < n ∧ g i = false := by
  by_cases hc : ∃ i, i < n ∧ g i = false
  · exact hc
  · have := p_ct_all (g := g) (n := n) (fun i hi => by
      cases e : g i with
      | true => rfl
      | false => exact absurd ⟨i, hi, e⟩ hc)
    omega
section PT
variable {N : Nat} {m : Nat → Nat} {n : Nat}
theorem p_id (S i : Nat) : S * p_q N m S i + p_r N m S i = N * m i := Nat.div_add_mod _ _
theorem p_sums (S : Nat) : S * p_sm (p_q N m S) n + p_sm (p_r N m S) n = N * p_sm m n := by
  rw [← p_sm_mul, ← p_sm_mul, ← p_sm_add]
  exact p_sm_eq (fun i _ => p_id S i)
theorem p_qle (hS : 0 < p_sm m n) : p_sm (p_q N m (p_sm m n)) n ≤ N := by
  have h := p_sums (N := N) (m := m) (n := n) (p_sm m n)
  have : p_sm m n * p_sm (p_q N m (p_sm m n)) n ≤ p_sm m n * N := by rw [Nat.mul_comm _ N]; omega
  exact Nat.le_of_mul_le_mul_left this hS
theorem p_left (hS : 0 < p_sm m n) : p_sm m n * p_lf N m n = p_sm (p_r N m (p_sm m n)) n := by
  have h := p_sums (N := N) (m := m) (n := n) (p_sm m n)
  have h2 := p_qle (N := N) hS
  unfold p_lf
  rw [Nat.mul_sub, Nat.mul_comm (p_sm m n) N]
  omega
theorem p_rlt (hS : 0 < p_sm m n) (i : Nat) : p_r N m (p_sm m n) i < p_sm m n := Nat.mod_lt _ hS
theorem p_n0 (hS : 0 < p_sm m n) : 0 < n := by
  cases n with
  | zero => exact absurd hS (Nat.lt_irrefl 0)
  | succ n => omega
/-- less is left than there are parties with a rest -/
theorem p_pos (hS : 0 < p_sm m n) : p_lf N m n ≤ p_ct (fun i => decide (0 < p_r N m (p_sm m n) i)) n ∧ p_lf N m n < n := by
  have h1 := p_left (N := N) hS
  have h2 : p_sm (p_r N m (p_sm m n)) n ≤ p_sm (fun i => (p_sm m n - 1) * (if decide (0 < p_r N m (p_sm m n) i) = true then 1 else 0)) n := p_sm_le (fun i _ => by
    have := p_rlt (N := N) hS i
    by_cases h : 0 < p_r N m (p_sm m n) i
    · simp [h]; omega
    · simp [h]; omega)
  rw [p_sm_mul] at h2
  have h3 : p_sm m n * p_lf N m n ≤ (p_sm m n - 1) * p_ct (fun i => decide (0 < p_r N m (p_sm m n) i)) n := by rw [h1]; exact h2
  have h4 : (p_sm m n - 1) * p_ct (fun i => decide (0 < p_r N m (p_sm m n) i)) n ≤ p_sm m n * p_ct (fun i => decide (0 < p_r N m (p_sm m n) i)) n := Nat.mul_le_mul_right _ (by omega)
  have h5 : p_lf N m n ≤ p_ct (fun i => decide (0 < p_r N m (p_sm m n) i)) n := Nat.le_of_mul_le_mul_left (Nat.le_trans h3 h4) hS
  refine ⟨h5, ?_⟩
  have h6 := p_ct_le (fun i => decide (0 < p_r N m (p_sm m n) i)) n
  rcases Nat.lt_or_ge (p_lf N m n) n with q | q
  · exact q
  · have e : p_ct (fun i => decide (0 < p_r N m (p_sm m n) i)) n = n := by omega
    rw [e] at h3
    have h7 : p_sm m n * n ≤ (p_sm m n - 1) * n := Nat.le_trans (Nat.mul_le_mul_left _ q) h3
    have h8 := p_n0 hS
    have h9 := Nat.le_of_mul_le_mul_right h7 h8
    omega
/-- some party with a rest is there as long as fewer are given than are left -/
theorem p_more {g : Nat → Bool} {r : Nat → Nat} : ∀ {n : Nat}, p_ct g n < p_ct (fun i => decide (0 < r i)) n → ∃ i, i < n ∧ g i = false ∧ 0 < r i
  | 0, h => absurd h (Nat.lt_irrefl 0)
  | n + 1, h => by
    by_cases hc : g n = false ∧ 0 < r n
    · exact ⟨n, by omega, hc⟩
    · have h2 : p_ct g n + (if g n = true then 1 else 0) < p_ct (fun i => decide (0 < r i)) n + (if decide (0 < r n) = true then 1 else 0) := h
      have h3 : (if decide (0 < r n) = true then 1 else 0) ≤ (if g n = true then 1 else 0) := by
        by_cases hr : 0 < r n
        · have : g n = true := by
            cases e : g n with
            | true => rfl
            | false => exact absurd ⟨e, hr⟩ hc
          simp [this, hr]
        · simp [hr]
      obtain ⟨i, hi, h4⟩ := p_more (g := g) (r := r) (n := n) (by omega)
      exact ⟨i, by omega, h4⟩
/-- the rounds: as many are given as rounds went by, each had a rest -/
theorem p_rounds (hS : 0 < p_sm m n) : ∀ k, k ≤ p_lf N m n → p_ct (p_g N m (p_sm m n) n k) n = k ∧ ∀ i, p_g N m (p_sm m n) n k i = true → 0 < p_r N m (p_sm m n) i ∧ i < n
  | 0, _ => by
    refine ⟨?_, fun i h => by simp [p_g] at h⟩
    have : ∀ n, p_ct (fun _ => false) n = 0 := fun n => by
      induction n with
      | zero => rfl
      | succ n ih => show p_ct (fun _ => false) n + 0 = 0; rw [ih]
    exact this n
  | k + 1, hk => by
    obtain ⟨h1, h2⟩ := p_rounds hS k (by omega)
    have h3 := (p_pos (N := N) hS).1
    obtain ⟨i, hi, hg, hr⟩ := p_more (g := p_g N m (p_sm m n) n k) (r := p_r N m (p_sm m n)) (n := n) (by omega)
    have hmax := p_gb_max (f := p_val N m (p_sm m n) (p_g N m (p_sm m n) n k)) hi
    have hvi : p_val N m (p_sm m n) (p_g N m (p_sm m n) n k) i = (p_r N m (p_sm m n) i : Int) := by unfold p_val; rw [hg]; simp
    rw [hvi] at hmax
    have hj := p_gb_lt (f := p_val N m (p_sm m n) (p_g N m (p_sm m n) n k)) (p_n0 hS)
    generalize hjj : p_gb (p_val N m (p_sm m n) (p_g N m (p_sm m n) n k)) n = j at *
    have hgj : p_g N m (p_sm m n) n k j = false := by
      cases e : p_g N m (p_sm m n) n k j with
      | false => rfl
      | true => unfold p_val at hmax; rw [e] at hmax; simp at hmax; omega
    have hrj : 0 < p_r N m (p_sm m n) j := by
      unfold p_val at hmax
      rw [hgj] at hmax
      simp at hmax
      omega
    have e : p_g N m (p_sm m n) n (k + 1) = fun i => decide (i = j) || p_g N m (p_sm m n) n k i := by
      funext q
      show (decide (q = p_gb (p_val N m (p_sm m n) (p_g N m (p_sm m n) n k)) n) || p_g N m (p_sm m n) n k q) = _
      rw [hjj]
    rw [e]
    refine ⟨by rw [p_ct_new hgj, if_pos hj, h1], fun q hq => ?_⟩
    rcases Bool.or_eq_true _ _ ▸ hq with hq | hq
    · have : q = j := by simpa using hq
      subst this
      exact ⟨hrj, hj⟩
    · exact h2 q hq
/-- all is parted -/
theorem part_sum (hS : 0 < p_sm m n) : p_sm (part N m n) n = N := by
  have h := (p_rounds (N := N) hS (p_lf N m n) (Nat.le_refl _)).1
  have h2 := p_qle (N := N) hS
  have e : p_sm (part N m n) n = p_sm (p_q N m (p_sm m n)) n + p_ct (p_g N m (p_sm m n) n (p_lf N m n)) n := p_sm_add _ _ n
  rw [e, h]
  unfold p_lf
  omega
/-- no party gets more than its measure, where not more is parted than all have -/
theorem part_le (hS : 0 < p_sm m n) (hN : N ≤ p_sm m n) (i : Nat) : part N m n i ≤ m i := by
  have hq : p_q N m (p_sm m n) i ≤ m i := by
    unfold p_q
    exact Nat.div_le_of_le_mul (Nat.mul_le_mul_right _ hN)
  unfold part
  by_cases hg : p_g N m (p_sm m n) n (p_lf N m n) i = true
  · rw [if_pos hg]
    have hr := ((p_rounds (N := N) hS (p_lf N m n) (Nat.le_refl _)).2 i hg).1
    have hid := p_id (N := N) (m := m) (p_sm m n) i
    rcases Nat.lt_or_ge (p_q N m (p_sm m n) i) (m i) with q | q
    · omega
    · have h1 : p_sm m n * m i ≤ p_sm m n * p_q N m (p_sm m n) i := Nat.mul_le_mul_left _ q
      have h2 : N * m i ≤ p_sm m n * m i := Nat.mul_le_mul_right _ hN
      omega
  · rw [if_neg hg]
    omega
theorem part_0 (hS : 0 < p_sm m n) (i : Nat) : part 0 m n i = 0 := by
  have h := part_sum (N := 0) hS
  unfold part
  have e1 : p_lf 0 m n = 0 := by unfold p_lf; omega
  have e2 : p_q 0 m (p_sm m n) i = 0 := by unfold p_q; simp
  rw [e1, e2]
  simp [p_g]
theorem part_le_N (hS : 0 < p_sm m n) {i : Nat} (hi : i < n) : part N m n i ≤ N := by
  have h := part_sum (N := N) hS
  have := p_sm_one (f := part N m n) hi
  omega
end PT
