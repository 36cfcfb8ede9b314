/-! helpers of the walks -/
theorem z_okv_no {E0 : z_T → Prop} {w : z_w} (he : ∀ t, ¬ E0 t) {v : z_v} (h : z_okv E0 w v) : z_okv (fun _ => False) w v := by
  match v, h with
  | .inl _, _ => trivial
  | .inr (.inl _), _ => trivial
  | .inr (.inr none), _ => trivial
  | .inr (.inr (some t)), hv => exact hv.imp id (he t)
theorem z_some_of {w : z_w} {t : z_T} {c : z_c} (h : w t = some c) : w t ≠ none := by rw [h]; simp
/-- a truth as a number -/
def z_b (p : Prop) [Decidable p] : Int32 := if p then 1 else 0
theorem z_b1 {p : Prop} [Decidable p] (h : p) : z_b p = 1 := if_pos h
theorem z_b0 {p : Prop} [Decidable p] (h : ¬ p) : z_b p = 0 := if_neg h
theorem z_b_iff {p : Prop} [Decidable p] : z_b p = 1 ↔ p := by
  by_cases h : p
  · rw [z_b1 h]; simp [h]
  · rw [z_b0 h]; simp [h]
theorem z_b_iff0 {p : Prop} [Decidable p] : z_b p = 0 ↔ ¬ p := by
  by_cases h : p
  · rw [z_b1 h]; simp [h]
  · rw [z_b0 h]; simp [h]
theorem z_le {a b : Int32} : a ≤ b ↔ a.toInt ≤ b.toInt := Int32.le_iff_toInt_le
theorem z_lt {a b : Int32} : a < b ↔ a.toInt < b.toInt := Int32.lt_iff_toInt_lt
theorem z_ie {a b : Int32} : a = b ↔ a.toInt = b.toInt := Int32.toInt_inj.symm
/-- the sum of a row, as ints add -/
def z_sum (f : Nat → Int32) : Nat → Int32
  | 0 => 0
  | n + 1 => z_sum f n + f n
theorem z_e1 {a b : Int32} (h : a = b) : (some (vi a) : Option z_v) = some (vi b) := by rw [h]
theorem z_el {a b : Int64} (h : a = b) : (some (vl a) : Option z_v) = some (vl b) := by rw [h]
theorem z_up (i : Nat) : nI i + 1 = nI (i + 1) := nI_1 i
theorem z_ret1 {p : Prop} [Decidable p] (h : p) : (some (vi 1) : Option z_v) = some (vi (z_b p)) := by rw [z_b1 h]
theorem z_ret0 {p : Prop} [Decidable p] (h : ¬ p) : (some (vi 0) : Option z_v) = some (vi (z_b p)) := by rw [z_b0 h]
theorem z_arrV {c : ClassId} {n : Nat} {f g : Nat → Value} (h : ∀ j, j < n → f j = g j) : arrV c n f = arrV c n g := by
  have e : (fun j : Fin n => f j.val) = fun j : Fin n => g j.val := funext fun j => h j.val j.isLt
  unfold arrV
  rw [e]
/-- a row of numbers by another one that is the same as far as it goes -/
theorem z_cong {X : z_X} {kC kS : Nat} {w : z_w} {pc : Nat} {L : List (Nat × z_v)} {st : List z_v} {t : z_T} {k n : Nat} {f g : Nat → Int32} (hw : w t = some (.inl (k, n, .inl f))) (hfg : ∀ j, j < n → f j = g j) (kk : z_V X kC kS (z_set w t (.inl (k, n, .inl g))) pc L st) : z_V X kC kS w pc L st := fun ad ts H locs ls cells slots ⟨h1, h2, h3, h4, h5, h6, h7, h8⟩ => by
  obtain ⟨i, hi, he⟩ := h2.find hw
  have hm : ∀ q, w q ≠ none → z_set w t (.inl (k, n, .inl g)) q ≠ none := fun _ hq => z_set_some hq
  have e : vp_cell (x_dA X k) (n, .inl f) = vp_cell (x_dA X k) (n, .inl g) := by
    rw [vp_cell_i, vp_cell_i]
    exact z_arrV (fun j hj => by rw [hfg j hj])
  have hat : va_at (x_D X) vwCl (ad t, z_ce (x_dA X) ad (.inl (k, n, .inl g))) H := by
    have := h2.2.2.1 i _ he
    exact Eq.trans this (congrArg some e)
  exact kk ad ts H locs ls cells slots ⟨h1, h2.put (c := .inl (k, n, .inl g)) hi trivial (h2.2.2.1.set h2.2.2.2.1 he hat (fun _ _ => rfl)) (h2.2.2.2.1.set he), h3, fun q hq => (h4 q hq).imp (hm q) id, z_okl_mono hm h5, z_oks_mono hm h6, h7, h8⟩
theorem z_congL {X : z_X} {kC kS : Nat} {w : z_w} {pc : Nat} {L : List (Nat × z_v)} {st : List z_v} {t : z_T} {k n : Nat} {f g : Nat → Int64} (hw : w t = some (.inl (k, n, .inr (.inl f)))) (hfg : ∀ j, j < n → f j = g j) (kk : z_V X kC kS (z_set w t (.inl (k, n, .inr (.inl g)))) pc L st) : z_V X kC kS w pc L st := fun ad ts H locs ls cells slots ⟨h1, h2, h3, h4, h5, h6, h7, h8⟩ => by
  obtain ⟨i, hi, he⟩ := h2.find hw
  have hm : ∀ q, w q ≠ none → z_set w t (.inl (k, n, .inr (.inl g))) q ≠ none := fun _ hq => z_set_some hq
  have e : vp_cell (x_dA X k) (n, .inr (.inl f)) = vp_cell (x_dA X k) (n, .inr (.inl g)) := by
    rw [vp_cell_l, vp_cell_l]
    exact z_arrV (fun j hj => by rw [hfg j hj])
  have hat : va_at (x_D X) vwCl (ad t, z_ce (x_dA X) ad (.inl (k, n, .inr (.inl g)))) H := by
    have := h2.2.2.1 i _ he
    exact Eq.trans this (congrArg some e)
  exact kk ad ts H locs ls cells slots ⟨h1, h2.put (c := .inl (k, n, .inr (.inl g))) hi trivial (h2.2.2.1.set h2.2.2.2.1 he hat (fun _ _ => rfl)) (h2.2.2.2.1.set he), h3, fun q hq => (h4 q hq).imp (hm q) id, z_okl_mono hm h5, z_oks_mono hm h6, h7, h8⟩
theorem z_skip {w : z_w} {t q : z_T} {c : z_c} {o : Option z_c} (e : z_eq q t = false) (h : w q = o) : z_set w t c q = o := by
  unfold z_set
  rw [e]
  exact h
theorem z_t {C A B : Prop} [Decidable C] (h : C) (a : A) : if C then A else B := by rw [if_pos h]; exact a
theorem z_f {C A B : Prop} [Decidable C] (h : ¬ C) (b : B) : if C then A else B := by rw [if_neg h]; exact b
/-- an index that was looked at -/
theorem z_ixc {x : Int32} {n : Nat} (h0 : ¬ x < 0) (h1 : ¬ nI n ≤ x) (hn : n < 2 ^ 31) : z_ix x x.toNatClampNeg n := by
  obtain ⟨j, hj, rfl⟩ := nI_of h0
  have h2 : ¬ n ≤ j := fun q => h1 ((nI_leI hn hj).mpr q)
  have e := z_ixn (j := j) (n := n) (by omega) hn
  exact ⟨e.1, rfl⟩
theorem z_ixn2 {x : Int32} {j n : Nat} (h : z_ix x j n) : j < n := by
  have := h.1
  have e := h.2
  unfold vp_in at this
  omega
theorem z_ixlt {x : Int32} {n : Nat} (h0 : ¬ x < 0) (h1 : ¬ nI n ≤ x) (hn : n < 2 ^ 31) : x.toNatClampNeg < n := z_ixn2 (z_ixc h0 h1 hn)
theorem z_eqnI {x : Int32} (h0 : ¬ x < 0) : x = nI x.toNatClampNeg := by
  obtain ⟨j, hj, rfl⟩ := nI_of h0
  rw [nI_clamp hj]
theorem z_nIi {n : Nat} (h : n < 2 ^ 31) : (nI n).toInt = n := nI_toInt h
theorem z_clampI (x : Int32) (h : 0 ≤ x.toInt) : (x.toNatClampNeg : Int) = x.toInt := by
  have h0 : ¬ x < 0 := by rw [z_lt]; have : (0 : Int32).toInt = 0 := by decide
                          omega
  obtain ⟨j, hj, rfl⟩ := nI_of h0
  rw [nI_clamp hj, nI_toInt hj]
/-- one more in a row -/
theorem z_upd_fill {f : Nat → Int32} {i : Nat} {v : Int32} : upd (fun k => if k < i then v else f k) i v = fun k => if k < i + 1 then v else f k := by
  funext k
  simp only [upd]
  by_cases h : k = i
  · subst h; simp
  · by_cases h2 : k < i
    · simp [h, h2, show k < i + 1 by omega]
    · simp [h, h2, show ¬ k < i + 1 by omega]
