/-! the tape, read by clauses and by states: bytes, states, what is learnt -/
theorem t_shr (x s : Int32) (k : Nat) (h : (s.toBitVec.smod 32).toNat = k) : (x >>> s).toBitVec = x.toBitVec.sshiftRight k := by
  show x.toBitVec.sshiftRight (s.toBitVec.smod 32).toNat = _
  rw [h]
theorem t_255 : ∀ i < 32, 8 ≤ i → (255#32).getLsbD i = false := by decide
theorem t_and (x : BitVec 32) (k : Nat) (hk : k ≤ 24) : x.sshiftRight k &&& 255#32 = (x >>> k) &&& 255#32 := by
  apply BitVec.eq_of_getLsbD_eq
  intro i hi
  rw [BitVec.getLsbD_and, BitVec.getLsbD_and]
  by_cases h8 : 8 ≤ i
  · rw [t_255 i hi h8, Bool.and_false, Bool.and_false]
  · rw [BitVec.getLsbD_sshiftRight, BitVec.getLsbD_ushiftRight]
    have h1 : ¬ 32 ≤ i := by omega
    have h2 : k + i < 32 := by omega
    simp [h1, h2]
theorem t_by (x : Int32) (k : Nat) (hk : k < 4) : (x >>> (nI (8 * k) &&& 31)) &&& 255 = t_pc x k := by
  have hu : (x.toUInt32 >>> ((nI (8 * k)).toUInt32 &&& Int32.toUInt32 31)).toInt32.toBitVec = x.toBitVec >>> (8 * k) := by
    apply BitVec.eq_of_toNat_eq
    rw [pk_ushr x (nI (8 * k)) (8 * k) (by rcases (show k = 0 ∨ k = 1 ∨ k = 2 ∨ k = 3 by omega) with rfl | rfl | rfl | rfl <;> decide), BitVec.toNat_ushiftRight, Nat.shiftRight_eq_div_pow]
  have hs : (x >>> (nI (8 * k) &&& 31)).toBitVec = x.toBitVec.sshiftRight (8 * k) := t_shr _ _ _ (by rcases (show k = 0 ∨ k = 1 ∨ k = 2 ∨ k = 3 by omega) with rfl | rfl | rfl | rfl <;> decide)
  unfold t_pc
  apply Int32.toBitVec.inj
  rw [Int32.toBitVec_and, Int32.toBitVec_and, hu, hs]
  exact t_and _ _ (by omega)
/-- the word of a byte's place, and the bytes that are not 0 among the first k -/
def t_w5 (a b e u v : Int32) (k : Nat) : Int32 := if k < 4 then a else if k < 8 then b else if k < 12 then e else if k < 16 then u else v
def t_o (x : Int32) (k : Nat) : List Int32 := if t_pc x k = 0 then [] else [t_pc x k]
def t_lb (a b e u v : Int32) : Nat → List Int32
  | 0 => []
  | k + 1 => t_lb a b e u v k ++ t_o (t_w5 a b e u v k) (3 - k % 4)
theorem t_rs_o (x : Int32) (k : Nat) : t_rs x (k + 1) = t_o x k ++ t_rs x k := by
  rw [t_rs]; unfold t_o
  by_cases h : t_pc x k = 0
  · rw [if_pos h, if_pos h, List.nil_append]
  · rw [if_neg h, if_neg h]; rfl
theorem t_rs4 (x : Int32) : t_rs x 4 = t_o x 3 ++ (t_o x 2 ++ (t_o x 1 ++ t_o x 0)) := by
  rw [t_rs_o, t_rs_o, t_rs_o, t_rs_o, show t_rs x 0 = [] from rfl, List.append_nil]
theorem t_lb_20 (a b e u v : Int32) : t_lb a b e u v 20 = t_rs a 4 ++ t_rs b 4 ++ t_rs e 4 ++ t_rs u 4 ++ t_rs v 4 := by
  rw [t_rs4, t_rs4, t_rs4, t_rs4, t_rs4, show t_lb a b e u v 20 = [] ++ t_o a 3 ++ t_o a 2 ++ t_o a 1 ++ t_o a 0 ++ t_o b 3 ++ t_o b 2 ++ t_o b 1 ++ t_o b 0 ++ t_o e 3 ++ t_o e 2 ++ t_o e 1 ++ t_o e 0 ++ t_o u 3 ++ t_o u 2 ++ t_o u 1 ++ t_o u 0 ++ t_o v 3 ++ t_o v 2 ++ t_o v 1 ++ t_o v 0 from rfl]
  simp only [List.append_assoc, List.nil_append]
theorem t_lb_len (a b e u v : Int32) : ∀ k, (t_lb a b e u v k).length ≤ k
  | 0 => Nat.le_refl 0
  | k + 1 => by
    have := t_lb_len a b e u v k
    rw [t_lb, List.length_append]
    unfold t_o
    split
    · show _ + 0 ≤ _; omega
    · show _ + 1 ≤ _; omega
theorem t_sh20 : ∀ k < 20, (24 : Int32) - 8 * (nI k - nI k / 4 * 4) = nI (8 * (3 - k % 4)) := by decide +kernel
theorem tp_ws_one (f : Nat → Int32) (n : Nat) (L : List Int32) (b : Int32) : tp_ws f n (L ++ [b]) = upd (tp_ws f n L) (n + L.length) b := by
  rw [tp_ws_app]; rfl
/-- no break yet, and the state -/
def tD (f : Nat → Int32) (i : Nat) (s : Int32) : Prop := t_br f i = i ∧ t_st f i = s
theorem tD_0 (f : Nat → Int32) : tD f 0 0 := ⟨rfl, rfl⟩
theorem tD_st {f : Nat → Int32} {i : Nat} {s s' : Int32} (h : tD f i s) (e : t_af s (f i) = s') (hn : s' ≠ 12) : tD f (i + 1) s' := by
  have e2 : t_st f (i + 1) = s' := by rw [t_st, h.2, e]
  exact ⟨t_br_next h.1 (by rw [e2]; exact hn), e2⟩
theorem tD_brk {f : Nat → Int32} {i n : Nat} {s : Int32} (h : tD f i s) (e : t_af s (f i) = 12) (hn : i < n) : tp_ff f n = nI i := by
  have e2 : t_st f (i + 1) = 12 := by rw [t_st, h.2, e]
  have e3 := t_br_stop h.1 e2 hn
  unfold tp_ff
  rw [e3, if_pos hn]
theorem tD_end {f : Nat → Int32} {n : Nat} {s : Int32} (h : tD f n s) (h0 : s ≠ 0) (h1 : s ≠ 10) : tp_ff f n = nI n := by
  unfold tp_ff
  rw [h.1, if_neg (by omega), h.2, if_neg (fun q => q.elim h0 h1)]
theorem tD_ok {f : Nat → Int32} {n : Nat} {s : Int32} (h : tD f n s) (hs : s = 0 ∨ s = 10) : tp_ff f n = -1 := by
  unfold tp_ff
  rw [h.1, if_neg (by omega), h.2, if_pos hs]
/-- behind blanks -/
def sk (f : Nat → Int32) (n : Nat) : Nat → Nat → Nat
  | 0, i => i
  | k + 1, i => if i < n ∧ f i = 32 then sk f n k (i + 1) else i
def skp (f : Nat → Int32) (n a : Nat) : Nat := sk f n (n - a) a
def tv (f : Nat → Int32) (n a : Nat) : Int32 := if a < n then f a else -1
theorem skp_st {f : Nat → Int32} {n a : Nat} (h : a < n ∧ f a = 32) : skp f n a = skp f n (a + 1) := by
  unfold skp
  rw [show n - a = (n - (a + 1)) + 1 by omega, sk, if_pos h]
theorem skp_no {f : Nat → Int32} {n a : Nat} (h : ¬ (a < n ∧ f a = 32)) : skp f n a = a := by
  unfold skp
  by_cases q : n - a = 0
  · rw [q]; rfl
  · rw [show n - a = (n - (a + 1)) + 1 by omega, sk, if_neg h]
theorem sk_ind {f : Nat → Int32} {n : Nat} {P : Nat → Prop} (hP : ∀ i, i < n → f i = 32 → P i → P (i + 1)) : ∀ k a, n - a ≤ k → a ≤ n → P a → P (skp f n a) ∧ a ≤ skp f n a ∧ skp f n a ≤ n ∧ ¬ (skp f n a < n ∧ f (skp f n a) = 32)
  | 0, a, hk, ha, h => by
    have e : skp f n a = a := skp_no (fun q => by omega)
    rw [e]
    exact ⟨h, Nat.le_refl a, ha, fun q => by omega⟩
  | k + 1, a, hk, ha, h => by
    by_cases q : a < n ∧ f a = 32
    · rw [skp_st q]
      have := sk_ind hP k (a + 1) (by omega) (by omega) (hP a q.1 q.2 h)
      exact ⟨this.1, by omega, this.2.2⟩
    · rw [skp_no q]
      exact ⟨h, Nat.le_refl a, ha, q⟩
theorem skp_ge {f : Nat → Int32} {n a : Nat} (ha : a ≤ n) : a ≤ skp f n a ∧ skp f n a ≤ n ∧ ¬ (skp f n a < n ∧ f (skp f n a) = 32) := (sk_ind (P := fun _ => True) (fun _ _ _ _ => trivial) (n - a) a (Nat.le_refl _) ha trivial).2
theorem skp_D {f : Nat → Int32} {n a : Nat} {s : Int32} (ha : a ≤ n) (h : tD f a s) (hs : ¬ (2 < s ∧ s ≤ 7)) (h12 : s ≠ 12) : tD f (skp f n a) s :=
  (sk_ind (P := fun i => tD f i s) (fun i _ h32 hD => tD_st hD (by rw [h32]; unfold t_af; rw [if_pos rfl, if_neg hs]) h12) (n - a) a (Nat.le_refl _) ha h).1
/-- how many are learnt, and that they are the ones read -/
def t_ag (C : r_c) (R : r_c) (m : Nat) : Prop := ∀ k, k < m → C (9, 0) k = R (140, 0) k ∧ C (10, 0) k = R (141, 0) k ∧ C (11, 0) k = R (142, 0) k ∧ C (12, 0) k = R (143, 0) k
def lq (cX : r_c) (f : Nat → Int32) (i m : Nat) (R : r_c) : Prop := ∃ a C, tp_ln cX f i = (m, a, C) ∧ t_ag C R m
def lp (cX : r_c) (f : Nat → Int32) (i m : Nat) (an : Int32) (L S N A : Int32) (R : r_c) : Prop := ∃ C, tp_ln cX f i = (m + 1, an, C) ∧ t_ag C R m ∧ C (9, 0) m = L ∧ C (10, 0) m = S ∧ C (11, 0) m = N ∧ C (12, 0) m = A
theorem lw_no {C : r_c} {m : Nat} {a b : Int32} (h1 : ¬ (b = 61 ∨ b = 60 ∨ b = 62)) (h2 : ¬ (48 ≤ b ∧ b ≤ 57)) : tp_lw C m a b = C := by
  unfold tp_lw
  by_cases h : m = 0
  · rw [if_pos h]
  · rw [if_neg h, if_neg h1, if_neg (fun q => h2 q.1), if_neg h2]
theorem l1_no {s : Nat × Int32 × r_c} {b : Int32} (h0 : ¬ (b = 104 ∨ b = 109 ∨ b = 99 ∨ b = 111)) (h1 : ¬ b = 58) (h2 : ¬ (b = 61 ∨ b = 60 ∨ b = 62)) (h3 : ¬ (48 ≤ b ∧ b ≤ 57)) : tp_l1 s b = s := by
  unfold tp_l1
  rw [if_neg h0, if_neg h1, lw_no h2 h3]
theorem lq_no {cX R : r_c} {f : Nat → Int32} {i m : Nat} (h : lq cX f i m R) {b : Int32} (hb : f i = b) (h0 : ¬ (b = 104 ∨ b = 109 ∨ b = 99 ∨ b = 111)) (h1 : ¬ b = 58) (h2 : ¬ (b = 61 ∨ b = 60 ∨ b = 62)) (h3 : ¬ (48 ≤ b ∧ b ≤ 57)) : lq cX f (i + 1) m R := by
  obtain ⟨a, C, e, g⟩ := h
  exact ⟨a, C, by rw [tp_ln, e, hb, l1_no h0 h1 h2 h3], g⟩
theorem lq_sk {cX R : r_c} {f : Nat → Int32} {n a m : Nat} (ha : a ≤ n) (h : lq cX f a m R) : lq cX f (skp f n a) m R :=
  (sk_ind (P := fun i => lq cX f i m R) (fun i _ h32 hq => lq_no hq h32 (by decide) (by decide) (by decide) (by decide)) (n - a) a (Nat.le_refl _) ha h).1
theorem lp_bl {cX R : r_c} {f : Nat → Int32} {i m : Nat} {an L S N A : Int32} (h : lp cX f i m an L S N A R) (h32 : f i = 32) : lp cX f (i + 1) m an L S N A R := by
  obtain ⟨C, e, g⟩ := h
  exact ⟨C, by rw [tp_ln, e, h32, l1_no (by decide) (by decide) (by decide) (by decide)], g⟩
theorem lp_sk {cX R : r_c} {f : Nat → Int32} {n a m : Nat} {an L S N A : Int32} (ha : a ≤ n) (h : lp cX f a m an L S N A R) : lp cX f (skp f n a) m an L S N A R :=
  (sk_ind (P := fun i => lp cX f i m an L S N A R) (fun i _ h32 hq => lp_bl hq h32) (n - a) a (Nat.le_refl _) ha h).1
theorem lp_let {cX R : r_c} {f : Nat → Int32} {i m : Nat} (h : lq cX f i m R) (hm : m < 40) (hb : f i = 104 ∨ f i = 109 ∨ f i = 99 ∨ f i = 111) : ∃ S A, lp cX f (i + 1) m 0 (f i) S 0 A R := by
  obtain ⟨a, C, e, g⟩ := h
  have e1 : tp_ln cX f (i + 1) = (m + 1, 0, tp_oc C m (f i)) := by rw [tp_ln, e]; unfold tp_l1; rw [if_pos hb]; unfold tp_om; rw [if_pos hm]
  have eo : tp_oc C m (f i) = r_cs (r_cs (r_cs C (9, 0) m (f i)) (11, 0) m 0) (8, 0) 4 (nI (m + 1)) := by unfold tp_oc; rw [if_pos hm]
  refine ⟨C (10, 0) m, C (12, 0) m, _, e1, fun k hk => ?_, ?_, ?_, ?_, ?_⟩
  · obtain ⟨g1, g2, g3, g4⟩ := g k hk
    rw [eo]
    refine ⟨?_, ?_, ?_, ?_⟩
    · rw [r_cs, r_cf_ne (by simp), r_cs, r_cf_ne (by simp), r_cs, r_cf_self, pk_un (by omega)]; exact g1
    · rw [r_cs, r_cf_ne (by simp), r_cs, r_cf_ne (by simp), r_cs, r_cf_ne (by simp)]; exact g2
    · rw [r_cs, r_cf_ne (by simp), r_cs, r_cf_self, pk_un (by omega), r_cs, r_cf_ne (by simp)]; exact g3
    · rw [r_cs, r_cf_ne (by simp), r_cs, r_cf_ne (by simp), r_cs, r_cf_ne (by simp)]; exact g4
  · rw [eo, r_cs, r_cf_ne (by simp), r_cs, r_cf_ne (by simp), r_cs, r_cf_self, pk_us]
  · rw [eo, r_cs, r_cf_ne (by simp), r_cs, r_cf_ne (by simp), r_cs, r_cf_ne (by simp)]
  · rw [eo, r_cs, r_cf_ne (by simp), r_cs, r_cf_self, pk_us]
  · rw [eo, r_cs, r_cf_ne (by simp), r_cs, r_cf_ne (by simp), r_cs, r_cf_ne (by simp)]
theorem lp_sgn {cX R : r_c} {f : Nat → Int32} {i m : Nat} {an L S N A : Int32} (h : lp cX f i m an L S N A R) (hb : f i = 61 ∨ f i = 60 ∨ f i = 62) : lp cX f (i + 1) m an L (f i) N A R := by
  obtain ⟨C, e, g, h9, h10, h11, h12⟩ := h
  have hl : ¬ (f i = 104 ∨ f i = 109 ∨ f i = 99 ∨ f i = 111) := by rcases hb with q | q | q <;> rw [q] <;> decide
  have hc : ¬ f i = 58 := by rcases hb with q | q | q <;> rw [q] <;> decide
  have e1 : tp_ln cX f (i + 1) = (m + 1, an, r_cs C (10, 0) m (f i)) := by
    rw [tp_ln, e]; unfold tp_l1; rw [if_neg hl, if_neg hc]; unfold tp_lw; rw [if_neg (by omega), if_pos hb]; rfl
  refine ⟨_, e1, fun k hk => ?_, ?_, ?_, ?_, ?_⟩
  · obtain ⟨g1, g2, g3, g4⟩ := g k hk
    rw [r_cs, r_cf_ne (by simp), r_cf_self, pk_un (by omega), r_cf_ne (by simp), r_cf_ne (by simp)]
    exact ⟨g1, g2, g3, g4⟩
  · rw [r_cs, r_cf_ne (by simp)]; exact h9
  · rw [r_cs, r_cf_self, pk_us]
  · rw [r_cs, r_cf_ne (by simp)]; exact h11
  · rw [r_cs, r_cf_ne (by simp)]; exact h12
theorem dig_no {b : Int32} (h : 48 ≤ b ∧ b ≤ 57) : ¬ (b = 104 ∨ b = 109 ∨ b = 99 ∨ b = 111) ∧ ¬ b = 58 ∧ ¬ (b = 61 ∨ b = 60 ∨ b = 62) := by
  refine ⟨fun q => ?_, fun q => ?_, fun q => ?_⟩
  · rcases q with q | q | q | q <;> rw [q] at h <;> exact absurd h (by decide)
  · rw [q] at h; exact absurd h (by decide)
  · rcases q with q | q | q <;> rw [q] at h <;> exact absurd h (by decide)
theorem lp_dig {cX R : r_c} {f : Nat → Int32} {i m : Nat} {L S N A : Int32} (h : lp cX f i m 0 L S N A R) (hb : 48 ≤ f i ∧ f i ≤ 57) : lp cX f (i + 1) m 0 L S (10 * N + f i - 48) A R := by
  obtain ⟨C, e, g, h9, h10, h11, h12⟩ := h
  obtain ⟨n1, n2, n3⟩ := dig_no hb
  have e1 : tp_ln cX f (i + 1) = (m + 1, 0, r_cs C (11, 0) m (C (11, 0) m * 10 + f i - 48)) := by
    rw [tp_ln, e]; unfold tp_l1; rw [if_neg n1, if_neg n2]; unfold tp_lw; rw [if_neg (by omega), if_neg n3, if_neg (fun q => q.2 rfl), if_pos hb]; rfl
  refine ⟨_, e1, fun k hk => ?_, ?_, ?_, ?_, ?_⟩
  · obtain ⟨g1, g2, g3, g4⟩ := g k hk
    rw [r_cs, r_cf_ne (by simp), r_cf_ne (by simp), r_cf_self, pk_un (by omega), r_cf_ne (by simp)]
    exact ⟨g1, g2, g3, g4⟩
  · rw [r_cs, r_cf_ne (by simp)]; exact h9
  · rw [r_cs, r_cf_ne (by simp)]; exact h10
  · rw [r_cs, r_cf_self, pk_us, h11, Int32.mul_comm]
  · rw [r_cs, r_cf_ne (by simp)]; exact h12
theorem lp_col {cX R : r_c} {f : Nat → Int32} {i m : Nat} {an L S N A : Int32} (h : lp cX f i m an L S N A R) (hb : f i = 58) : lp cX f (i + 1) m 1 L S N A R := by
  obtain ⟨C, e, g⟩ := h
  exact ⟨C, by rw [tp_ln, e, hb]; rfl, g⟩
theorem lp_air {cX R : r_c} {f : Nat → Int32} {i m : Nat} {L S N A : Int32} (h : lp cX f i m 1 L S N A R) (hb : 48 ≤ f i ∧ f i ≤ 57) : lp cX f (i + 1) m 1 L S N (f i - 48) R := by
  obtain ⟨C, e, g, h9, h10, h11, h12⟩ := h
  obtain ⟨n1, n2, n3⟩ := dig_no hb
  have e1 : tp_ln cX f (i + 1) = (m + 1, 1, r_cs C (12, 0) m (f i - 48)) := by
    rw [tp_ln, e]; unfold tp_l1; rw [if_neg n1, if_neg n2]; unfold tp_lw; rw [if_neg (by omega), if_neg n3, if_pos ⟨hb, show ¬ (1 : Int32) = 0 by decide⟩]; rfl
  refine ⟨_, e1, fun k hk => ?_, ?_, ?_, ?_, ?_⟩
  · obtain ⟨g1, g2, g3, g4⟩ := g k hk
    rw [r_cs, r_cf_ne (by simp), r_cf_ne (by simp), r_cf_ne (by simp), r_cf_self, pk_un (by omega)]
    exact ⟨g1, g2, g3, g4⟩
  · rw [r_cs, r_cf_ne (by simp)]; exact h9
  · rw [r_cs, r_cf_ne (by simp)]; exact h10
  · rw [r_cs, r_cf_ne (by simp)]; exact h11
  · rw [r_cs, r_cf_self, pk_us]
/-- a clause more is read -/
theorem lp_lq {cX R R' : r_c} {f : Nat → Int32} {i m : Nat} {an L S N A : Int32} (h : lp cX f i m an L S N A R) (h0 : R' (140, 0) = upd (R (140, 0)) m L) (h1 : R' (141, 0) = upd (R (141, 0)) m S) (h2 : R' (142, 0) = upd (R (142, 0)) m N) (h3 : R' (143, 0) = upd (R (143, 0)) m A) : lq cX f i (m + 1) R' := by
  obtain ⟨C, e, g, h9, h10, h11, h12⟩ := h
  refine ⟨an, C, e, fun k hk => ?_⟩
  by_cases q : k = m
  · subst q
    rw [h0, h1, h2, h3, pk_us, pk_us, pk_us, pk_us]
    exact ⟨h9, h10, h11, h12⟩
  · rw [h0, h1, h2, h3, pk_un q, pk_un q, pk_un q, pk_un q]
    exact g k (by omega)
theorem lq_R {cX R R' : r_c} {f : Nat → Int32} {i m : Nat} (h : lq cX f i m R) (h0 : R' (140, 0) = R (140, 0)) (h1 : R' (141, 0) = R (141, 0)) (h2 : R' (142, 0) = R (142, 0)) (h3 : R' (143, 0) = R (143, 0)) : lq cX f i m R' := by
  obtain ⟨a, C, e, g⟩ := h
  exact ⟨a, C, e, fun k hk => by rw [h0, h1, h2, h3]; exact g k hk⟩
theorem lp_R {cX R R' : r_c} {f : Nat → Int32} {i m : Nat} {an L S N A : Int32} (h : lp cX f i m an L S N A R) (h0 : R' (140, 0) = R (140, 0)) (h1 : R' (141, 0) = R (141, 0)) (h2 : R' (142, 0) = R (142, 0)) (h3 : R' (143, 0) = R (143, 0)) : lp cX f i m an L S N A R' := by
  obtain ⟨C, e, g, r⟩ := h
  exact ⟨C, e, fun k hk => by rw [h0, h1, h2, h3]; exact g k hk, r⟩
theorem lq_0 {cX R : r_c} {f : Nat → Int32} : lq cX f 0 0 R := ⟨_, _, rfl, fun k hk => by omega⟩
theorem tp_ln_4 (c : r_c) (f : Nat → Int32) : ∀ n, (tp_ln c f n).2.2 (8, 0) 4 = nI (tp_ln c f n).1
  | 0 => by show r_cs c (8, 0) 4 0 (8, 0) 4 = _; rw [r_cs, r_cf_self, pk_us]; rfl
  | n + 1 => by
    have ih := tp_ln_4 c f n
    rw [tp_ln]
    unfold tp_l1
    split
    · exact tp_oc_4 ih
    · split
      · exact ih
      · show tp_lw _ _ _ _ (8, 0) 4 = _
        rw [tp_lw_ne (by simp) (by simp) (by simp)]
        exact ih
/-- what the states say of a byte -/
theorem af_let {s b : Int32} (hs : s = 0 ∨ s = 11) (h32 : b ≠ 32) : t_af s b = if b = 104 ∨ b = 109 ∨ b = 99 ∨ b = 111 then 1 else 12 := by
  unfold t_af; rw [if_neg h32, if_pos hs]
theorem af_1 {b : Int32} (h32 : b ≠ 32) : t_af 1 b = if b = 61 ∨ b = 60 ∨ b = 62 then 2 else 12 := by
  unfold t_af; rw [if_neg h32, if_neg (by decide), if_pos rfl]
theorem af_2 {b : Int32} (h32 : b ≠ 32) : t_af 2 b = if 48 ≤ b ∧ b ≤ 57 then 3 else 12 := by
  unfold t_af; rw [if_neg h32, if_neg (by decide), if_neg (by decide), if_pos rfl]
theorem af_78 {s b : Int32} (hs : s = 7 ∨ s = 8) (h32 : b ≠ 32) : t_af s b = if b = 58 then 9 else 12 := by
  unfold t_af; rw [if_neg h32, if_neg (by rcases hs with q | q <;> rw [q] <;> decide), if_neg (by rcases hs with q | q <;> rw [q] <;> decide), if_neg (by rcases hs with q | q <;> rw [q] <;> decide), if_pos hs]
theorem af_9 {b : Int32} (h32 : b ≠ 32) : t_af 9 b = if 48 ≤ b ∧ b ≤ 57 then 10 else 12 := by
  unfold t_af; rw [if_neg h32, if_neg (by decide), if_neg (by decide), if_neg (by decide), if_neg (by decide), if_pos rfl]
theorem af_10 {b : Int32} (h32 : b ≠ 32) : t_af 10 b = if b = 59 then 11 else 12 := by
  unfold t_af; rw [if_neg h32, if_neg (by decide), if_neg (by decide), if_neg (by decide), if_neg (by decide), if_neg (by decide), if_pos rfl]
theorem af_d {s b : Int32} (hs : s = 3 ∨ s = 4 ∨ s = 5 ∨ s = 6) (h32 : b ≠ 32) : t_af s b = if b = 58 then 9 else if 48 ≤ b ∧ b ≤ 57 then s + 1 else 12 := by
  unfold t_af
  rw [if_neg h32]
  rcases hs with q | q | q | q <;> subst q <;> rw [if_neg (by decide), if_neg (by decide), if_neg (by decide), if_neg (by decide), if_neg (by decide), if_neg (by decide)] <;> rfl
theorem af_bl {s : Int32} (hs : s = 3 ∨ s = 4 ∨ s = 5 ∨ s = 6 ∨ s = 7) : t_af s 32 = 8 := by
  rcases hs with q | q | q | q | q <;> subst q <;> rfl
theorem dig_32 {b : Int32} (h : 48 ≤ b ∧ b ≤ 57) : b ≠ 32 := fun q => by rw [q] at h; exact absurd h (by decide)
/-- behind a number's k digits -/
theorem dg_st {f : Nat → Int32} {i k : Nat} (h : tD f i (nI (2 + k))) (hk : k < 5) (hb : 48 ≤ f i ∧ f i ≤ 57) : tD f (i + 1) (nI (2 + (k + 1))) := by
  refine tD_st h ?_ ?_
  · rcases (show k = 0 ∨ k = 1 ∨ k = 2 ∨ k = 3 ∨ k = 4 by omega) with q | q | q | q | q <;> subst q
    · show t_af 2 (f i) = 3; rw [af_2 (dig_32 hb), if_pos hb]
    · show t_af 3 (f i) = 4; rw [af_d (by decide) (dig_32 hb), if_neg (dig_no hb).2.1, if_pos hb]; rfl
    · show t_af 4 (f i) = 5; rw [af_d (by decide) (dig_32 hb), if_neg (dig_no hb).2.1, if_pos hb]; rfl
    · show t_af 5 (f i) = 6; rw [af_d (by decide) (dig_32 hb), if_neg (dig_no hb).2.1, if_pos hb]; rfl
    · show t_af 6 (f i) = 7; rw [af_d (by decide) (dig_32 hb), if_neg (dig_no hb).2.1, if_pos hb]; rfl
  · rcases (show k = 0 ∨ k = 1 ∨ k = 2 ∨ k = 3 ∨ k = 4 by omega) with q | q | q | q | q <;> subst q <;> decide
/-- behind the number and blanks: a colon, or a break, or the end -/
theorem dg_col {f : Nat → Int32} {i k n : Nat} (h : tD f i (nI (2 + k))) (hk1 : 1 ≤ k) (hk5 : k ≤ 5) (hi : i ≤ n) (hnd : ¬ (i < n ∧ 48 ≤ f i ∧ f i ≤ 57)) : (tv f n (skp f n i) = 58 → tD f (skp f n i + 1) 9) ∧ (tv f n (skp f n i) ≠ 58 → tp_ff f n = nI (skp f n i)) := by
  have hg := skp_ge (f := f) hi
  -- the state there
  have hst : (skp f n i = i ∧ ¬ (i < n ∧ f i = 32)) ∨ tD f (skp f n i) 8 := by
    by_cases q : i < n ∧ f i = 32
    · refine Or.inr ?_
      rw [skp_st q]
      refine skp_D (by omega) (tD_st h ?_ (by decide)) (by decide) (by decide)
      rw [q.2]
      exact af_bl (by rcases (show k = 1 ∨ k = 2 ∨ k = 3 ∨ k = 4 ∨ k = 5 by omega) with q | q | q | q | q <;> subst q <;> decide)
    · exact Or.inl ⟨skp_no q, q⟩
  have h32 : skp f n i < n → f (skp f n i) ≠ 32 := fun a b => hg.2.2 ⟨a, b⟩
  constructor
  · intro hc
    have hlt : skp f n i < n := by
      by_cases q : skp f n i < n
      · exact q
      · unfold tv at hc; rw [if_neg q] at hc; exact absurd hc (by decide)
    have hc : f (skp f n i) = 58 := by unfold tv at hc; rw [if_pos hlt] at hc; exact hc
    rcases hst with ⟨e, _⟩ | h8
    · rw [e] at hc ⊢
      refine tD_st h ?_ (by decide)
      rw [hc]
      rcases (show k = 1 ∨ k = 2 ∨ k = 3 ∨ k = 4 ∨ k = 5 by omega) with q | q | q | q | q <;> subst q <;> rfl
    · exact tD_st h8 (by rw [hc]; rfl) (by decide)
  · intro hc
    by_cases hlt : skp f n i < n
    · have hc : f (skp f n i) ≠ 58 := by unfold tv at hc; rw [if_pos hlt] at hc; exact hc
      rcases hst with ⟨e, _⟩ | h8
      · rw [e] at hc hlt ⊢
        have h32' : f i ≠ 32 := by rw [e] at h32; exact h32 hlt
        have hd : ¬ (48 ≤ f i ∧ f i ≤ 57) := fun q => hnd ⟨hlt, q⟩
        refine tD_brk h ?_ hlt
        rcases (show k = 1 ∨ k = 2 ∨ k = 3 ∨ k = 4 ∨ k = 5 by omega) with q | q | q | q | q <;> subst q
        · show t_af 3 _ = _; rw [af_d (by decide) h32', if_neg hc, if_neg hd]
        · show t_af 4 _ = _; rw [af_d (by decide) h32', if_neg hc, if_neg hd]
        · show t_af 5 _ = _; rw [af_d (by decide) h32', if_neg hc, if_neg hd]
        · show t_af 6 _ = _; rw [af_d (by decide) h32', if_neg hc, if_neg hd]
        · show t_af 7 _ = _; rw [af_78 (by decide) h32', if_neg hc]
      · exact tD_brk h8 (by rw [af_78 (by decide) (h32 hlt), if_neg hc]) hlt
    · have en : skp f n i = n := by omega
      rcases hst with ⟨e, _⟩ | h8
      · rw [e] at en ⊢
        rw [en] at h ⊢
        refine tD_end h ?_ ?_ <;> rcases (show k = 1 ∨ k = 2 ∨ k = 3 ∨ k = 4 ∨ k = 5 by omega) with q | q | q | q | q <;> subst q <;> decide
      · rw [en] at h8 ⊢
        exact tD_end h8 (by decide) (by decide)
/-- a state that wants one kind of byte -/
theorem tw_no {f : Nat → Int32} {n a : Nat} {s : Int32} (h : tD f a s) (ha : a ≤ n) (h0 : s ≠ 0 ∨ a < n) (h10 : s ≠ 10) (hb : a < n → t_af s (f a) = 12) : tp_ff f n = nI a := by
  by_cases q : a < n
  · exact tD_brk h (hb q) q
  · have e : a = n := by omega
    rw [e] at h ⊢
    exact tD_end h (h0.resolve_right q) h10
