/-! the class: orders, the matching as its methods make it (pictures of the rows alone) -/
def OC (c : r_c) (F T P K Q : Nat → Int32) : r_c := r_cf (r_cf (r_cf (r_cf (r_cf c (38, 0) F) (40, 0) T) (41, 0) P) (42, 0) K) (43, 0) Q
section OCs
variable {c : r_c} {F T P K Q f : Nat → Int32} {k : Nat} {v : Int32}
theorem oc_ne {t : z_T} (h1 : t ≠ (38, 0)) (h2 : t ≠ (40, 0)) (h3 : t ≠ (41, 0)) (h4 : t ≠ (42, 0)) (h5 : t ≠ (43, 0)) : OC c F T P K Q t = c t := by
  unfold OC; rw [r_cf_ne h5, r_cf_ne h4, r_cf_ne h3, r_cf_ne h2, r_cf_ne h1]
theorem oc_T : OC c F T P K Q (40, 0) = T := by unfold OC; rw [r_cf_ne (by simp), r_cf_ne (by simp), r_cf_ne (by simp), r_cf_self]
theorem oc_F : OC c F T P K Q (38, 0) = F := by unfold OC; rw [r_cf_ne (by simp), r_cf_ne (by simp), r_cf_ne (by simp), r_cf_ne (by simp), r_cf_self]
theorem oc_P : OC c F T P K Q (41, 0) = P := by unfold OC; rw [r_cf_ne (by simp), r_cf_ne (by simp), r_cf_self]
theorem oc_K : OC c F T P K Q (42, 0) = K := by unfold OC; rw [r_cf_ne (by simp), r_cf_self]
theorem oc_Q : OC c F T P K Q (43, 0) = Q := by unfold OC; rw [r_cf_self]
theorem oc_sz : OC c F T P K Q (35, 0) = c (35, 0) := oc_ne (by simp) (by simp) (by simp) (by simp) (by simp)
theorem oc_cm : OC c F T P K Q (39, 0) = c (39, 0) := oc_ne (by simp) (by simp) (by simp) (by simp) (by simp)
theorem oc_fQ : r_cf (OC c F T P K Q) (43, 0) f = OC c F T P K f := by unfold OC; rw [r_cf_cf]
theorem oc_fK : r_cf (OC c F T P K Q) (42, 0) f = OC c F T P f Q := by unfold OC; rw [r_cf_comm (t := (43, 0)) rfl, r_cf_cf]
theorem oc_fP : r_cf (OC c F T P K Q) (41, 0) f = OC c F T f K Q := by unfold OC; rw [r_cf_comm (t := (43, 0)) rfl, r_cf_comm (t := (42, 0)) rfl, r_cf_cf]
theorem oc_fT : r_cf (OC c F T P K Q) (40, 0) f = OC c F f P K Q := by unfold OC; rw [r_cf_comm (t := (43, 0)) rfl, r_cf_comm (t := (42, 0)) rfl, r_cf_comm (t := (41, 0)) rfl, r_cf_cf]
theorem oc_fF : r_cf (OC c F T P K Q) (38, 0) f = OC c f T P K Q := by unfold OC; rw [r_cf_comm (t := (43, 0)) rfl, r_cf_comm (t := (42, 0)) rfl, r_cf_comm (t := (41, 0)) rfl, r_cf_comm (t := (40, 0)) rfl, r_cf_cf]
theorem oc_sF : r_cs (OC c F T P K Q) (38, 0) k v = OC c (upd F k v) T P K Q := by rw [r_cs, oc_fF, oc_F]
theorem oc_sT : r_cs (OC c F T P K Q) (40, 0) k v = OC c F (upd T k v) P K Q := by rw [r_cs, oc_fT, oc_T]
theorem oc_sP : r_cs (OC c F T P K Q) (41, 0) k v = OC c F T (upd P k v) K Q := by rw [r_cs, oc_fP, oc_P]
theorem oc_sK : r_cs (OC c F T P K Q) (42, 0) k v = OC c F T P (upd K k v) Q := by rw [r_cs, oc_fK, oc_K]
theorem oc_sQ : r_cs (OC c F T P K Q) (43, 0) k v = OC c F T P K (upd Q k v) := by rw [r_cs, oc_fQ, oc_Q]
theorem oc_id : OC c (c (38, 0)) (c (40, 0)) (c (41, 0)) (c (42, 0)) (c (43, 0)) = c := by
  unfold OC; rw [r_cf_same, r_cf_same, r_cf_same, r_cf_same, r_cf_same]
end OCs
/-- handing bars over along a path -/
def ho (K : Nat → Int32) : Nat → (Nat → Int32) → (Nat → Int32) → Int32 → (Nat → Int32) × (Nat → Int32)
  | 0, F, T, _ => (F, T)
  | n + 1, F, T, y => if y < 0 ∨ nI 100 ≤ y then (F, T) else if K y.toNatClampNeg < 0 ∨ nI 8 ≤ K y.toNatClampNeg then (F, T) else ho K n (upd F (K y.toNatClampNeg).toNatClampNeg y) (upd T y.toNatClampNeg (K y.toNatClampNeg)) (F (K y.toNatClampNeg).toNatClampNeg)
theorem ho_stop {K F T : Nat → Int32} {y : Int32} (h : y < 0 ∨ nI 100 ≤ y) : ∀ n, ho K n F T y = (F, T)
  | 0 => rfl
  | n + 1 => by rw [ho, if_pos h]
theorem ho_brk {K F T : Nat → Int32} {y : Int32} (h : K y.toNatClampNeg < 0 ∨ nI 8 ≤ K y.toNatClampNeg) : ∀ n, ho K n F T y = (F, T)
  | 0 => rfl
  | n + 1 => by
    rw [ho, if_pos h]
    split <;> rfl
/-- one search: rows of the search, its queue's length, the free bar -/
abbrev fbS : Type := (Nat → Int32) × ((Nat → Int32) × (Nat × Option Nat))
def fb1 (cm P T : Nat → Int32) (o : Int32) (y : Nat) (s : fbS) : fbS :=
  if (cm y >>> (o &&& 31)) &&& 1 = 0 ∨ ¬ P y = 0 ∨ ¬ s.1 y = -1 then s
  else if T y = -1 then (upd s.1 y o, s.2.1, s.2.2.1, some y)
  else if s.2.2.1 < 8 then (upd s.1 y o, upd s.2.1 s.2.2.1 (T y), s.2.2.1 + 1, none) else (upd s.1 y o, s.2.1, s.2.2.1, none)
def fbi (cm P T : Nat → Int32) (o : Int32) (s : fbS) : Nat → fbS
  | 0 => s
  | y + 1 => if (fbi cm P T o s y).2.2.2 = none then fb1 cm P T o y (fbi cm P T o s y) else fbi cm P T o s y
def fbo (cm P T : Nat → Int32) (m : Nat) (s : fbS) : Nat → fbS
  | 0 => s
  | h + 1 => if (fbo cm P T m s h).2.2.2 = none ∧ h < (fbo cm P T m s h).2.2.1 then fbi cm P T ((fbo cm P T m s h).2.1 h) (fbo cm P T m s h) m else fbo cm P T m s h
theorem fbi_stay {cm P T : Nat → Int32} {o : Int32} {s : fbS} {i : Nat} (h : ¬ (fbi cm P T o s i).2.2.2 = none) : ∀ k, fbi cm P T o s (i + k) = fbi cm P T o s i
  | 0 => rfl
  | k + 1 => by
    have ih := fbi_stay h k
    show (if (fbi cm P T o s (i + k)).2.2.2 = none then _ else fbi cm P T o s (i + k)) = _
    rw [ih, if_neg h]
theorem fbo_stay {cm P T : Nat → Int32} {m : Nat} {s : fbS} {i : Nat} (h : ¬ ((fbo cm P T m s i).2.2.2 = none ∧ i < (fbo cm P T m s i).2.2.1)) : ∀ k, fbo cm P T m s (i + k) = fbo cm P T m s i
  | 0 => rfl
  | k + 1 => by
    have ih := fbo_stay h k
    show (if (fbo cm P T m s (i + k)).2.2.2 = none ∧ i + k < (fbo cm P T m s (i + k)).2.2.1 then _ else fbo cm P T m s (i + k)) = _
    rw [ih]
    by_cases q : (fbo cm P T m s i).2.2.2 = none ∧ i + k < (fbo cm P T m s i).2.2.1
    · exact absurd ⟨q.1, by omega⟩ h
    · rw [if_neg q]
def fbZ (cm P T : Nat → Int32) (m : Nat) (j : Int32) : fbS := fbo cm P T m (fun _ => -1, upd (fun _ => 0) 0 j, 1, none) 8
def fbr (cm P : Nat → Int32) (m : Nat) (F T : Nat → Int32) (j : Int32) : Int32 × ((Nat → Int32) × (Nat → Int32)) :=
  match (fbZ cm P T m j).2.2.2 with
  | none => (0, F, T)
  | some y => (1, ho (fbZ cm P T m j).1 8 F T (nI y))
theorem fbr_none {cm P : Nat → Int32} {m : Nat} {F T : Nat → Int32} {j : Int32} (h : (fbZ cm P T m j).2.2.2 = none) : fbr cm P m F T j = (0, F, T) := by unfold fbr; rw [h]
theorem fbr_some {cm P : Nat → Int32} {m : Nat} {F T : Nat → Int32} {j : Int32} {y : Nat} (h : (fbZ cm P T m j).2.2.2 = some y) : fbr cm P m F T j = (1, ho (fbZ cm P T m j).1 8 F T (nI y)) := by unfold fbr; rw [h]
theorem fbr_01 (cm P : Nat → Int32) (m : Nat) (F T : Nat → Int32) (j : Int32) : (fbr cm P m F T j).1 = 0 ∧ (fbr cm P m F T j).2 = (F, T) ∨ (fbr cm P m F T j).1 = 1 := by
  cases h : (fbZ cm P T m j).2.2.2 with
  | none => rw [fbr_none h]; exact Or.inl ⟨rfl, rfl⟩
  | some y => rw [fbr_some h]; exact Or.inr rfl
/-- the later orders, one after the other -/
def fba (cm P : Nat → Int32) (m : Nat) (F T : Nat → Int32) : Nat → Nat → Int32 × ((Nat → Int32) × (Nat → Int32))
  | 0, _ => (0, F, T)
  | k + 1, x => if F x = -1 ∧ (fbr cm P m F T (nI x)).1 = 1 then fbr cm P m F T (nI x) else fba cm P m F T k (x + 1)
theorem fba_01 (cm P : Nat → Int32) (m : Nat) (F T : Nat → Int32) : ∀ k x, (fba cm P m F T k x).1 = 0 ∧ (fba cm P m F T k x).2 = (F, T) ∨ (fba cm P m F T k x).1 = 1
  | 0, _ => Or.inl ⟨rfl, rfl⟩
  | k + 1, x => by
    rw [fba]
    split
    · rename_i h; exact Or.inr h.2
    · exact fba_01 cm P m F T k (x + 1)
/-- moving an order to a bar -/
abbrev mvS : Type := (Nat → Int32) × ((Nat → Int32) × (Nat → Int32))
def mvT (F T : Nat → Int32) (i b : Nat) : Nat → Int32 := upd (if ix_ok (F i) 100 then upd T (F i).toNatClampNeg (-1) else T) b (nI i)
def mvF (F T : Nat → Int32) (i b : Nat) : Nat → Int32 := upd (if ix_ok (T b) 8 then upd F (T b).toNatClampNeg (-1) else F) i (nI b)
def mvr (cm P : Nat → Int32) (m no : Nat) (F T : Nat → Int32) (i b : Nat) : Int32 × ((Nat → Int32) × (Nat → Int32)) := fba cm (upd P b 1) m (mvF F T i b) (mvT F T i b) (no - (i + 1)) (i + 1)
def mvt (cm P : Nat → Int32) (m no : Nat) (F T : Nat → Int32) (i b : Nat) : Int32 × mvS :=
  if ¬ (ix_ok (F i) 100 ∧ ix_ok (T b) 8) then (1, mvF F T i b, mvT F T i b, upd P b 1)
  else if (mvr cm P m no F T i b).1 = 1 then (1, (mvr cm P m no F T i b).2.1, (mvr cm P m no F T i b).2.2, upd P b 1)
  else (0, upd (upd (mvF F T i b) i (F i)) (T b).toNatClampNeg (nI b), upd (upd (mvT F T i b) (F i).toNatClampNeg (nI i)) b (T b), upd (upd P b 1) b 0)
theorem mvt_01 (cm P : Nat → Int32) (m no : Nat) (F T : Nat → Int32) (i b : Nat) : (mvt cm P m no F T i b).1 = 0 ∨ (mvt cm P m no F T i b).1 = 1 := by
  unfold mvt
  split
  · exact Or.inr rfl
  · split
    · exact Or.inr rfl
    · exact Or.inl rfl
/-- the lowest bar for an order -/
def pll (cm : Nat → Int32) (m no i : Nat) : Nat → Nat → (Nat → Int32) → (Nat → Int32) → (Nat → Int32) → mvS
  | 0, _, F, T, P => (F, T, P)
  | k + 1, y, F, T, P =>
    if ¬ (cm y >>> (nI i &&& 31)) &&& 1 = 0 ∧ P y = 0 then
      if F i = nI y then (F, T, upd P y 1)
      else if (mvt cm P m no F T i y).1 = 1 then ((mvt cm P m no F T i y).2.1, (mvt cm P m no F T i y).2.2.1, upd (mvt cm P m no F T i y).2.2.2 y 1)
      else pll cm m no i k (y + 1) (mvt cm P m no F T i y).2.1 (mvt cm P m no F T i y).2.2.1 (mvt cm P m no F T i y).2.2.2
    else pll cm m no i k (y + 1) F T P
def ph1 (cm P : Nat → Int32) (m : Nat) (F T : Nat → Int32) : Nat → (Nat → Int32) × (Nat → Int32)
  | 0 => (F, T)
  | k + 1 => (fbr cm P m (ph1 cm P m F T k).1 (ph1 cm P m F T k).2 (nI k)).2
def ph2 (cm : Nat → Int32) (m no : Nat) (F T P : Nat → Int32) : Nat → mvS
  | 0 => (F, T, P)
  | k + 1 => pll cm m no k m 0 (ph2 cm m no F T P k).1 (ph2 cm m no F T P k).2.1 (ph2 cm m no F T P k).2.2
def mtP (m : Nat) (P : Nat → Int32) (i : Nat) : Nat → Int32 := fun j => if j < i then 0 else P j
def mtc (cm P : Nat → Int32) (m no : Nat) : mvS := ph2 cm m no (ph1 cm (mtP m P m) m (fun _ => -1) (fun _ => -1) no).1 (ph1 cm (mtP m P m) m (fun _ => -1) (fun _ => -1) no).2 (mtP m P m) no
set_option maxHeartbeats 4000000 in
set_option maxRecDepth 100000 in
theorem m_X5_handOver (G : z_G) {nb na np g : Nat} {w0 w : z_w} {c : r_c} {l : r_l} {r : r_r} {F T P K Q : Nat → Int32} (hR : r_p dX (TX nb na np g) w0 (OC c F T P K Q) l r w) (x : Int32) : z_M G yX5_handOver cX5_handOver 6 none 1 (0) (0) [vr (35, 0), vi x] w (fun q w1 => q = none ∧ r_p dX (TX nb na np g) w0 (OC c (ho K 8 F T x).1 (ho K 8 F T x).2 P K Q) (l) (r) w1) := by
  refine z_met ym_X5_handOver (by decide) ⟨Nat.le_of_ble_eq_true rfl, Nat.le_of_ble_eq_true rfl⟩ (fun X hG hn hmc hms hin h hr => ?_)
  have he := hr.2.2.2.2.2.1
  refine z_iload_n h dX5_handOver_0 rfl ?_
  refine z_istore_n h dX5_handOver_1 (by rw [hn]; decide) ?_
  refine z_iconst (v := 0) h dX5_handOver_2 (by decide) ?_
  refine z_istore_n h dX5_handOver_3 (by rw [hn]; decide) ?_
  have loop_4 : ∀ (n_ : Nat) (s : Nat) (y : Int32) (F1 T1 : Nat → Int32) (w : z_w), r_p dX (TX nb na np g) w0 (OC c F1 T1 P K Q) l r w → ho K (8 - s) F1 T1 y = ho K 8 F T x → s ≤ 8 → 9 ≤ s + n_ → z_V X 0 0 w 4 [(0, vr (35, 0)), (1, vi x), (2, vi (y)), (3, vi (nI s))] [] := by
    intro n_
    induction n_ with
    | zero => intros; omega
    | succ n_ ih_4 =>
      intro s y F1 T1 w hR hH hs hN
      refine z_iload_n h dX5_handOver_4 rfl ?_
      refine z_bipush (v := 8) h dX5_handOver_5 (by decide) ?_
      refine z_icmp_ge h dX5_handOver_7 75 (by decide) (fun c_1 => ?_) (fun c_1 => ?_)
      · skip
        have e1 : 8 ≤ s := (nI_leI (a := 8) (by omega) (by omega)).mp c_1
        have e2 : s = 8 := by omega
        subst e2
        exact z_vret h dX5_handOver_75 hr (⟨rfl, by rw [← hH]; exact hR⟩)
      · skip
        have e1 : ¬ 8 ≤ s := fun q => c_1 ((nI_leI (a := 8) (by omega) (by omega)).mpr q)
        refine z_iload_n h dX5_handOver_10 rfl ?_
        refine z_if_lt h dX5_handOver_11 75 (by decide) (fun c_2 => ?_) (fun c_2 => ?_)
        · skip
          exact z_vret h dX5_handOver_75 hr (⟨rfl, by rw [← hH, ho_stop (Or.inl c_2)]; exact hR⟩)
        · skip
          refine z_iload_n h dX5_handOver_14 rfl ?_
          refine z_bipush (v := 100) h dX5_handOver_15 (by decide) ?_
          refine z_icmp_ge h dX5_handOver_17 75 (by decide) (fun c_3 => ?_) (fun c_3 => ?_)
          · skip
            exact z_vret h dX5_handOver_75 hr (⟨rfl, by rw [← hH, ho_stop (Or.inr c_3)]; exact hR⟩)
          · skip
            refine z_aload_n h dX5_handOver_20 rfl ?_
            refine y_getr h dX5_handOver_21 hR flX5_31 (by first | assumption | exact Nat.le_of_ble_eq_true rfl) (by first | rfl | assumption | exact tx_2 (by first | assumption | omega) | exact tx_18 (by first | assumption | omega) | exact tx_19 (by first | assumption | omega) | exact tx_20 (by first | assumption | omega) | exact tx_27 (by first | assumption | omega) | exact tx_28 (by first | assumption | omega) | exact tx_30 (by first | assumption | omega) | exact tx_31 (by first | assumption | omega) | exact tx_32 (by first | assumption | omega) | exact tx_33 (by first | assumption | omega)) (by rfl) ?_
            refine z_iload_n h dX5_handOver_24 rfl ?_
            refine y_iald h dX5_handOver_25 hR (by first | assumption | exact Nat.le_of_ble_eq_true rfl) (by first | rfl | assumption | exact tx_2 (by first | assumption | omega) | exact tx_18 (by first | assumption | omega) | exact tx_19 (by first | assumption | omega) | exact tx_20 (by first | assumption | omega) | exact tx_27 (by first | assumption | omega) | exact tx_28 (by first | assumption | omega) | exact tx_30 (by first | assumption | omega) | exact tx_31 (by first | assumption | omega) | exact tx_32 (by first | assumption | omega) | exact tx_33 (by first | assumption | omega)) (z_ixc (n := 100) c_2 c_3 (by decide)) ?_
            rw [oc_K]
            refine z_istore h dX5_handOver_26 (by rw [hn]; decide) ?_
            refine z_iload h dX5_handOver_28 rfl ?_
            refine z_if_lt h dX5_handOver_30 40 (by decide) (fun c_4 => ?_) (fun c_4 => ?_)
            · skip
              exact z_vret h dX5_handOver_40 hr (⟨rfl, by rw [← hH, ho_brk (Or.inl c_4)]; exact hR⟩)
            · skip
              refine z_iload h dX5_handOver_33 rfl ?_
              refine z_bipush (v := 8) h dX5_handOver_35 (by decide) ?_
              refine z_icmp_lt h dX5_handOver_37 41 (by decide) (fun c_5 => ?_) (fun c_5 => ?_)
              · skip
                have e5 : ¬ nI 8 ≤ K y.toNatClampNeg := fun q => by
                  rw [z_le] at q; rw [z_lt] at c_5; exact absurd c_5 (by have : (nI 8).toInt = (8 : Int32).toInt := rfl; omega)
                refine z_aload_n h dX5_handOver_41 rfl ?_
                refine y_getr h dX5_handOver_42 hR flX5_18 (by first | assumption | exact Nat.le_of_ble_eq_true rfl) (by first | rfl | assumption | exact tx_2 (by first | assumption | omega) | exact tx_18 (by first | assumption | omega) | exact tx_19 (by first | assumption | omega) | exact tx_20 (by first | assumption | omega) | exact tx_27 (by first | assumption | omega) | exact tx_28 (by first | assumption | omega) | exact tx_30 (by first | assumption | omega) | exact tx_31 (by first | assumption | omega) | exact tx_32 (by first | assumption | omega) | exact tx_33 (by first | assumption | omega)) (by rfl) ?_
                refine z_iload h dX5_handOver_45 rfl ?_
                refine y_iald h dX5_handOver_47 hR (by first | assumption | exact Nat.le_of_ble_eq_true rfl) (by first | rfl | assumption | exact tx_2 (by first | assumption | omega) | exact tx_18 (by first | assumption | omega) | exact tx_19 (by first | assumption | omega) | exact tx_20 (by first | assumption | omega) | exact tx_27 (by first | assumption | omega) | exact tx_28 (by first | assumption | omega) | exact tx_30 (by first | assumption | omega) | exact tx_31 (by first | assumption | omega) | exact tx_32 (by first | assumption | omega) | exact tx_33 (by first | assumption | omega)) (z_ixc (n := 8) c_4 e5 (by decide)) ?_
                rw [oc_F]
                refine z_istore h dX5_handOver_48 (by rw [hn]; decide) ?_
                refine z_aload_n h dX5_handOver_50 rfl ?_
                refine y_getr h dX5_handOver_51 hR flX5_18 (by first | assumption | exact Nat.le_of_ble_eq_true rfl) (by first | rfl | assumption | exact tx_2 (by first | assumption | omega) | exact tx_18 (by first | assumption | omega) | exact tx_19 (by first | assumption | omega) | exact tx_20 (by first | assumption | omega) | exact tx_27 (by first | assumption | omega) | exact tx_28 (by first | assumption | omega) | exact tx_30 (by first | assumption | omega) | exact tx_31 (by first | assumption | omega) | exact tx_32 (by first | assumption | omega) | exact tx_33 (by first | assumption | omega)) (by rfl) ?_
                refine z_iload h dX5_handOver_54 rfl ?_
                refine z_iload_n h dX5_handOver_56 rfl ?_
                refine y_iast h dX5_handOver_57 hR (by first | assumption | exact Nat.le_of_ble_eq_true rfl) (by first | rfl | assumption | exact tx_2 (by first | assumption | omega) | exact tx_18 (by first | assumption | omega) | exact tx_19 (by first | assumption | omega) | exact tx_20 (by first | assumption | omega) | exact tx_27 (by first | assumption | omega) | exact tx_28 (by first | assumption | omega) | exact tx_30 (by first | assumption | omega) | exact tx_31 (by first | assumption | omega) | exact tx_32 (by first | assumption | omega) | exact tx_33 (by first | assumption | omega)) (z_ixc (n := 8) c_4 e5 (by decide)) (fun w hR => ?_)
                rw [oc_sF] at hR
                refine z_aload_n h dX5_handOver_58 rfl ?_
                refine y_getr h dX5_handOver_59 hR flX5_24 (by first | assumption | exact Nat.le_of_ble_eq_true rfl) (by first | rfl | assumption | exact tx_2 (by first | assumption | omega) | exact tx_18 (by first | assumption | omega) | exact tx_19 (by first | assumption | omega) | exact tx_20 (by first | assumption | omega) | exact tx_27 (by first | assumption | omega) | exact tx_28 (by first | assumption | omega) | exact tx_30 (by first | assumption | omega) | exact tx_31 (by first | assumption | omega) | exact tx_32 (by first | assumption | omega) | exact tx_33 (by first | assumption | omega)) (by rfl) ?_
                refine z_iload_n h dX5_handOver_62 rfl ?_
                refine z_iload h dX5_handOver_63 rfl ?_
                refine y_iast h dX5_handOver_65 hR (by first | assumption | exact Nat.le_of_ble_eq_true rfl) (by first | rfl | assumption | exact tx_2 (by first | assumption | omega) | exact tx_18 (by first | assumption | omega) | exact tx_19 (by first | assumption | omega) | exact tx_20 (by first | assumption | omega) | exact tx_27 (by first | assumption | omega) | exact tx_28 (by first | assumption | omega) | exact tx_30 (by first | assumption | omega) | exact tx_31 (by first | assumption | omega) | exact tx_32 (by first | assumption | omega) | exact tx_33 (by first | assumption | omega)) (z_ixc (n := 100) c_2 c_3 (by decide)) (fun w hR => ?_)
                rw [oc_sT] at hR
                refine z_iload h dX5_handOver_66 rfl ?_
                refine z_istore_n h dX5_handOver_68 (by rw [hn]; decide) ?_
                refine z_iinc (v := 1) h dX5_handOver_69 rfl (by decide) (by rw [hn]; decide) ?_
                refine z_goto h dX5_handOver_72 4 (by decide) ?_
                refine z_loc [(0, vr (35, 0)), (1, vi x), (2, vi (F1 (K y.toNatClampNeg).toNatClampNeg)), (3, vi (nI (s + 1)))] ⟨rfl, rfl, rfl, congrArg (fun z => some (vi z)) (z_up s), trivial⟩ ?_
                exact ih_4 (s + 1) _ _ _ w hR (by rw [← hH, show 8 - s = (8 - (s + 1)) + 1 by omega, ho, if_neg (fun q => q.elim c_2 c_3), if_neg (fun q => q.elim c_4 e5)]) (by omega) (by omega)
              · skip
                have e5 : nI 8 ≤ K y.toNatClampNeg := by
                  rw [z_le]; rw [z_lt] at c_5; have : (nI 8).toInt = (8 : Int32).toInt := rfl; omega
                exact z_vret h dX5_handOver_40 hr (⟨rfl, by rw [← hH, ho_brk (Or.inr e5)]; exact hR⟩)
  exact z_loc [(0, vr (35, 0)), (1, vi x), (2, vi (x)), (3, vi (nI 0))] ⟨rfl, rfl, rfl, rfl, trivial⟩ (loop_4 9 0 x F T w hR rfl (by omega) (by omega))
set_option maxHeartbeats 4000000 in
set_option maxRecDepth 100000 in
theorem m_X5_findBar (G : z_G) {nb na np g : Nat} {w0 w : z_w} {c : r_c} {l : r_l} {r : r_r} {F T P K Q : Nat → Int32} (hR : r_p dX (TX nb na np g) w0 (OC c F T P K Q) l r w) (hc9 : c (35, 0) 9 = nI na) (hna : na ≤ 100) (j : Int32) : z_M G yX5_findBar cX5_findBar 6 (some .boolean) 2 (0) (0) [vr (35, 0), vi j] w (fun q w1 => q = some (vi (fbr (c (39, 0)) P na F T j).1) ∧ ∃ K1 Q1, r_p dX (TX nb na np g) w0 (OC c (fbr (c (39, 0)) P na F T j).2.1 (fbr (c (39, 0)) P na F T j).2.2 P K1 Q1) (l) (r) w1) := by
  refine z_met ym_X5_findBar (by decide) ⟨Nat.le_of_ble_eq_true rfl, Nat.le_of_ble_eq_true rfl⟩ (fun X hG hn hmc hms hin h hr => ?_)
  have he := hr.2.2.2.2.2.1
  refine z_aload_n h dX5_findBar_0 rfl ?_
  refine y_getr h dX5_findBar_1 hR flX5_31 (by first | assumption | exact Nat.le_of_ble_eq_true rfl) (by first | rfl | assumption | exact tx_2 (by first | assumption | omega) | exact tx_18 (by first | assumption | omega) | exact tx_19 (by first | assumption | omega) | exact tx_20 (by first | assumption | omega) | exact tx_27 (by first | assumption | omega) | exact tx_28 (by first | assumption | omega) | exact tx_30 (by first | assumption | omega) | exact tx_31 (by first | assumption | omega) | exact tx_32 (by first | assumption | omega) | exact tx_33 (by first | assumption | omega)) (by rfl) ?_
  refine z_iconst (v := -1) h dX5_findBar_4 (by decide) ?_
  refine z_callS h dX5_findBar_5 (fun _ _ q => z_okv_no he q) (fun _ _ _ t q => absurd q (he t)) (f_fill hR (-1) (Nat.le_of_ble_eq_true rfl) rfl (by decide)) ym_J7_fill_53178 mlX5_66 sm_J7_fill_53178 rfl (by decide) (Nat.le_of_ble_eq_true rfl) ?_
  rintro q1 w ⟨rfl, hR⟩
  rw [oc_fK] at hR
  refine z_aload_n h dX5_findBar_8 rfl ?_
  refine y_getr h dX5_findBar_9 hR flX5_34 (by first | assumption | exact Nat.le_of_ble_eq_true rfl) (by first | rfl | assumption | exact tx_2 (by first | assumption | omega) | exact tx_18 (by first | assumption | omega) | exact tx_19 (by first | assumption | omega) | exact tx_20 (by first | assumption | omega) | exact tx_27 (by first | assumption | omega) | exact tx_28 (by first | assumption | omega) | exact tx_30 (by first | assumption | omega) | exact tx_31 (by first | assumption | omega) | exact tx_32 (by first | assumption | omega) | exact tx_33 (by first | assumption | omega)) (by rfl) ?_
  refine z_iconst (v := 0) h dX5_findBar_12 (by decide) ?_
  refine z_iload_n h dX5_findBar_13 rfl ?_
  refine y_iast h dX5_findBar_14 hR (by first | assumption | exact Nat.le_of_ble_eq_true rfl) (by first | rfl | assumption | exact tx_2 (by first | assumption | omega) | exact tx_18 (by first | assumption | omega) | exact tx_19 (by first | assumption | omega) | exact tx_20 (by first | assumption | omega) | exact tx_27 (by first | assumption | omega) | exact tx_28 (by first | assumption | omega) | exact tx_30 (by first | assumption | omega) | exact tx_31 (by first | assumption | omega) | exact tx_32 (by first | assumption | omega) | exact tx_33 (by first | assumption | omega)) (z_ixn (j := 0) (by decide) (by decide)) (fun w hR => ?_)
  rw [oc_sQ] at hR
  refine z_iconst (v := 1) h dX5_findBar_15 (by decide) ?_
  refine z_istore_n h dX5_findBar_16 (by rw [hn]; decide) ?_
  refine z_iconst (v := 0) h dX5_findBar_17 (by decide) ?_
  refine z_istore_n h dX5_findBar_18 (by rw [hn]; decide) ?_
  have loop_19 : ∀ (n_ : Nat) (h_ : Nat) (S : fbS) (Q1 : Nat → Int32) (w : z_w), r_p dX (TX nb na np g) w0 (OC c F T P S.1 Q1) l r w → fbo (c (39, 0)) P T na (fun _ => -1, upd (fun _ => 0) 0 j, 1, none) h_ = S → (∀ k, k < S.2.2.1 → Q1 k = S.2.1 k) → S.2.2.2 = none → S.2.2.1 ≤ 8 → h_ ≤ 8 → 9 ≤ h_ + n_ → z_V X 0 0 w 19 [(0, vr (35, 0)), (1, vi j), (2, vi (nI (S.2.2.1))), (3, vi (nI h_))] [] := by
    intro n_
    induction n_ with
    | zero => intros; omega
    | succ n_ ih_19 =>
      intro h_ S Q1 w hR hS hQ hSn hS8 hh hN
      refine z_iload_n h dX5_findBar_19 rfl ?_
      refine z_iload_n h dX5_findBar_20 rfl ?_
      refine z_icmp_ge h dX5_findBar_21 151 (by decide) (fun c_1 => ?_) (fun c_1 => ?_)
      · skip
        have e1 : S.2.2.1 ≤ h_ := (nI_leI (by omega) (by omega)).mp c_1
        have hZ0 : (fbZ (c (39, 0)) P T na j).2.2.2 = none := by
          have := fbo_stay (cm := (c (39, 0))) (P := P) (T := T) (m := na) (s := (fun _ => -1, upd (fun _ => 0) 0 j, 1, none)) (i := h_) (by rw [hS]; omega) (8 - h_)
          rw [show h_ + (8 - h_) = 8 by omega] at this
          show (fbo (c (39, 0)) P T na (fun _ => -1, upd (fun _ => 0) 0 j, 1, none) 8).2.2.2 = none
          rw [this, hS, hSn]
        refine z_iconst (v := 0) h dX5_findBar_151 (by decide) ?_
        exact z_zret h dX5_findBar_152 hr rfl (⟨z_e1 (by rw [fbr_none hZ0]), _, _, by rw [fbr_none hZ0]; exact hR⟩)
      · skip
        have e1 : ¬ S.2.2.1 ≤ h_ := fun q => c_1 ((nI_leI (by omega) (by omega)).mpr q)
        refine z_iload_n h dX5_findBar_24 rfl ?_
        refine z_bipush (v := 8) h dX5_findBar_25 (by decide) ?_
        refine z_icmp_ge h dX5_findBar_27 151 (by decide) (fun c_2 => ?_) (fun c_2 => ?_)
        · skip
          have e1 : 8 ≤ h_ := (nI_leI (a := 8) (by omega) (by omega)).mp c_2
          have e2 : h_ = 8 := by omega
          subst e2
          have hZ0 : (fbZ (c (39, 0)) P T na j).2.2.2 = none := by
            show (fbo (c (39, 0)) P T na (fun _ => -1, upd (fun _ => 0) 0 j, 1, none) 8).2.2.2 = none
            rw [hS, hSn]
          refine z_iconst (v := 0) h dX5_findBar_151 (by decide) ?_
          exact z_zret h dX5_findBar_152 hr rfl (⟨z_e1 (by rw [fbr_none hZ0]), _, _, by rw [fbr_none hZ0]; exact hR⟩)
        · skip
          have e1 : ¬ 8 ≤ h_ := fun q => c_2 ((nI_leI (a := 8) (by omega) (by omega)).mpr q)
          refine z_aload_n h dX5_findBar_30 rfl ?_
          refine y_getr h dX5_findBar_31 hR flX5_34 (by first | assumption | exact Nat.le_of_ble_eq_true rfl) (by first | rfl | assumption | exact tx_2 (by first | assumption | omega) | exact tx_18 (by first | assumption | omega) | exact tx_19 (by first | assumption | omega) | exact tx_20 (by first | assumption | omega) | exact tx_27 (by first | assumption | omega) | exact tx_28 (by first | assumption | omega) | exact tx_30 (by first | assumption | omega) | exact tx_31 (by first | assumption | omega) | exact tx_32 (by first | assumption | omega) | exact tx_33 (by first | assumption | omega)) (by rfl) ?_
          refine z_iload_n h dX5_findBar_34 rfl ?_
          refine y_iald h dX5_findBar_35 hR (by first | assumption | exact Nat.le_of_ble_eq_true rfl) (by first | rfl | assumption | exact tx_2 (by first | assumption | omega) | exact tx_18 (by first | assumption | omega) | exact tx_19 (by first | assumption | omega) | exact tx_20 (by first | assumption | omega) | exact tx_27 (by first | assumption | omega) | exact tx_28 (by first | assumption | omega) | exact tx_30 (by first | assumption | omega) | exact tx_31 (by first | assumption | omega) | exact tx_32 (by first | assumption | omega) | exact tx_33 (by first | assumption | omega)) (z_ixn (show h_ < 8 by omega) (by decide)) ?_
          rw [oc_Q, hQ h_ (by omega)]
          refine z_istore h dX5_findBar_36 (by rw [hn]; decide) ?_
          refine z_iconst (v := 0) h dX5_findBar_38 (by decide) ?_
          refine z_istore h dX5_findBar_39 (by rw [hn]; decide) ?_
          have loop_41 : ∀ (k_ : Nat) (y : Nat) (s : fbS) (Q1 : Nat → Int32) (w : z_w), r_p dX (TX nb na np g) w0 (OC c F T P s.1 Q1) l r w → fbi (c (39, 0)) P T (S.2.1 h_) S y = s → (∀ k, k < s.2.2.1 → Q1 k = s.2.1 k) → s.2.2.2 = none → s.2.2.1 ≤ 8 → y ≤ na → na + 1 ≤ y + k_ → z_V X 0 0 w 41 [(0, vr (35, 0)), (1, vi j), (2, vi (nI (s.2.2.1))), (3, vi (nI h_)), (4, vi (S.2.1 h_)), (5, vi (nI y))] [] := by
            intro k_
            induction k_ with
            | zero => intros; omega
            | succ k_ ih_41 =>
              intro y s Q1 w hR hs hQ hsn hw8 hy hN
              refine z_iload h dX5_findBar_41 rfl ?_
              refine z_aload_n h dX5_findBar_43 rfl ?_
              refine y_geti h dX5_findBar_44 hR flX5_47 (by first | assumption | exact Nat.le_of_ble_eq_true rfl) (by first | rfl | assumption | exact tx_2 (by first | assumption | omega) | exact tx_18 (by first | assumption | omega) | exact tx_19 (by first | assumption | omega) | exact tx_20 (by first | assumption | omega) | exact tx_27 (by first | assumption | omega) | exact tx_28 (by first | assumption | omega) | exact tx_30 (by first | assumption | omega) | exact tx_31 (by first | assumption | omega) | exact tx_32 (by first | assumption | omega) | exact tx_33 (by first | assumption | omega)) (by rfl) ?_
              rw [oc_sz, hc9]
              refine z_icmp_ge h dX5_findBar_47 145 (by decide) (fun c_3 => ?_) (fun c_3 => ?_)
              · skip
                have e1 : na ≤ y := (nI_leI (by omega) (by omega)).mp c_3
                refine z_iinc (v := 1) h dX5_findBar_145 rfl (by decide) (by rw [hn]; decide) ?_
                refine z_goto h dX5_findBar_148 19 (by decide) ?_
                refine z_loc [(0, vr (35, 0)), (1, vi j), (2, vi (nI (s.2.2.1))), (3, vi (nI (h_ + 1)))] ⟨rfl, rfl, rfl, congrArg (fun z => some (vi z)) (z_up h_), trivial⟩ ?_
                exact ih_19 (h_ + 1) s Q1 w hR (by rw [fbo, hS, if_pos ⟨hSn, by omega⟩, ← hs, show y = na by omega]) hQ hsn hw8 (by omega) (by omega)
              · skip
                have e1 : ¬ na ≤ y := fun q => c_3 ((nI_leI (by omega) (by omega)).mpr q)
                refine z_aload_n h dX5_findBar_50 rfl ?_
                refine y_getr h dX5_findBar_51 hR flX5_21 (by first | assumption | exact Nat.le_of_ble_eq_true rfl) (by first | rfl | assumption | exact tx_2 (by first | assumption | omega) | exact tx_18 (by first | assumption | omega) | exact tx_19 (by first | assumption | omega) | exact tx_20 (by first | assumption | omega) | exact tx_27 (by first | assumption | omega) | exact tx_28 (by first | assumption | omega) | exact tx_30 (by first | assumption | omega) | exact tx_31 (by first | assumption | omega) | exact tx_32 (by first | assumption | omega) | exact tx_33 (by first | assumption | omega)) (by rfl) ?_
                refine z_iload h dX5_findBar_54 rfl ?_
                refine y_iald h dX5_findBar_56 hR (by first | assumption | exact Nat.le_of_ble_eq_true rfl) (by first | rfl | assumption | exact tx_2 (by first | assumption | omega) | exact tx_18 (by first | assumption | omega) | exact tx_19 (by first | assumption | omega) | exact tx_20 (by first | assumption | omega) | exact tx_27 (by first | assumption | omega) | exact tx_28 (by first | assumption | omega) | exact tx_30 (by first | assumption | omega) | exact tx_31 (by first | assumption | omega) | exact tx_32 (by first | assumption | omega) | exact tx_33 (by first | assumption | omega)) (z_ixn (show y < 100 by omega) (by decide)) ?_
                rw [oc_cm]
                refine z_iload h dX5_findBar_57 rfl ?_
                refine z_ishr h dX5_findBar_59 ?_
                refine z_iconst (v := 1) h dX5_findBar_60 (by decide) ?_
                refine z_iand h dX5_findBar_61 ?_
                refine z_if_eq h dX5_findBar_62 139 (by decide) (fun c_4 => ?_) (fun c_4 => ?_)
                · skip
                  refine z_iinc (v := 1) h dX5_findBar_139 rfl (by decide) (by rw [hn]; decide) ?_
                  refine z_goto h dX5_findBar_142 41 (by decide) ?_
                  refine z_loc [(0, vr (35, 0)), (1, vi j), (2, vi (nI (s.2.2.1))), (3, vi (nI h_)), (4, vi (S.2.1 h_)), (5, vi (nI (y + 1)))] ⟨rfl, rfl, rfl, rfl, rfl, congrArg (fun z => some (vi z)) (z_up y), trivial⟩ ?_
                  exact ih_41 (y + 1) s Q1 w hR (by rw [fbi, hs, if_pos hsn, fb1, if_pos (Or.inl c_4)]) hQ hsn hw8 (by omega) (by omega)
                · skip
                  refine z_aload_n h dX5_findBar_65 rfl ?_
                  refine y_getr h dX5_findBar_66 hR flX5_27 (by first | assumption | exact Nat.le_of_ble_eq_true rfl) (by first | rfl | assumption | exact tx_2 (by first | assumption | omega) | exact tx_18 (by first | assumption | omega) | exact tx_19 (by first | assumption | omega) | exact tx_20 (by first | assumption | omega) | exact tx_27 (by first | assumption | omega) | exact tx_28 (by first | assumption | omega) | exact tx_30 (by first | assumption | omega) | exact tx_31 (by first | assumption | omega) | exact tx_32 (by first | assumption | omega) | exact tx_33 (by first | assumption | omega)) (by rfl) ?_
                  refine z_iload h dX5_findBar_69 rfl ?_
                  refine y_zald h dX5_findBar_71 hR (by first | assumption | exact Nat.le_of_ble_eq_true rfl) (by first | rfl | assumption | exact tx_2 (by first | assumption | omega) | exact tx_18 (by first | assumption | omega) | exact tx_19 (by first | assumption | omega) | exact tx_20 (by first | assumption | omega) | exact tx_27 (by first | assumption | omega) | exact tx_28 (by first | assumption | omega) | exact tx_30 (by first | assumption | omega) | exact tx_31 (by first | assumption | omega) | exact tx_32 (by first | assumption | omega) | exact tx_33 (by first | assumption | omega)) (z_ixn (show y < 100 by omega) (by decide)) ?_
                  rw [oc_P]
                  refine z_if_ne h dX5_findBar_72 139 (by decide) (fun c_5 => ?_) (fun c_5 => ?_)
                  · skip
                    refine z_iinc (v := 1) h dX5_findBar_139 rfl (by decide) (by rw [hn]; decide) ?_
                    refine z_goto h dX5_findBar_142 41 (by decide) ?_
                    refine z_loc [(0, vr (35, 0)), (1, vi j), (2, vi (nI (s.2.2.1))), (3, vi (nI h_)), (4, vi (S.2.1 h_)), (5, vi (nI (y + 1)))] ⟨rfl, rfl, rfl, rfl, rfl, congrArg (fun z => some (vi z)) (z_up y), trivial⟩ ?_
                    exact ih_41 (y + 1) s Q1 w hR (by rw [fbi, hs, if_pos hsn, fb1, if_pos (Or.inr (Or.inl c_5))]) hQ hsn hw8 (by omega) (by omega)
                  · skip
                    have c_5 : P y = 0 := c_5
                    refine z_aload_n h dX5_findBar_75 rfl ?_
                    refine y_getr h dX5_findBar_76 hR flX5_31 (by first | assumption | exact Nat.le_of_ble_eq_true rfl) (by first | rfl | assumption | exact tx_2 (by first | assumption | omega) | exact tx_18 (by first | assumption | omega) | exact tx_19 (by first | assumption | omega) | exact tx_20 (by first | assumption | omega) | exact tx_27 (by first | assumption | omega) | exact tx_28 (by first | assumption | omega) | exact tx_30 (by first | assumption | omega) | exact tx_31 (by first | assumption | omega) | exact tx_32 (by first | assumption | omega) | exact tx_33 (by first | assumption | omega)) (by rfl) ?_
                    refine z_iload h dX5_findBar_79 rfl ?_
                    refine y_iald h dX5_findBar_81 hR (by first | assumption | exact Nat.le_of_ble_eq_true rfl) (by first | rfl | assumption | exact tx_2 (by first | assumption | omega) | exact tx_18 (by first | assumption | omega) | exact tx_19 (by first | assumption | omega) | exact tx_20 (by first | assumption | omega) | exact tx_27 (by first | assumption | omega) | exact tx_28 (by first | assumption | omega) | exact tx_30 (by first | assumption | omega) | exact tx_31 (by first | assumption | omega) | exact tx_32 (by first | assumption | omega) | exact tx_33 (by first | assumption | omega)) (z_ixn (show y < 100 by omega) (by decide)) ?_
                    rw [oc_K]
                    refine z_iconst (v := -1) h dX5_findBar_82 (by decide) ?_
                    refine z_icmp_eq h dX5_findBar_83 89 (by decide) (fun c_6 => ?_) (fun c_6 => ?_)
                    · skip
                      refine z_aload_n h dX5_findBar_89 rfl ?_
                      refine y_getr h dX5_findBar_90 hR flX5_31 (by first | assumption | exact Nat.le_of_ble_eq_true rfl) (by first | rfl | assumption | exact tx_2 (by first | assumption | omega) | exact tx_18 (by first | assumption | omega) | exact tx_19 (by first | assumption | omega) | exact tx_20 (by first | assumption | omega) | exact tx_27 (by first | assumption | omega) | exact tx_28 (by first | assumption | omega) | exact tx_30 (by first | assumption | omega) | exact tx_31 (by first | assumption | omega) | exact tx_32 (by first | assumption | omega) | exact tx_33 (by first | assumption | omega)) (by rfl) ?_
                      refine z_iload h dX5_findBar_93 rfl ?_
                      refine z_iload h dX5_findBar_95 rfl ?_
                      refine y_iast h dX5_findBar_97 hR (by first | assumption | exact Nat.le_of_ble_eq_true rfl) (by first | rfl | assumption | exact tx_2 (by first | assumption | omega) | exact tx_18 (by first | assumption | omega) | exact tx_19 (by first | assumption | omega) | exact tx_20 (by first | assumption | omega) | exact tx_27 (by first | assumption | omega) | exact tx_28 (by first | assumption | omega) | exact tx_30 (by first | assumption | omega) | exact tx_31 (by first | assumption | omega) | exact tx_32 (by first | assumption | omega) | exact tx_33 (by first | assumption | omega)) (z_ixn (show y < 100 by omega) (by decide)) (fun w hR => ?_)
                      rw [oc_sK] at hR
                      refine z_aload_n h dX5_findBar_98 rfl ?_
                      refine y_getr h dX5_findBar_99 hR flX5_24 (by first | assumption | exact Nat.le_of_ble_eq_true rfl) (by first | rfl | assumption | exact tx_2 (by first | assumption | omega) | exact tx_18 (by first | assumption | omega) | exact tx_19 (by first | assumption | omega) | exact tx_20 (by first | assumption | omega) | exact tx_27 (by first | assumption | omega) | exact tx_28 (by first | assumption | omega) | exact tx_30 (by first | assumption | omega) | exact tx_31 (by first | assumption | omega) | exact tx_32 (by first | assumption | omega) | exact tx_33 (by first | assumption | omega)) (by rfl) ?_
                      refine z_iload h dX5_findBar_102 rfl ?_
                      refine y_iald h dX5_findBar_104 hR (by first | assumption | exact Nat.le_of_ble_eq_true rfl) (by first | rfl | assumption | exact tx_2 (by first | assumption | omega) | exact tx_18 (by first | assumption | omega) | exact tx_19 (by first | assumption | omega) | exact tx_20 (by first | assumption | omega) | exact tx_27 (by first | assumption | omega) | exact tx_28 (by first | assumption | omega) | exact tx_30 (by first | assumption | omega) | exact tx_31 (by first | assumption | omega) | exact tx_32 (by first | assumption | omega) | exact tx_33 (by first | assumption | omega)) (z_ixn (show y < 100 by omega) (by decide)) ?_
                      rw [oc_T]
                      refine z_iconst (v := -1) h dX5_findBar_105 (by decide) ?_
                      refine z_icmp_ne h dX5_findBar_106 117 (by decide) (fun c_7 => ?_) (fun c_7 => ?_)
                      · skip
                        refine z_iload_n h dX5_findBar_117 rfl ?_
                        refine z_bipush (v := 8) h dX5_findBar_118 (by decide) ?_
                        refine z_icmp_ge h dX5_findBar_120 139 (by decide) (fun c_8 => ?_) (fun c_8 => ?_)
                        · skip
                          have e1 : 8 ≤ s.2.2.1 := (nI_leI (a := 8) (by omega) (by omega)).mp c_8
                          refine z_iinc (v := 1) h dX5_findBar_139 rfl (by decide) (by rw [hn]; decide) ?_
                          refine z_goto h dX5_findBar_142 41 (by decide) ?_
                          refine z_loc [(0, vr (35, 0)), (1, vi j), (2, vi (nI (s.2.2.1))), (3, vi (nI h_)), (4, vi (S.2.1 h_)), (5, vi (nI (y + 1)))] ⟨rfl, rfl, rfl, rfl, rfl, congrArg (fun z => some (vi z)) (z_up y), trivial⟩ ?_
                          exact ih_41 (y + 1) (upd s.1 y (S.2.1 h_), s.2.1, s.2.2.1, none) Q1 w hR (by rw [fbi, hs, if_pos hsn, fb1, if_neg (fun q => q.elim c_4 (fun q => q.elim (fun z => z c_5) (fun z => z c_6))), if_neg c_7, if_neg (by omega)]) hQ rfl hw8 (by omega) (by omega)
                        · skip
                          have e1 : ¬ 8 ≤ s.2.2.1 := fun q => c_8 ((nI_leI (a := 8) (by omega) (by omega)).mpr q)
                          refine z_aload_n h dX5_findBar_123 rfl ?_
                          refine y_getr h dX5_findBar_124 hR flX5_34 (by first | assumption | exact Nat.le_of_ble_eq_true rfl) (by first | rfl | assumption | exact tx_2 (by first | assumption | omega) | exact tx_18 (by first | assumption | omega) | exact tx_19 (by first | assumption | omega) | exact tx_20 (by first | assumption | omega) | exact tx_27 (by first | assumption | omega) | exact tx_28 (by first | assumption | omega) | exact tx_30 (by first | assumption | omega) | exact tx_31 (by first | assumption | omega) | exact tx_32 (by first | assumption | omega) | exact tx_33 (by first | assumption | omega)) (by rfl) ?_
                          refine z_iload_n h dX5_findBar_127 rfl ?_
                          refine z_aload_n h dX5_findBar_128 rfl ?_
                          refine y_getr h dX5_findBar_129 hR flX5_24 (by first | assumption | exact Nat.le_of_ble_eq_true rfl) (by first | rfl | assumption | exact tx_2 (by first | assumption | omega) | exact tx_18 (by first | assumption | omega) | exact tx_19 (by first | assumption | omega) | exact tx_20 (by first | assumption | omega) | exact tx_27 (by first | assumption | omega) | exact tx_28 (by first | assumption | omega) | exact tx_30 (by first | assumption | omega) | exact tx_31 (by first | assumption | omega) | exact tx_32 (by first | assumption | omega) | exact tx_33 (by first | assumption | omega)) (by rfl) ?_
                          refine z_iload h dX5_findBar_132 rfl ?_
                          refine y_iald h dX5_findBar_134 hR (by first | assumption | exact Nat.le_of_ble_eq_true rfl) (by first | rfl | assumption | exact tx_2 (by first | assumption | omega) | exact tx_18 (by first | assumption | omega) | exact tx_19 (by first | assumption | omega) | exact tx_20 (by first | assumption | omega) | exact tx_27 (by first | assumption | omega) | exact tx_28 (by first | assumption | omega) | exact tx_30 (by first | assumption | omega) | exact tx_31 (by first | assumption | omega) | exact tx_32 (by first | assumption | omega) | exact tx_33 (by first | assumption | omega)) (z_ixn (show y < 100 by omega) (by decide)) ?_
                          rw [oc_T]
                          refine y_iast h dX5_findBar_135 hR (by first | assumption | exact Nat.le_of_ble_eq_true rfl) (by first | rfl | assumption | exact tx_2 (by first | assumption | omega) | exact tx_18 (by first | assumption | omega) | exact tx_19 (by first | assumption | omega) | exact tx_20 (by first | assumption | omega) | exact tx_27 (by first | assumption | omega) | exact tx_28 (by first | assumption | omega) | exact tx_30 (by first | assumption | omega) | exact tx_31 (by first | assumption | omega) | exact tx_32 (by first | assumption | omega) | exact tx_33 (by first | assumption | omega)) (z_ixn (show s.2.2.1 < 8 by omega) (by decide)) (fun w hR => ?_)
                          rw [oc_sQ] at hR
                          refine z_iinc (v := 1) h dX5_findBar_136 rfl (by decide) (by rw [hn]; decide) ?_
                          refine z_iinc (v := 1) h dX5_findBar_139 rfl (by decide) (by rw [hn]; decide) ?_
                          refine z_goto h dX5_findBar_142 41 (by decide) ?_
                          refine z_loc [(0, vr (35, 0)), (1, vi j), (2, vi (nI (s.2.2.1 + 1))), (3, vi (nI h_)), (4, vi (S.2.1 h_)), (5, vi (nI (y + 1)))] ⟨rfl, rfl, congrArg (fun z => some (vi z)) (z_up s.2.2.1), rfl, rfl, congrArg (fun z => some (vi z)) (z_up y), trivial⟩ ?_
                          exact ih_41 (y + 1) (upd s.1 y (S.2.1 h_), upd s.2.1 s.2.2.1 (T y), s.2.2.1 + 1, none) (upd Q1 s.2.2.1 (T y)) w hR (by rw [fbi, hs, if_pos hsn, fb1, if_neg (fun q => q.elim c_4 (fun q => q.elim (fun z => z c_5) (fun z => z c_6))), if_neg c_7, if_pos (by omega)]) (fun k hk => by
                            by_cases e : k = s.2.2.1
                            · subst e; rw [pk_us]; exact (pk_us).symm
                            · rw [pk_un e]; exact (hQ k (by have : k < s.2.2.1 + 1 := hk; omega)).trans (pk_un e).symm) rfl (show s.2.2.1 + 1 ≤ 8 by omega) (by omega) (by omega)
                      · skip
                        refine z_aload_n h dX5_findBar_109 rfl ?_
                        refine z_iload h dX5_findBar_110 rfl ?_
                        refine z_callV h dX5_findBar_112 (fun _ _ q => z_okv_no he q) (fun _ _ _ t q => absurd q (he t)) (m_X5_handOver _ hR (nI y)) ym_X5_handOver mlX5_80 im_X5_handOver (ci := 5) rfl se_X5_handOver icX5 rfl (r_p.ob hR (by first | assumption | exact Nat.le_of_ble_eq_true rfl) (by first | rfl | assumption | exact tx_2 (by first | assumption | omega) | exact tx_18 (by first | assumption | omega) | exact tx_19 (by first | assumption | omega) | exact tx_20 (by first | assumption | omega) | exact tx_27 (by first | assumption | omega) | exact tx_28 (by first | assumption | omega) | exact tx_30 (by first | assumption | omega) | exact tx_31 (by first | assumption | omega) | exact tx_32 (by first | assumption | omega) | exact tx_33 (by first | assumption | omega))) rfl (by decide) (Nat.le_of_ble_eq_true rfl) ?_
                        rintro q1 w ⟨rfl, hR⟩
                        have hX1 : fbi (c (39, 0)) P T (S.2.1 h_) S (y + 1) = (upd s.1 y (S.2.1 h_), s.2.1, s.2.2.1, some y) := by rw [fbi, hs, if_pos hsn, fb1, if_neg (fun q => q.elim c_4 (fun q => q.elim (fun z => z c_5) (fun z => z c_6))), if_pos c_7]
                        have hX2 : fbi (c (39, 0)) P T (S.2.1 h_) S na = (upd s.1 y (S.2.1 h_), s.2.1, s.2.2.1, some y) := by
                          have := fbi_stay (i := y + 1) (by rw [hX1]; simp) (na - (y + 1))
                          rw [show y + 1 + (na - (y + 1)) = na by omega] at this
                          rw [this, hX1]
                        have hX3 : fbo (c (39, 0)) P T na (fun _ => -1, upd (fun _ => 0) 0 j, 1, none) (h_ + 1) = (upd s.1 y (S.2.1 h_), s.2.1, s.2.2.1, some y) := by rw [fbo, hS, if_pos ⟨hSn, by omega⟩]; exact hX2
                        have hZ : fbZ (c (39, 0)) P T na j = (upd s.1 y (S.2.1 h_), s.2.1, s.2.2.1, some y) := by
                          have := fbo_stay (i := h_ + 1) (by rw [hX3]; simp) (8 - (h_ + 1))
                          rw [show h_ + 1 + (8 - (h_ + 1)) = 8 by omega] at this
                          exact this.trans hX3
                        refine z_iconst (v := 1) h dX5_findBar_115 (by decide) ?_
                        exact z_zret h dX5_findBar_116 hr rfl (⟨z_e1 (by rw [fbr_some (y := y) (by rw [hZ])]), _, _, by rw [fbr_some (y := y) (by rw [hZ]), hZ]; exact hR⟩)
                    · skip
                      refine z_goto h dX5_findBar_86 139 (by decide) ?_
                      refine z_iinc (v := 1) h dX5_findBar_139 rfl (by decide) (by rw [hn]; decide) ?_
                      refine z_goto h dX5_findBar_142 41 (by decide) ?_
                      refine z_loc [(0, vr (35, 0)), (1, vi j), (2, vi (nI (s.2.2.1))), (3, vi (nI h_)), (4, vi (S.2.1 h_)), (5, vi (nI (y + 1)))] ⟨rfl, rfl, rfl, rfl, rfl, congrArg (fun z => some (vi z)) (z_up y), trivial⟩ ?_
                      exact ih_41 (y + 1) s Q1 w hR (by rw [fbi, hs, if_pos hsn, fb1, if_pos (Or.inr (Or.inr c_6))]) hQ hsn hw8 (by omega) (by omega)
          exact z_loc [(0, vr (35, 0)), (1, vi j), (2, vi (nI (S.2.2.1))), (3, vi (nI h_)), (4, vi (S.2.1 h_)), (5, vi (nI 0))] ⟨rfl, rfl, rfl, rfl, rfl, rfl, trivial⟩ (loop_41 (na + 1) 0 S Q1 w hR rfl hQ hSn hS8 (by omega) (by omega))
  exact z_loc [(0, vr (35, 0)), (1, vi j), (2, vi (nI (1))), (3, vi (nI 0))] ⟨rfl, rfl, rfl, rfl, trivial⟩ (loop_19 9 0 (fun _ => -1, upd (fun _ => 0) 0 j, 1, none) (upd Q 0 j) w hR rfl (fun k hk => by
    obtain rfl : k = 0 := by have : k < 1 := hk; omega
    show upd Q 0 j 0 = upd (fun _ => 0) 0 j 0
    rw [pk_us, pk_us]) rfl (show (1 : Nat) ≤ 8 by omega) (by omega) (by omega))
set_option maxHeartbeats 4000000 in
set_option maxRecDepth 100000 in
theorem m_X5_findBarAfter (G : z_G) {nb na np g : Nat} {w0 w : z_w} {c : r_c} {l : r_l} {r : r_r} {F T P K Q : Nat → Int32} (hR : r_p dX (TX nb na np g) w0 (OC c F T P K Q) l r w) (hc9 : c (35, 0) 9 = nI na) (hna : na ≤ 100) (no : Nat) (hco : c (35, 0) 3 = nI no) (hno : no ≤ 8) (i : Nat) (hi : i < no) : z_M G yX5_findBarAfter cX5_findBarAfter 3 (some .boolean) 3 (0) (0) [vr (35, 0), vi (nI i)] w (fun q w1 => q = some (vi (fba (c (39, 0)) P na F T (no - (i + 1)) (i + 1)).1) ∧ ∃ K1 Q1, r_p dX (TX nb na np g) w0 (OC c (fba (c (39, 0)) P na F T (no - (i + 1)) (i + 1)).2.1 (fba (c (39, 0)) P na F T (no - (i + 1)) (i + 1)).2.2 P K1 Q1) (l) (r) w1) := by
  refine z_met ym_X5_findBarAfter (by decide) ⟨Nat.le_of_ble_eq_true rfl, Nat.le_of_ble_eq_true rfl⟩ (fun X hG hn hmc hms hin h hr => ?_)
  have he := hr.2.2.2.2.2.1
  refine z_iload_n h dX5_findBarAfter_0 rfl ?_
  refine z_iconst (v := 1) h dX5_findBarAfter_1 (by decide) ?_
  refine z_iadd h dX5_findBarAfter_2 ?_
  refine z_toe (y := nI (i + 1)) (z_up i) ?_
  refine z_istore_n h dX5_findBarAfter_3 (by rw [hn]; decide) ?_
  have loop_4 : ∀ (n_ : Nat) (x : Nat) (K1 Q1 : Nat → Int32) (w : z_w), r_p dX (TX nb na np g) w0 (OC c F T P K1 Q1) l r w → fba (c (39, 0)) P na F T (no - x) x = fba (c (39, 0)) P na F T (no - (i + 1)) (i + 1) → x ≤ no → no + 1 ≤ x + n_ → z_V X 0 0 w 4 [(0, vr (35, 0)), (1, vi (nI i)), (2, vi (nI x))] [] := by
    intro n_
    induction n_ with
    | zero => intros; omega
    | succ n_ ih_4 =>
      intro x K1 Q1 w hR hA hx hN
      refine z_iload_n h dX5_findBarAfter_4 rfl ?_
      refine z_aload_n h dX5_findBarAfter_5 rfl ?_
      refine y_geti h dX5_findBarAfter_6 hR flX5_37 (by first | assumption | exact Nat.le_of_ble_eq_true rfl) (by first | rfl | assumption | exact tx_2 (by first | assumption | omega) | exact tx_18 (by first | assumption | omega) | exact tx_19 (by first | assumption | omega) | exact tx_20 (by first | assumption | omega) | exact tx_27 (by first | assumption | omega) | exact tx_28 (by first | assumption | omega) | exact tx_30 (by first | assumption | omega) | exact tx_31 (by first | assumption | omega) | exact tx_32 (by first | assumption | omega) | exact tx_33 (by first | assumption | omega)) (by rfl) ?_
      rw [oc_sz, hco]
      refine z_icmp_ge h dX5_findBarAfter_9 44 (by decide) (fun c_1 => ?_) (fun c_1 => ?_)
      · skip
        have e1 : no ≤ x := (nI_leI (by omega) (by omega)).mp c_1
        refine z_iconst (v := 0) h dX5_findBarAfter_44 (by decide) ?_
        exact z_zret h dX5_findBarAfter_45 hr rfl (⟨z_e1 (by rw [← hA, show no - x = 0 by omega, fba]), _, _, by rw [← hA, show no - x = 0 by omega, fba]; exact hR⟩)
      · skip
        have e1 : ¬ no ≤ x := fun q => c_1 ((nI_leI (by omega) (by omega)).mpr q)
        refine z_iload_n h dX5_findBarAfter_12 rfl ?_
        refine z_bipush (v := 8) h dX5_findBarAfter_13 (by decide) ?_
        refine z_icmp_ge h dX5_findBarAfter_15 44 (by decide) (fun c_b => ?_) (fun c_b => ?_)
        · skip
          exact absurd ((nI_leI (a := 8) (by omega) (by omega)).mp c_b) (by omega)
        · skip
          refine z_aload_n h dX5_findBarAfter_18 rfl ?_
          refine y_getr h dX5_findBarAfter_19 hR flX5_18 (by first | assumption | exact Nat.le_of_ble_eq_true rfl) (by first | rfl | assumption | exact tx_2 (by first | assumption | omega) | exact tx_18 (by first | assumption | omega) | exact tx_19 (by first | assumption | omega) | exact tx_20 (by first | assumption | omega) | exact tx_27 (by first | assumption | omega) | exact tx_28 (by first | assumption | omega) | exact tx_30 (by first | assumption | omega) | exact tx_31 (by first | assumption | omega) | exact tx_32 (by first | assumption | omega) | exact tx_33 (by first | assumption | omega)) (by rfl) ?_
          refine z_iload_n h dX5_findBarAfter_22 rfl ?_
          refine y_iald h dX5_findBarAfter_23 hR (by first | assumption | exact Nat.le_of_ble_eq_true rfl) (by first | rfl | assumption | exact tx_2 (by first | assumption | omega) | exact tx_18 (by first | assumption | omega) | exact tx_19 (by first | assumption | omega) | exact tx_20 (by first | assumption | omega) | exact tx_27 (by first | assumption | omega) | exact tx_28 (by first | assumption | omega) | exact tx_30 (by first | assumption | omega) | exact tx_31 (by first | assumption | omega) | exact tx_32 (by first | assumption | omega) | exact tx_33 (by first | assumption | omega)) (z_ixn (show x < 8 by omega) (by decide)) ?_
          rw [oc_F]
          refine z_iconst (v := -1) h dX5_findBarAfter_24 (by decide) ?_
          refine z_icmp_ne h dX5_findBarAfter_25 38 (by decide) (fun c_2 => ?_) (fun c_2 => ?_)
          · skip
            refine z_iinc (v := 1) h dX5_findBarAfter_38 rfl (by decide) (by rw [hn]; decide) ?_
            refine z_goto h dX5_findBarAfter_41 4 (by decide) ?_
            refine z_loc [(0, vr (35, 0)), (1, vi (nI i)), (2, vi (nI (x + 1)))] ⟨rfl, rfl, congrArg (fun z => some (vi z)) (z_up x), trivial⟩ ?_
            exact ih_4 (x + 1) _ _ w hR (by rw [← hA, show no - x = (no - (x + 1)) + 1 by omega, fba, if_neg (fun q => c_2 q.1)]) (by omega) (by omega)
          · skip
            refine z_aload_n h dX5_findBarAfter_28 rfl ?_
            refine z_iload_n h dX5_findBarAfter_29 rfl ?_
            refine z_callV h dX5_findBarAfter_30 (fun _ _ q => z_okv_no he q) (fun _ _ _ t q => absurd q (he t)) (m_X5_findBar _ hR hc9 hna (nI x)) ym_X5_findBar mlX5_72 im_X5_findBar (ci := 5) rfl se_X5_findBar icX5 rfl (r_p.ob hR (by first | assumption | exact Nat.le_of_ble_eq_true rfl) (by first | rfl | assumption | exact tx_2 (by first | assumption | omega) | exact tx_18 (by first | assumption | omega) | exact tx_19 (by first | assumption | omega) | exact tx_20 (by first | assumption | omega) | exact tx_27 (by first | assumption | omega) | exact tx_28 (by first | assumption | omega) | exact tx_30 (by first | assumption | omega) | exact tx_31 (by first | assumption | omega) | exact tx_32 (by first | assumption | omega) | exact tx_33 (by first | assumption | omega))) rfl (by decide) (Nat.le_of_ble_eq_true rfl) ?_
            rintro q1 w ⟨rfl, K2, Q2, hR⟩
            refine z_if_eq h dX5_findBarAfter_33 38 (by decide) (fun c_3 => ?_) (fun c_3 => ?_)
            · skip
              have e3 : (fbr (c (39, 0)) P na F T (nI x)).2 = (F, T) := (fbr_01 (c (39, 0)) P na F T (nI x)).elim (fun q => q.2) (fun q => by rw [q] at c_3; exact absurd c_3 (by decide))
              rw [e3] at hR
              refine z_iinc (v := 1) h dX5_findBarAfter_38 rfl (by decide) (by rw [hn]; decide) ?_
              refine z_goto h dX5_findBarAfter_41 4 (by decide) ?_
              refine z_loc [(0, vr (35, 0)), (1, vi (nI i)), (2, vi (nI (x + 1)))] ⟨rfl, rfl, congrArg (fun z => some (vi z)) (z_up x), trivial⟩ ?_
              exact ih_4 (x + 1) _ _ w hR (by rw [← hA, show no - x = (no - (x + 1)) + 1 by omega, fba, if_neg (fun q => by rw [q.2] at c_3; exact absurd c_3 (by decide))]) (by omega) (by omega)
            · skip
              have e3 : (fbr (c (39, 0)) P na F T (nI x)).1 = 1 := (fbr_01 (c (39, 0)) P na F T (nI x)).resolve_left (fun q => c_3 q.1)
              have e4 : fba (c (39, 0)) P na F T (no - (i + 1)) (i + 1) = fbr (c (39, 0)) P na F T (nI x) := by rw [← hA, show no - x = (no - (x + 1)) + 1 by omega, fba, if_pos ⟨c_2, e3⟩]
              refine z_iconst (v := 1) h dX5_findBarAfter_36 (by decide) ?_
              exact z_zret h dX5_findBarAfter_37 hr rfl (⟨z_e1 (by rw [e4, e3]), _, _, by rw [e4]; exact hR⟩)
  exact z_loc [(0, vr (35, 0)), (1, vi (nI i)), (2, vi (nI (i + 1)))] ⟨rfl, rfl, rfl, trivial⟩ (loop_4 (no + 1) (i + 1) K Q w hR rfl (by omega) (by omega))
set_option maxHeartbeats 4000000 in
set_option maxRecDepth 100000 in
theorem m_X5_moveTo (G : z_G) {nb na np g : Nat} {w0 w : z_w} {c : r_c} {l : r_l} {r : r_r} {F T P K Q : Nat → Int32} (hR : r_p dX (TX nb na np g) w0 (OC c F T P K Q) l r w) (hc9 : c (35, 0) 9 = nI na) (hna : na ≤ 100) (no : Nat) (hco : c (35, 0) 3 = nI no) (hno : no ≤ 8) (i : Nat) (hi : i < no) (b : Nat) (hb : b < na) : z_M G yX5_moveTo cX5_moveTo 7 (some .boolean) 4 (0) (0) [vr (35, 0), vi (nI i), vi (nI b)] w (fun q w1 => q = some (vi (mvt (c (39, 0)) P na no F T i b).1) ∧ ∃ K1 Q1, r_p dX (TX nb na np g) w0 (OC c (mvt (c (39, 0)) P na no F T i b).2.1 (mvt (c (39, 0)) P na no F T i b).2.2.1 (mvt (c (39, 0)) P na no F T i b).2.2.2 K1 Q1) (l) (r) w1) := by
  refine z_met ym_X5_moveTo (by decide) ⟨Nat.le_of_ble_eq_true rfl, Nat.le_of_ble_eq_true rfl⟩ (fun X hG hn hmc hms hin h hr => ?_)
  have he := hr.2.2.2.2.2.1
  refine z_aload_n h dX5_moveTo_0 rfl ?_
  refine y_getr h dX5_moveTo_1 hR flX5_18 (by first | assumption | exact Nat.le_of_ble_eq_true rfl) (by first | rfl | assumption | exact tx_2 (by first | assumption | omega) | exact tx_18 (by first | assumption | omega) | exact tx_19 (by first | assumption | omega) | exact tx_20 (by first | assumption | omega) | exact tx_27 (by first | assumption | omega) | exact tx_28 (by first | assumption | omega) | exact tx_30 (by first | assumption | omega) | exact tx_31 (by first | assumption | omega) | exact tx_32 (by first | assumption | omega) | exact tx_33 (by first | assumption | omega)) (by rfl) ?_
  refine z_iload_n h dX5_moveTo_4 rfl ?_
  refine y_iald h dX5_moveTo_5 hR (by first | assumption | exact Nat.le_of_ble_eq_true rfl) (by first | rfl | assumption | exact tx_2 (by first | assumption | omega) | exact tx_18 (by first | assumption | omega) | exact tx_19 (by first | assumption | omega) | exact tx_20 (by first | assumption | omega) | exact tx_27 (by first | assumption | omega) | exact tx_28 (by first | assumption | omega) | exact tx_30 (by first | assumption | omega) | exact tx_31 (by first | assumption | omega) | exact tx_32 (by first | assumption | omega) | exact tx_33 (by first | assumption | omega)) (z_ixn (show i < 8 by omega) (by decide)) ?_
  rw [oc_F]
  refine z_istore_n h dX5_moveTo_6 (by rw [hn]; decide) ?_
  refine z_aload_n h dX5_moveTo_7 rfl ?_
  refine y_getr h dX5_moveTo_8 hR flX5_24 (by first | assumption | exact Nat.le_of_ble_eq_true rfl) (by first | rfl | assumption | exact tx_2 (by first | assumption | omega) | exact tx_18 (by first | assumption | omega) | exact tx_19 (by first | assumption | omega) | exact tx_20 (by first | assumption | omega) | exact tx_27 (by first | assumption | omega) | exact tx_28 (by first | assumption | omega) | exact tx_30 (by first | assumption | omega) | exact tx_31 (by first | assumption | omega) | exact tx_32 (by first | assumption | omega) | exact tx_33 (by first | assumption | omega)) (by rfl) ?_
  refine z_iload_n h dX5_moveTo_11 rfl ?_
  refine y_iald h dX5_moveTo_12 hR (by first | assumption | exact Nat.le_of_ble_eq_true rfl) (by first | rfl | assumption | exact tx_2 (by first | assumption | omega) | exact tx_18 (by first | assumption | omega) | exact tx_19 (by first | assumption | omega) | exact tx_20 (by first | assumption | omega) | exact tx_27 (by first | assumption | omega) | exact tx_28 (by first | assumption | omega) | exact tx_30 (by first | assumption | omega) | exact tx_31 (by first | assumption | omega) | exact tx_32 (by first | assumption | omega) | exact tx_33 (by first | assumption | omega)) (z_ixn (show b < 100 by omega) (by decide)) ?_
  rw [oc_T]
  refine z_istore h dX5_moveTo_13 (by rw [hn]; decide) ?_
  have join_30 : z_V X 0 0 w 30 [(0, vr (35, 0)), (1, vi (nI i)), (2, vi (nI b)), (3, vi (F i)), (4, vi (T b))] [vi (z_b (ix_ok (F i) 100))] := by
    refine z_istore h dX5_moveTo_30 (by rw [hn]; decide) ?_
    have join_49 : z_V X 0 0 w 49 [(0, vr (35, 0)), (1, vi (nI i)), (2, vi (nI b)), (3, vi (F i)), (4, vi (T b)), (5, vi (z_b (ix_ok (F i) 100)))] [vi (z_b (ix_ok (T b) 8))] := by
      refine z_istore h dX5_moveTo_49 (by rw [hn]; decide) ?_
      refine z_iload h dX5_moveTo_51 rfl ?_
      refine z_if_eq h dX5_moveTo_53 63 (by decide) (fun c_5 => ?_) (fun c_5 => ?_)
      · skip
        refine z_iload h dX5_moveTo_63 rfl ?_
        refine z_if_eq h dX5_moveTo_65 76 (by decide) (fun c_6 => ?_) (fun c_6 => ?_)
        · skip
          refine z_aload_n h dX5_moveTo_76 rfl ?_
          refine y_getr h dX5_moveTo_77 hR flX5_24 (by first | assumption | exact Nat.le_of_ble_eq_true rfl) (by first | rfl | assumption | exact tx_2 (by first | assumption | omega) | exact tx_18 (by first | assumption | omega) | exact tx_19 (by first | assumption | omega) | exact tx_20 (by first | assumption | omega) | exact tx_27 (by first | assumption | omega) | exact tx_28 (by first | assumption | omega) | exact tx_30 (by first | assumption | omega) | exact tx_31 (by first | assumption | omega) | exact tx_32 (by first | assumption | omega) | exact tx_33 (by first | assumption | omega)) (by rfl) ?_
          refine z_iload_n h dX5_moveTo_80 rfl ?_
          refine z_iload_n h dX5_moveTo_81 rfl ?_
          refine y_iast h dX5_moveTo_82 hR (by first | assumption | exact Nat.le_of_ble_eq_true rfl) (by first | rfl | assumption | exact tx_2 (by first | assumption | omega) | exact tx_18 (by first | assumption | omega) | exact tx_19 (by first | assumption | omega) | exact tx_20 (by first | assumption | omega) | exact tx_27 (by first | assumption | omega) | exact tx_28 (by first | assumption | omega) | exact tx_30 (by first | assumption | omega) | exact tx_31 (by first | assumption | omega) | exact tx_32 (by first | assumption | omega) | exact tx_33 (by first | assumption | omega)) (z_ixn (show b < 100 by omega) (by decide)) (fun w hR => ?_)
          simp only [oc_sT, oc_sF] at hR
          refine z_aload_n h dX5_moveTo_83 rfl ?_
          refine y_getr h dX5_moveTo_84 hR flX5_18 (by first | assumption | exact Nat.le_of_ble_eq_true rfl) (by first | rfl | assumption | exact tx_2 (by first | assumption | omega) | exact tx_18 (by first | assumption | omega) | exact tx_19 (by first | assumption | omega) | exact tx_20 (by first | assumption | omega) | exact tx_27 (by first | assumption | omega) | exact tx_28 (by first | assumption | omega) | exact tx_30 (by first | assumption | omega) | exact tx_31 (by first | assumption | omega) | exact tx_32 (by first | assumption | omega) | exact tx_33 (by first | assumption | omega)) (by rfl) ?_
          refine z_iload_n h dX5_moveTo_87 rfl ?_
          refine z_iload_n h dX5_moveTo_88 rfl ?_
          refine y_iast h dX5_moveTo_89 hR (by first | assumption | exact Nat.le_of_ble_eq_true rfl) (by first | rfl | assumption | exact tx_2 (by first | assumption | omega) | exact tx_18 (by first | assumption | omega) | exact tx_19 (by first | assumption | omega) | exact tx_20 (by first | assumption | omega) | exact tx_27 (by first | assumption | omega) | exact tx_28 (by first | assumption | omega) | exact tx_30 (by first | assumption | omega) | exact tx_31 (by first | assumption | omega) | exact tx_32 (by first | assumption | omega) | exact tx_33 (by first | assumption | omega)) (z_ixn (show i < 8 by omega) (by decide)) (fun w hR => ?_)
          rw [oc_sF] at hR
          refine z_aload_n h dX5_moveTo_90 rfl ?_
          refine y_getr h dX5_moveTo_91 hR flX5_27 (by first | assumption | exact Nat.le_of_ble_eq_true rfl) (by first | rfl | assumption | exact tx_2 (by first | assumption | omega) | exact tx_18 (by first | assumption | omega) | exact tx_19 (by first | assumption | omega) | exact tx_20 (by first | assumption | omega) | exact tx_27 (by first | assumption | omega) | exact tx_28 (by first | assumption | omega) | exact tx_30 (by first | assumption | omega) | exact tx_31 (by first | assumption | omega) | exact tx_32 (by first | assumption | omega) | exact tx_33 (by first | assumption | omega)) (by rfl) ?_
          refine z_iload_n h dX5_moveTo_94 rfl ?_
          refine z_iconst (v := 1) h dX5_moveTo_95 (by decide) ?_
          refine y_zast h dX5_moveTo_96 hR (by first | assumption | exact Nat.le_of_ble_eq_true rfl) (by first | rfl | assumption | exact tx_2 (by first | assumption | omega) | exact tx_18 (by first | assumption | omega) | exact tx_19 (by first | assumption | omega) | exact tx_20 (by first | assumption | omega) | exact tx_27 (by first | assumption | omega) | exact tx_28 (by first | assumption | omega) | exact tx_30 (by first | assumption | omega) | exact tx_31 (by first | assumption | omega) | exact tx_32 (by first | assumption | omega) | exact tx_33 (by first | assumption | omega)) (z_ixn (show b < 100 by omega) (by decide)) (by decide) (fun w hR => ?_)
          have eT : mvT F T i b = upd (T) b (nI i) := by unfold mvT; rw [if_neg (z_bf c_5)]
          have eF : mvF F T i b = upd (F) i (nI b) := by unfold mvF; rw [if_neg (z_bf c_6)]
          rw [oc_sP, ← eT, ← eF] at hR
          refine z_iload h dX5_moveTo_97 rfl ?_
          refine z_if_eq h dX5_moveTo_99 115 (by decide) (fun c_7 => ?_) (fun c_7 => ?_)
          · skip
            refine z_iconst (v := 1) h dX5_moveTo_115 (by decide) ?_
            exact z_zret h dX5_moveTo_116 hr rfl (⟨z_e1 (by unfold mvt; rw [if_pos (fun q => z_bf c_5 q.1)]), _, _, by unfold mvt; rw [if_pos (fun q => z_bf c_5 q.1)]; exact hR⟩)
          · skip
            exact absurd c_5 c_7
        · skip
          refine z_aload_n h dX5_moveTo_68 rfl ?_
          refine y_getr h dX5_moveTo_69 hR flX5_18 (by first | assumption | exact Nat.le_of_ble_eq_true rfl) (by first | rfl | assumption | exact tx_2 (by first | assumption | omega) | exact tx_18 (by first | assumption | omega) | exact tx_19 (by first | assumption | omega) | exact tx_20 (by first | assumption | omega) | exact tx_27 (by first | assumption | omega) | exact tx_28 (by first | assumption | omega) | exact tx_30 (by first | assumption | omega) | exact tx_31 (by first | assumption | omega) | exact tx_32 (by first | assumption | omega) | exact tx_33 (by first | assumption | omega)) (by rfl) ?_
          refine z_iload h dX5_moveTo_72 rfl ?_
          refine z_iconst (v := -1) h dX5_moveTo_74 (by decide) ?_
          refine y_iast h dX5_moveTo_75 hR (by first | assumption | exact Nat.le_of_ble_eq_true rfl) (by first | rfl | assumption | exact tx_2 (by first | assumption | omega) | exact tx_18 (by first | assumption | omega) | exact tx_19 (by first | assumption | omega) | exact tx_20 (by first | assumption | omega) | exact tx_27 (by first | assumption | omega) | exact tx_28 (by first | assumption | omega) | exact tx_30 (by first | assumption | omega) | exact tx_31 (by first | assumption | omega) | exact tx_32 (by first | assumption | omega) | exact tx_33 (by first | assumption | omega)) (z_ixc (n := 8) (z_bt c_6).1 (z_bt c_6).2 (by decide)) (fun w hR => ?_)
          refine z_aload_n h dX5_moveTo_76 rfl ?_
          refine y_getr h dX5_moveTo_77 hR flX5_24 (by first | assumption | exact Nat.le_of_ble_eq_true rfl) (by first | rfl | assumption | exact tx_2 (by first | assumption | omega) | exact tx_18 (by first | assumption | omega) | exact tx_19 (by first | assumption | omega) | exact tx_20 (by first | assumption | omega) | exact tx_27 (by first | assumption | omega) | exact tx_28 (by first | assumption | omega) | exact tx_30 (by first | assumption | omega) | exact tx_31 (by first | assumption | omega) | exact tx_32 (by first | assumption | omega) | exact tx_33 (by first | assumption | omega)) (by rfl) ?_
          refine z_iload_n h dX5_moveTo_80 rfl ?_
          refine z_iload_n h dX5_moveTo_81 rfl ?_
          refine y_iast h dX5_moveTo_82 hR (by first | assumption | exact Nat.le_of_ble_eq_true rfl) (by first | rfl | assumption | exact tx_2 (by first | assumption | omega) | exact tx_18 (by first | assumption | omega) | exact tx_19 (by first | assumption | omega) | exact tx_20 (by first | assumption | omega) | exact tx_27 (by first | assumption | omega) | exact tx_28 (by first | assumption | omega) | exact tx_30 (by first | assumption | omega) | exact tx_31 (by first | assumption | omega) | exact tx_32 (by first | assumption | omega) | exact tx_33 (by first | assumption | omega)) (z_ixn (show b < 100 by omega) (by decide)) (fun w hR => ?_)
          simp only [oc_sT, oc_sF] at hR
          refine z_aload_n h dX5_moveTo_83 rfl ?_
          refine y_getr h dX5_moveTo_84 hR flX5_18 (by first | assumption | exact Nat.le_of_ble_eq_true rfl) (by first | rfl | assumption | exact tx_2 (by first | assumption | omega) | exact tx_18 (by first | assumption | omega) | exact tx_19 (by first | assumption | omega) | exact tx_20 (by first | assumption | omega) | exact tx_27 (by first | assumption | omega) | exact tx_28 (by first | assumption | omega) | exact tx_30 (by first | assumption | omega) | exact tx_31 (by first | assumption | omega) | exact tx_32 (by first | assumption | omega) | exact tx_33 (by first | assumption | omega)) (by rfl) ?_
          refine z_iload_n h dX5_moveTo_87 rfl ?_
          refine z_iload_n h dX5_moveTo_88 rfl ?_
          refine y_iast h dX5_moveTo_89 hR (by first | assumption | exact Nat.le_of_ble_eq_true rfl) (by first | rfl | assumption | exact tx_2 (by first | assumption | omega) | exact tx_18 (by first | assumption | omega) | exact tx_19 (by first | assumption | omega) | exact tx_20 (by first | assumption | omega) | exact tx_27 (by first | assumption | omega) | exact tx_28 (by first | assumption | omega) | exact tx_30 (by first | assumption | omega) | exact tx_31 (by first | assumption | omega) | exact tx_32 (by first | assumption | omega) | exact tx_33 (by first | assumption | omega)) (z_ixn (show i < 8 by omega) (by decide)) (fun w hR => ?_)
          rw [oc_sF] at hR
          refine z_aload_n h dX5_moveTo_90 rfl ?_
          refine y_getr h dX5_moveTo_91 hR flX5_27 (by first | assumption | exact Nat.le_of_ble_eq_true rfl) (by first | rfl | assumption | exact tx_2 (by first | assumption | omega) | exact tx_18 (by first | assumption | omega) | exact tx_19 (by first | assumption | omega) | exact tx_20 (by first | assumption | omega) | exact tx_27 (by first | assumption | omega) | exact tx_28 (by first | assumption | omega) | exact tx_30 (by first | assumption | omega) | exact tx_31 (by first | assumption | omega) | exact tx_32 (by first | assumption | omega) | exact tx_33 (by first | assumption | omega)) (by rfl) ?_
          refine z_iload_n h dX5_moveTo_94 rfl ?_
          refine z_iconst (v := 1) h dX5_moveTo_95 (by decide) ?_
          refine y_zast h dX5_moveTo_96 hR (by first | assumption | exact Nat.le_of_ble_eq_true rfl) (by first | rfl | assumption | exact tx_2 (by first | assumption | omega) | exact tx_18 (by first | assumption | omega) | exact tx_19 (by first | assumption | omega) | exact tx_20 (by first | assumption | omega) | exact tx_27 (by first | assumption | omega) | exact tx_28 (by first | assumption | omega) | exact tx_30 (by first | assumption | omega) | exact tx_31 (by first | assumption | omega) | exact tx_32 (by first | assumption | omega) | exact tx_33 (by first | assumption | omega)) (z_ixn (show b < 100 by omega) (by decide)) (by decide) (fun w hR => ?_)
          have eT : mvT F T i b = upd (T) b (nI i) := by unfold mvT; rw [if_neg (z_bf c_5)]
          have eF : mvF F T i b = upd (upd F (T b).toNatClampNeg (-1)) i (nI b) := by unfold mvF; rw [if_pos (z_bt c_6)]
          rw [oc_sP, ← eT, ← eF] at hR
          refine z_iload h dX5_moveTo_97 rfl ?_
          refine z_if_eq h dX5_moveTo_99 115 (by decide) (fun c_7 => ?_) (fun c_7 => ?_)
          · skip
            refine z_iconst (v := 1) h dX5_moveTo_115 (by decide) ?_
            exact z_zret h dX5_moveTo_116 hr rfl (⟨z_e1 (by unfold mvt; rw [if_pos (fun q => z_bf c_5 q.1)]), _, _, by unfold mvt; rw [if_pos (fun q => z_bf c_5 q.1)]; exact hR⟩)
          · skip
            exact absurd c_5 c_7
      · skip
        refine z_aload_n h dX5_moveTo_56 rfl ?_
        refine y_getr h dX5_moveTo_57 hR flX5_24 (by first | assumption | exact Nat.le_of_ble_eq_true rfl) (by first | rfl | assumption | exact tx_2 (by first | assumption | omega) | exact tx_18 (by first | assumption | omega) | exact tx_19 (by first | assumption | omega) | exact tx_20 (by first | assumption | omega) | exact tx_27 (by first | assumption | omega) | exact tx_28 (by first | assumption | omega) | exact tx_30 (by first | assumption | omega) | exact tx_31 (by first | assumption | omega) | exact tx_32 (by first | assumption | omega) | exact tx_33 (by first | assumption | omega)) (by rfl) ?_
        refine z_iload_n h dX5_moveTo_60 rfl ?_
        refine z_iconst (v := -1) h dX5_moveTo_61 (by decide) ?_
        refine y_iast h dX5_moveTo_62 hR (by first | assumption | exact Nat.le_of_ble_eq_true rfl) (by first | rfl | assumption | exact tx_2 (by first | assumption | omega) | exact tx_18 (by first | assumption | omega) | exact tx_19 (by first | assumption | omega) | exact tx_20 (by first | assumption | omega) | exact tx_27 (by first | assumption | omega) | exact tx_28 (by first | assumption | omega) | exact tx_30 (by first | assumption | omega) | exact tx_31 (by first | assumption | omega) | exact tx_32 (by first | assumption | omega) | exact tx_33 (by first | assumption | omega)) (z_ixc (n := 100) (z_bt c_5).1 (z_bt c_5).2 (by decide)) (fun w hR => ?_)
        refine z_iload h dX5_moveTo_63 rfl ?_
        refine z_if_eq h dX5_moveTo_65 76 (by decide) (fun c_6 => ?_) (fun c_6 => ?_)
        · skip
          refine z_aload_n h dX5_moveTo_76 rfl ?_
          refine y_getr h dX5_moveTo_77 hR flX5_24 (by first | assumption | exact Nat.le_of_ble_eq_true rfl) (by first | rfl | assumption | exact tx_2 (by first | assumption | omega) | exact tx_18 (by first | assumption | omega) | exact tx_19 (by first | assumption | omega) | exact tx_20 (by first | assumption | omega) | exact tx_27 (by first | assumption | omega) | exact tx_28 (by first | assumption | omega) | exact tx_30 (by first | assumption | omega) | exact tx_31 (by first | assumption | omega) | exact tx_32 (by first | assumption | omega) | exact tx_33 (by first | assumption | omega)) (by rfl) ?_
          refine z_iload_n h dX5_moveTo_80 rfl ?_
          refine z_iload_n h dX5_moveTo_81 rfl ?_
          refine y_iast h dX5_moveTo_82 hR (by first | assumption | exact Nat.le_of_ble_eq_true rfl) (by first | rfl | assumption | exact tx_2 (by first | assumption | omega) | exact tx_18 (by first | assumption | omega) | exact tx_19 (by first | assumption | omega) | exact tx_20 (by first | assumption | omega) | exact tx_27 (by first | assumption | omega) | exact tx_28 (by first | assumption | omega) | exact tx_30 (by first | assumption | omega) | exact tx_31 (by first | assumption | omega) | exact tx_32 (by first | assumption | omega) | exact tx_33 (by first | assumption | omega)) (z_ixn (show b < 100 by omega) (by decide)) (fun w hR => ?_)
          simp only [oc_sT, oc_sF] at hR
          refine z_aload_n h dX5_moveTo_83 rfl ?_
          refine y_getr h dX5_moveTo_84 hR flX5_18 (by first | assumption | exact Nat.le_of_ble_eq_true rfl) (by first | rfl | assumption | exact tx_2 (by first | assumption | omega) | exact tx_18 (by first | assumption | omega) | exact tx_19 (by first | assumption | omega) | exact tx_20 (by first | assumption | omega) | exact tx_27 (by first | assumption | omega) | exact tx_28 (by first | assumption | omega) | exact tx_30 (by first | assumption | omega) | exact tx_31 (by first | assumption | omega) | exact tx_32 (by first | assumption | omega) | exact tx_33 (by first | assumption | omega)) (by rfl) ?_
          refine z_iload_n h dX5_moveTo_87 rfl ?_
          refine z_iload_n h dX5_moveTo_88 rfl ?_
          refine y_iast h dX5_moveTo_89 hR (by first | assumption | exact Nat.le_of_ble_eq_true rfl) (by first | rfl | assumption | exact tx_2 (by first | assumption | omega) | exact tx_18 (by first | assumption | omega) | exact tx_19 (by first | assumption | omega) | exact tx_20 (by first | assumption | omega) | exact tx_27 (by first | assumption | omega) | exact tx_28 (by first | assumption | omega) | exact tx_30 (by first | assumption | omega) | exact tx_31 (by first | assumption | omega) | exact tx_32 (by first | assumption | omega) | exact tx_33 (by first | assumption | omega)) (z_ixn (show i < 8 by omega) (by decide)) (fun w hR => ?_)
          rw [oc_sF] at hR
          refine z_aload_n h dX5_moveTo_90 rfl ?_
          refine y_getr h dX5_moveTo_91 hR flX5_27 (by first | assumption | exact Nat.le_of_ble_eq_true rfl) (by first | rfl | assumption | exact tx_2 (by first | assumption | omega) | exact tx_18 (by first | assumption | omega) | exact tx_19 (by first | assumption | omega) | exact tx_20 (by first | assumption | omega) | exact tx_27 (by first | assumption | omega) | exact tx_28 (by first | assumption | omega) | exact tx_30 (by first | assumption | omega) | exact tx_31 (by first | assumption | omega) | exact tx_32 (by first | assumption | omega) | exact tx_33 (by first | assumption | omega)) (by rfl) ?_
          refine z_iload_n h dX5_moveTo_94 rfl ?_
          refine z_iconst (v := 1) h dX5_moveTo_95 (by decide) ?_
          refine y_zast h dX5_moveTo_96 hR (by first | assumption | exact Nat.le_of_ble_eq_true rfl) (by first | rfl | assumption | exact tx_2 (by first | assumption | omega) | exact tx_18 (by first | assumption | omega) | exact tx_19 (by first | assumption | omega) | exact tx_20 (by first | assumption | omega) | exact tx_27 (by first | assumption | omega) | exact tx_28 (by first | assumption | omega) | exact tx_30 (by first | assumption | omega) | exact tx_31 (by first | assumption | omega) | exact tx_32 (by first | assumption | omega) | exact tx_33 (by first | assumption | omega)) (z_ixn (show b < 100 by omega) (by decide)) (by decide) (fun w hR => ?_)
          have eT : mvT F T i b = upd (upd T (F i).toNatClampNeg (-1)) b (nI i) := by unfold mvT; rw [if_pos (z_bt c_5)]
          have eF : mvF F T i b = upd (F) i (nI b) := by unfold mvF; rw [if_neg (z_bf c_6)]
          rw [oc_sP, ← eT, ← eF] at hR
          refine z_iload h dX5_moveTo_97 rfl ?_
          refine z_if_eq h dX5_moveTo_99 115 (by decide) (fun c_7 => ?_) (fun c_7 => ?_)
          · skip
            exact absurd c_7 c_5
          · skip
            refine z_iload h dX5_moveTo_102 rfl ?_
            refine z_if_eq h dX5_moveTo_104 115 (by decide) (fun c_8 => ?_) (fun c_8 => ?_)
            · skip
              refine z_iconst (v := 1) h dX5_moveTo_115 (by decide) ?_
              exact z_zret h dX5_moveTo_116 hr rfl (⟨z_e1 (by unfold mvt; rw [if_pos (fun q => z_bf c_6 q.2)]), _, _, by unfold mvt; rw [if_pos (fun q => z_bf c_6 q.2)]; exact hR⟩)
            · skip
              exact absurd c_6 c_8
        · skip
          refine z_aload_n h dX5_moveTo_68 rfl ?_
          refine y_getr h dX5_moveTo_69 hR flX5_18 (by first | assumption | exact Nat.le_of_ble_eq_true rfl) (by first | rfl | assumption | exact tx_2 (by first | assumption | omega) | exact tx_18 (by first | assumption | omega) | exact tx_19 (by first | assumption | omega) | exact tx_20 (by first | assumption | omega) | exact tx_27 (by first | assumption | omega) | exact tx_28 (by first | assumption | omega) | exact tx_30 (by first | assumption | omega) | exact tx_31 (by first | assumption | omega) | exact tx_32 (by first | assumption | omega) | exact tx_33 (by first | assumption | omega)) (by rfl) ?_
          refine z_iload h dX5_moveTo_72 rfl ?_
          refine z_iconst (v := -1) h dX5_moveTo_74 (by decide) ?_
          refine y_iast h dX5_moveTo_75 hR (by first | assumption | exact Nat.le_of_ble_eq_true rfl) (by first | rfl | assumption | exact tx_2 (by first | assumption | omega) | exact tx_18 (by first | assumption | omega) | exact tx_19 (by first | assumption | omega) | exact tx_20 (by first | assumption | omega) | exact tx_27 (by first | assumption | omega) | exact tx_28 (by first | assumption | omega) | exact tx_30 (by first | assumption | omega) | exact tx_31 (by first | assumption | omega) | exact tx_32 (by first | assumption | omega) | exact tx_33 (by first | assumption | omega)) (z_ixc (n := 8) (z_bt c_6).1 (z_bt c_6).2 (by decide)) (fun w hR => ?_)
          refine z_aload_n h dX5_moveTo_76 rfl ?_
          refine y_getr h dX5_moveTo_77 hR flX5_24 (by first | assumption | exact Nat.le_of_ble_eq_true rfl) (by first | rfl | assumption | exact tx_2 (by first | assumption | omega) | exact tx_18 (by first | assumption | omega) | exact tx_19 (by first | assumption | omega) | exact tx_20 (by first | assumption | omega) | exact tx_27 (by first | assumption | omega) | exact tx_28 (by first | assumption | omega) | exact tx_30 (by first | assumption | omega) | exact tx_31 (by first | assumption | omega) | exact tx_32 (by first | assumption | omega) | exact tx_33 (by first | assumption | omega)) (by rfl) ?_
          refine z_iload_n h dX5_moveTo_80 rfl ?_
          refine z_iload_n h dX5_moveTo_81 rfl ?_
          refine y_iast h dX5_moveTo_82 hR (by first | assumption | exact Nat.le_of_ble_eq_true rfl) (by first | rfl | assumption | exact tx_2 (by first | assumption | omega) | exact tx_18 (by first | assumption | omega) | exact tx_19 (by first | assumption | omega) | exact tx_20 (by first | assumption | omega) | exact tx_27 (by first | assumption | omega) | exact tx_28 (by first | assumption | omega) | exact tx_30 (by first | assumption | omega) | exact tx_31 (by first | assumption | omega) | exact tx_32 (by first | assumption | omega) | exact tx_33 (by first | assumption | omega)) (z_ixn (show b < 100 by omega) (by decide)) (fun w hR => ?_)
          simp only [oc_sT, oc_sF] at hR
          refine z_aload_n h dX5_moveTo_83 rfl ?_
          refine y_getr h dX5_moveTo_84 hR flX5_18 (by first | assumption | exact Nat.le_of_ble_eq_true rfl) (by first | rfl | assumption | exact tx_2 (by first | assumption | omega) | exact tx_18 (by first | assumption | omega) | exact tx_19 (by first | assumption | omega) | exact tx_20 (by first | assumption | omega) | exact tx_27 (by first | assumption | omega) | exact tx_28 (by first | assumption | omega) | exact tx_30 (by first | assumption | omega) | exact tx_31 (by first | assumption | omega) | exact tx_32 (by first | assumption | omega) | exact tx_33 (by first | assumption | omega)) (by rfl) ?_
          refine z_iload_n h dX5_moveTo_87 rfl ?_
          refine z_iload_n h dX5_moveTo_88 rfl ?_
          refine y_iast h dX5_moveTo_89 hR (by first | assumption | exact Nat.le_of_ble_eq_true rfl) (by first | rfl | assumption | exact tx_2 (by first | assumption | omega) | exact tx_18 (by first | assumption | omega) | exact tx_19 (by first | assumption | omega) | exact tx_20 (by first | assumption | omega) | exact tx_27 (by first | assumption | omega) | exact tx_28 (by first | assumption | omega) | exact tx_30 (by first | assumption | omega) | exact tx_31 (by first | assumption | omega) | exact tx_32 (by first | assumption | omega) | exact tx_33 (by first | assumption | omega)) (z_ixn (show i < 8 by omega) (by decide)) (fun w hR => ?_)
          rw [oc_sF] at hR
          refine z_aload_n h dX5_moveTo_90 rfl ?_
          refine y_getr h dX5_moveTo_91 hR flX5_27 (by first | assumption | exact Nat.le_of_ble_eq_true rfl) (by first | rfl | assumption | exact tx_2 (by first | assumption | omega) | exact tx_18 (by first | assumption | omega) | exact tx_19 (by first | assumption | omega) | exact tx_20 (by first | assumption | omega) | exact tx_27 (by first | assumption | omega) | exact tx_28 (by first | assumption | omega) | exact tx_30 (by first | assumption | omega) | exact tx_31 (by first | assumption | omega) | exact tx_32 (by first | assumption | omega) | exact tx_33 (by first | assumption | omega)) (by rfl) ?_
          refine z_iload_n h dX5_moveTo_94 rfl ?_
          refine z_iconst (v := 1) h dX5_moveTo_95 (by decide) ?_
          refine y_zast h dX5_moveTo_96 hR (by first | assumption | exact Nat.le_of_ble_eq_true rfl) (by first | rfl | assumption | exact tx_2 (by first | assumption | omega) | exact tx_18 (by first | assumption | omega) | exact tx_19 (by first | assumption | omega) | exact tx_20 (by first | assumption | omega) | exact tx_27 (by first | assumption | omega) | exact tx_28 (by first | assumption | omega) | exact tx_30 (by first | assumption | omega) | exact tx_31 (by first | assumption | omega) | exact tx_32 (by first | assumption | omega) | exact tx_33 (by first | assumption | omega)) (z_ixn (show b < 100 by omega) (by decide)) (by decide) (fun w hR => ?_)
          have eT : mvT F T i b = upd (upd T (F i).toNatClampNeg (-1)) b (nI i) := by unfold mvT; rw [if_pos (z_bt c_5)]
          have eF : mvF F T i b = upd (upd F (T b).toNatClampNeg (-1)) i (nI b) := by unfold mvF; rw [if_pos (z_bt c_6)]
          rw [oc_sP, ← eT, ← eF] at hR
          refine z_iload h dX5_moveTo_97 rfl ?_
          refine z_if_eq h dX5_moveTo_99 115 (by decide) (fun c_7 => ?_) (fun c_7 => ?_)
          · skip
            exact absurd c_7 c_5
          · skip
            refine z_iload h dX5_moveTo_102 rfl ?_
            refine z_if_eq h dX5_moveTo_104 115 (by decide) (fun c_8 => ?_) (fun c_8 => ?_)
            · skip
              exact absurd c_8 c_6
            · skip
              refine z_aload_n h dX5_moveTo_107 rfl ?_
              refine z_iload_n h dX5_moveTo_108 rfl ?_
              refine z_callV h dX5_moveTo_109 (fun _ _ q => z_okv_no he q) (fun _ _ _ t q => absurd q (he t)) (m_X5_findBarAfter _ hR hc9 hna no hco hno i hi) ym_X5_findBarAfter mlX5_87 im_X5_findBarAfter (ci := 5) rfl se_X5_findBarAfter icX5 rfl (r_p.ob hR (by first | assumption | exact Nat.le_of_ble_eq_true rfl) (by first | rfl | assumption | exact tx_2 (by first | assumption | omega) | exact tx_18 (by first | assumption | omega) | exact tx_19 (by first | assumption | omega) | exact tx_20 (by first | assumption | omega) | exact tx_27 (by first | assumption | omega) | exact tx_28 (by first | assumption | omega) | exact tx_30 (by first | assumption | omega) | exact tx_31 (by first | assumption | omega) | exact tx_32 (by first | assumption | omega) | exact tx_33 (by first | assumption | omega))) rfl (by decide) (Nat.le_of_ble_eq_true rfl) ?_
              rintro q1 w ⟨rfl, K2, Q2, hR⟩
              have hR : r_p dX (TX nb na np g) w0 (OC c (mvr (c (39, 0)) P na no F T i b).2.1 (mvr (c (39, 0)) P na no F T i b).2.2 (upd P b 1) K2 Q2) l r w := hR
              refine z_toe (y := (mvr (c (39, 0)) P na no F T i b).1) rfl ?_
              refine z_if_eq h dX5_moveTo_112 117 (by decide) (fun c_9 => ?_) (fun c_9 => ?_)
              · skip
                have e9 : (mvr (c (39, 0)) P na no F T i b).2 = (mvF F T i b, mvT F T i b) := (fba_01 (c (39, 0)) (upd P b 1) na (mvF F T i b) (mvT F T i b) (no - (i + 1)) (i + 1)).elim (fun q => q.2) (fun q => by have q2 : (mvr (c (39, 0)) P na no F T i b).1 = 1 := q; rw [q2] at c_9; exact absurd c_9 (by decide))
                rw [e9] at hR
                refine z_aload_n h dX5_moveTo_117 rfl ?_
                refine y_getr h dX5_moveTo_118 hR flX5_27 (by first | assumption | exact Nat.le_of_ble_eq_true rfl) (by first | rfl | assumption | exact tx_2 (by first | assumption | omega) | exact tx_18 (by first | assumption | omega) | exact tx_19 (by first | assumption | omega) | exact tx_20 (by first | assumption | omega) | exact tx_27 (by first | assumption | omega) | exact tx_28 (by first | assumption | omega) | exact tx_30 (by first | assumption | omega) | exact tx_31 (by first | assumption | omega) | exact tx_32 (by first | assumption | omega) | exact tx_33 (by first | assumption | omega)) (by rfl) ?_
                refine z_iload_n h dX5_moveTo_121 rfl ?_
                refine z_iconst (v := 0) h dX5_moveTo_122 (by decide) ?_
                refine y_zast h dX5_moveTo_123 hR (by first | assumption | exact Nat.le_of_ble_eq_true rfl) (by first | rfl | assumption | exact tx_2 (by first | assumption | omega) | exact tx_18 (by first | assumption | omega) | exact tx_19 (by first | assumption | omega) | exact tx_20 (by first | assumption | omega) | exact tx_27 (by first | assumption | omega) | exact tx_28 (by first | assumption | omega) | exact tx_30 (by first | assumption | omega) | exact tx_31 (by first | assumption | omega) | exact tx_32 (by first | assumption | omega) | exact tx_33 (by first | assumption | omega)) (z_ixn (show b < 100 by omega) (by decide)) (by decide) (fun w hR => ?_)
                rw [oc_sP] at hR
                refine z_aload_n h dX5_moveTo_124 rfl ?_
                refine y_getr h dX5_moveTo_125 hR flX5_24 (by first | assumption | exact Nat.le_of_ble_eq_true rfl) (by first | rfl | assumption | exact tx_2 (by first | assumption | omega) | exact tx_18 (by first | assumption | omega) | exact tx_19 (by first | assumption | omega) | exact tx_20 (by first | assumption | omega) | exact tx_27 (by first | assumption | omega) | exact tx_28 (by first | assumption | omega) | exact tx_30 (by first | assumption | omega) | exact tx_31 (by first | assumption | omega) | exact tx_32 (by first | assumption | omega) | exact tx_33 (by first | assumption | omega)) (by rfl) ?_
                refine z_iload_n h dX5_moveTo_128 rfl ?_
                refine z_iload_n h dX5_moveTo_129 rfl ?_
                refine y_iast h dX5_moveTo_130 hR (by first | assumption | exact Nat.le_of_ble_eq_true rfl) (by first | rfl | assumption | exact tx_2 (by first | assumption | omega) | exact tx_18 (by first | assumption | omega) | exact tx_19 (by first | assumption | omega) | exact tx_20 (by first | assumption | omega) | exact tx_27 (by first | assumption | omega) | exact tx_28 (by first | assumption | omega) | exact tx_30 (by first | assumption | omega) | exact tx_31 (by first | assumption | omega) | exact tx_32 (by first | assumption | omega) | exact tx_33 (by first | assumption | omega)) (z_ixc (n := 100) (z_bt c_5).1 (z_bt c_5).2 (by decide)) (fun w hR => ?_)
                rw [oc_sT] at hR
                refine z_aload_n h dX5_moveTo_131 rfl ?_
                refine y_getr h dX5_moveTo_132 hR flX5_24 (by first | assumption | exact Nat.le_of_ble_eq_true rfl) (by first | rfl | assumption | exact tx_2 (by first | assumption | omega) | exact tx_18 (by first | assumption | omega) | exact tx_19 (by first | assumption | omega) | exact tx_20 (by first | assumption | omega) | exact tx_27 (by first | assumption | omega) | exact tx_28 (by first | assumption | omega) | exact tx_30 (by first | assumption | omega) | exact tx_31 (by first | assumption | omega) | exact tx_32 (by first | assumption | omega) | exact tx_33 (by first | assumption | omega)) (by rfl) ?_
                refine z_iload_n h dX5_moveTo_135 rfl ?_
                refine z_iload h dX5_moveTo_136 rfl ?_
                refine y_iast h dX5_moveTo_138 hR (by first | assumption | exact Nat.le_of_ble_eq_true rfl) (by first | rfl | assumption | exact tx_2 (by first | assumption | omega) | exact tx_18 (by first | assumption | omega) | exact tx_19 (by first | assumption | omega) | exact tx_20 (by first | assumption | omega) | exact tx_27 (by first | assumption | omega) | exact tx_28 (by first | assumption | omega) | exact tx_30 (by first | assumption | omega) | exact tx_31 (by first | assumption | omega) | exact tx_32 (by first | assumption | omega) | exact tx_33 (by first | assumption | omega)) (z_ixn (show b < 100 by omega) (by decide)) (fun w hR => ?_)
                rw [oc_sT] at hR
                refine z_aload_n h dX5_moveTo_139 rfl ?_
                refine y_getr h dX5_moveTo_140 hR flX5_18 (by first | assumption | exact Nat.le_of_ble_eq_true rfl) (by first | rfl | assumption | exact tx_2 (by first | assumption | omega) | exact tx_18 (by first | assumption | omega) | exact tx_19 (by first | assumption | omega) | exact tx_20 (by first | assumption | omega) | exact tx_27 (by first | assumption | omega) | exact tx_28 (by first | assumption | omega) | exact tx_30 (by first | assumption | omega) | exact tx_31 (by first | assumption | omega) | exact tx_32 (by first | assumption | omega) | exact tx_33 (by first | assumption | omega)) (by rfl) ?_
                refine z_iload_n h dX5_moveTo_143 rfl ?_
                refine z_iload_n h dX5_moveTo_144 rfl ?_
                refine y_iast h dX5_moveTo_145 hR (by first | assumption | exact Nat.le_of_ble_eq_true rfl) (by first | rfl | assumption | exact tx_2 (by first | assumption | omega) | exact tx_18 (by first | assumption | omega) | exact tx_19 (by first | assumption | omega) | exact tx_20 (by first | assumption | omega) | exact tx_27 (by first | assumption | omega) | exact tx_28 (by first | assumption | omega) | exact tx_30 (by first | assumption | omega) | exact tx_31 (by first | assumption | omega) | exact tx_32 (by first | assumption | omega) | exact tx_33 (by first | assumption | omega)) (z_ixn (show i < 8 by omega) (by decide)) (fun w hR => ?_)
                rw [oc_sF] at hR
                refine z_aload_n h dX5_moveTo_146 rfl ?_
                refine y_getr h dX5_moveTo_147 hR flX5_18 (by first | assumption | exact Nat.le_of_ble_eq_true rfl) (by first | rfl | assumption | exact tx_2 (by first | assumption | omega) | exact tx_18 (by first | assumption | omega) | exact tx_19 (by first | assumption | omega) | exact tx_20 (by first | assumption | omega) | exact tx_27 (by first | assumption | omega) | exact tx_28 (by first | assumption | omega) | exact tx_30 (by first | assumption | omega) | exact tx_31 (by first | assumption | omega) | exact tx_32 (by first | assumption | omega) | exact tx_33 (by first | assumption | omega)) (by rfl) ?_
                refine z_iload h dX5_moveTo_150 rfl ?_
                refine z_iload_n h dX5_moveTo_152 rfl ?_
                refine y_iast h dX5_moveTo_153 hR (by first | assumption | exact Nat.le_of_ble_eq_true rfl) (by first | rfl | assumption | exact tx_2 (by first | assumption | omega) | exact tx_18 (by first | assumption | omega) | exact tx_19 (by first | assumption | omega) | exact tx_20 (by first | assumption | omega) | exact tx_27 (by first | assumption | omega) | exact tx_28 (by first | assumption | omega) | exact tx_30 (by first | assumption | omega) | exact tx_31 (by first | assumption | omega) | exact tx_32 (by first | assumption | omega) | exact tx_33 (by first | assumption | omega)) (z_ixc (n := 8) (z_bt c_6).1 (z_bt c_6).2 (by decide)) (fun w hR => ?_)
                rw [oc_sF] at hR
                refine z_iconst (v := 0) h dX5_moveTo_154 (by decide) ?_
                exact z_zret h dX5_moveTo_155 hr rfl (⟨z_e1 (by unfold mvt; rw [if_neg (fun q => q ⟨z_bt c_5, z_bt c_6⟩), if_neg (fun q => by rw [q] at c_9; exact absurd c_9 (by decide))]), _, _, by unfold mvt; rw [if_neg (fun q => q ⟨z_bt c_5, z_bt c_6⟩), if_neg (fun q => by rw [q] at c_9; exact absurd c_9 (by decide))]; exact hR⟩)
              · skip
                have e9 : (mvr (c (39, 0)) P na no F T i b).1 = 1 := (fba_01 (c (39, 0)) (upd P b 1) na (mvF F T i b) (mvT F T i b) (no - (i + 1)) (i + 1)).resolve_left (fun q => c_9 q.1)
                refine z_iconst (v := 1) h dX5_moveTo_115 (by decide) ?_
                exact z_zret h dX5_moveTo_116 hr rfl (⟨z_e1 (by unfold mvt; rw [if_neg (fun q => q ⟨z_bt c_5, z_bt c_6⟩), if_pos e9]), _, _, by unfold mvt; rw [if_neg (fun q => q ⟨z_bt c_5, z_bt c_6⟩), if_pos e9]; exact hR⟩)
    refine z_iload h dX5_moveTo_32 rfl ?_
    refine z_if_lt h dX5_moveTo_34 48 (by decide) (fun c_3 => ?_) (fun c_3 => ?_)
    · skip
      refine z_iconst (v := 0) h dX5_moveTo_48 (by decide) ?_
      refine z_toe (y := z_b (ix_ok (T b) 8)) ((z_b0 (fun q => q.1 c_3)).symm) ?_
      exact z_loc [(0, vr (35, 0)), (1, vi (nI i)), (2, vi (nI b)), (3, vi (F i)), (4, vi (T b)), (5, vi (z_b (ix_ok (F i) 100)))] ⟨rfl, rfl, rfl, rfl, rfl, rfl, trivial⟩ join_49
    · skip
      refine z_iload h dX5_moveTo_37 rfl ?_
      refine z_bipush (v := 8) h dX5_moveTo_39 (by decide) ?_
      refine z_icmp_ge h dX5_moveTo_41 48 (by decide) (fun c_4 => ?_) (fun c_4 => ?_)
      · skip
        refine z_iconst (v := 0) h dX5_moveTo_48 (by decide) ?_
        refine z_toe (y := z_b (ix_ok (T b) 8)) ((z_b0 (fun q => q.2 c_4)).symm) ?_
        exact z_loc [(0, vr (35, 0)), (1, vi (nI i)), (2, vi (nI b)), (3, vi (F i)), (4, vi (T b)), (5, vi (z_b (ix_ok (F i) 100)))] ⟨rfl, rfl, rfl, rfl, rfl, rfl, trivial⟩ join_49
      · skip
        refine z_iconst (v := 1) h dX5_moveTo_44 (by decide) ?_
        refine z_goto h dX5_moveTo_45 49 (by decide) ?_
        refine z_toe (y := z_b (ix_ok (T b) 8)) ((z_b1 ⟨c_3, c_4⟩).symm) ?_
        exact z_loc [(0, vr (35, 0)), (1, vi (nI i)), (2, vi (nI b)), (3, vi (F i)), (4, vi (T b)), (5, vi (z_b (ix_ok (F i) 100)))] ⟨rfl, rfl, rfl, rfl, rfl, rfl, trivial⟩ join_49
  refine z_iload_n h dX5_moveTo_15 rfl ?_
  refine z_if_lt h dX5_moveTo_16 29 (by decide) (fun c_1 => ?_) (fun c_1 => ?_)
  · skip
    refine z_iconst (v := 0) h dX5_moveTo_29 (by decide) ?_
    refine z_toe (y := z_b (ix_ok (F i) 100)) ((z_b0 (fun q => q.1 c_1)).symm) ?_
    exact z_loc [(0, vr (35, 0)), (1, vi (nI i)), (2, vi (nI b)), (3, vi (F i)), (4, vi (T b))] ⟨rfl, rfl, rfl, rfl, rfl, trivial⟩ join_30
  · skip
    refine z_iload_n h dX5_moveTo_19 rfl ?_
    refine z_bipush (v := 100) h dX5_moveTo_20 (by decide) ?_
    refine z_icmp_ge h dX5_moveTo_22 29 (by decide) (fun c_2 => ?_) (fun c_2 => ?_)
    · skip
      refine z_iconst (v := 0) h dX5_moveTo_29 (by decide) ?_
      refine z_toe (y := z_b (ix_ok (F i) 100)) ((z_b0 (fun q => q.2 c_2)).symm) ?_
      exact z_loc [(0, vr (35, 0)), (1, vi (nI i)), (2, vi (nI b)), (3, vi (F i)), (4, vi (T b))] ⟨rfl, rfl, rfl, rfl, rfl, trivial⟩ join_30
    · skip
      refine z_iconst (v := 1) h dX5_moveTo_25 (by decide) ?_
      refine z_goto h dX5_moveTo_26 30 (by decide) ?_
      refine z_toe (y := z_b (ix_ok (F i) 100)) ((z_b1 ⟨c_1, c_2⟩).symm) ?_
      exact z_loc [(0, vr (35, 0)), (1, vi (nI i)), (2, vi (nI b)), (3, vi (F i)), (4, vi (T b))] ⟨rfl, rfl, rfl, rfl, rfl, trivial⟩ join_30
set_option maxHeartbeats 4000000 in
set_option maxRecDepth 100000 in
theorem m_X5_promiseLowest (G : z_G) {nb na np g : Nat} {w0 w : z_w} {c : r_c} {l : r_l} {r : r_r} {F T P K Q : Nat → Int32} (hR : r_p dX (TX nb na np g) w0 (OC c F T P K Q) l r w) (hc9 : c (35, 0) 9 = nI na) (hna : na ≤ 100) (no : Nat) (hco : c (35, 0) 3 = nI no) (hno : no ≤ 8) (i : Nat) (hi : i < no) : z_M G yX5_promiseLowest cX5_promiseLowest 4 none 5 (0) (0) [vr (35, 0), vi (nI i)] w (fun q w1 => q = none ∧ ∃ K1 Q1, r_p dX (TX nb na np g) w0 (OC c (pll (c (39, 0)) na no i na 0 F T P).1 (pll (c (39, 0)) na no i na 0 F T P).2.1 (pll (c (39, 0)) na no i na 0 F T P).2.2 K1 Q1) (l) (r) w1) := by
  refine z_met ym_X5_promiseLowest (by decide) ⟨Nat.le_of_ble_eq_true rfl, Nat.le_of_ble_eq_true rfl⟩ (fun X hG hn hmc hms hin h hr => ?_)
  have he := hr.2.2.2.2.2.1
  refine z_iconst (v := 0) h dX5_promiseLowest_0 (by decide) ?_
  refine z_istore_n h dX5_promiseLowest_1 (by rw [hn]; decide) ?_
  have loop_2 : ∀ (n_ : Nat) (y : Nat) (F1 T1 P1 K1 Q1 : Nat → Int32) (w : z_w), r_p dX (TX nb na np g) w0 (OC c F1 T1 P1 K1 Q1) l r w → pll (c (39, 0)) na no i (na - y) y F1 T1 P1 = pll (c (39, 0)) na no i na 0 F T P → y ≤ na → na + 1 ≤ y + n_ → z_V X 0 0 w 2 [(0, vr (35, 0)), (1, vi (nI i)), (2, vi (nI y))] [] := by
    intro n_
    induction n_ with
    | zero => intros; omega
    | succ n_ ih_2 =>
      intro y F1 T1 P1 K1 Q1 w hR hH hy hN
      refine z_iload_n h dX5_promiseLowest_2 rfl ?_
      refine z_aload_n h dX5_promiseLowest_3 rfl ?_
      refine y_geti h dX5_promiseLowest_4 hR flX5_47 (by first | assumption | exact Nat.le_of_ble_eq_true rfl) (by first | rfl | assumption | exact tx_2 (by first | assumption | omega) | exact tx_18 (by first | assumption | omega) | exact tx_19 (by first | assumption | omega) | exact tx_20 (by first | assumption | omega) | exact tx_27 (by first | assumption | omega) | exact tx_28 (by first | assumption | omega) | exact tx_30 (by first | assumption | omega) | exact tx_31 (by first | assumption | omega) | exact tx_32 (by first | assumption | omega) | exact tx_33 (by first | assumption | omega)) (by rfl) ?_
      rw [oc_sz, hc9]
      refine z_icmp_ge h dX5_promiseLowest_7 75 (by decide) (fun c_1 => ?_) (fun c_1 => ?_)
      · skip
        have e1 : na ≤ y := (nI_leI (by omega) (by omega)).mp c_1
        exact z_vret h dX5_promiseLowest_75 hr (⟨rfl, _, _, by rw [← hH, show na - y = 0 by omega, pll]; exact hR⟩)
      · skip
        have e1 : ¬ na ≤ y := fun q => c_1 ((nI_leI (by omega) (by omega)).mpr q)
        have join_37 : z_V X 0 0 w 37 [(0, vr (35, 0)), (1, vi (nI i)), (2, vi (nI y))] [vi (z_b (¬ (c (39, 0) y >>> (nI i &&& 31)) &&& 1 = 0 ∧ P1 y = 0))] := by
          refine z_istore_n h dX5_promiseLowest_37 (by rw [hn]; decide) ?_
          refine z_iload_n h dX5_promiseLowest_38 rfl ?_
          refine z_if_eq h dX5_promiseLowest_39 69 (by decide) (fun c_4 => ?_) (fun c_4 => ?_)
          · skip
            refine z_iinc (v := 1) h dX5_promiseLowest_69 rfl (by decide) (by rw [hn]; decide) ?_
            refine z_goto h dX5_promiseLowest_72 2 (by decide) ?_
            refine z_loc [(0, vr (35, 0)), (1, vi (nI i)), (2, vi (nI (y + 1)))] ⟨rfl, rfl, congrArg (fun z => some (vi z)) (z_up y), trivial⟩ ?_
            exact ih_2 (y + 1) F1 T1 P1 K1 Q1 w hR (by rw [← hH, show na - y = (na - (y + 1)) + 1 by omega, pll, if_neg (z_bf c_4)]) (by omega) (by omega)
          · skip
            refine z_aload_n h dX5_promiseLowest_42 rfl ?_
            refine y_getr h dX5_promiseLowest_43 hR flX5_18 (by first | assumption | exact Nat.le_of_ble_eq_true rfl) (by first | rfl | assumption | exact tx_2 (by first | assumption | omega) | exact tx_18 (by first | assumption | omega) | exact tx_19 (by first | assumption | omega) | exact tx_20 (by first | assumption | omega) | exact tx_27 (by first | assumption | omega) | exact tx_28 (by first | assumption | omega) | exact tx_30 (by first | assumption | omega) | exact tx_31 (by first | assumption | omega) | exact tx_32 (by first | assumption | omega) | exact tx_33 (by first | assumption | omega)) (by rfl) ?_
            refine z_iload_n h dX5_promiseLowest_46 rfl ?_
            refine y_iald h dX5_promiseLowest_47 hR (by first | assumption | exact Nat.le_of_ble_eq_true rfl) (by first | rfl | assumption | exact tx_2 (by first | assumption | omega) | exact tx_18 (by first | assumption | omega) | exact tx_19 (by first | assumption | omega) | exact tx_20 (by first | assumption | omega) | exact tx_27 (by first | assumption | omega) | exact tx_28 (by first | assumption | omega) | exact tx_30 (by first | assumption | omega) | exact tx_31 (by first | assumption | omega) | exact tx_32 (by first | assumption | omega) | exact tx_33 (by first | assumption | omega)) (z_ixn (show i < 8 by omega) (by decide)) ?_
            rw [oc_F]
            refine z_iload_n h dX5_promiseLowest_48 rfl ?_
            refine z_icmp_eq h dX5_promiseLowest_49 61 (by decide) (fun c_5 => ?_) (fun c_5 => ?_)
            · skip
              refine z_aload_n h dX5_promiseLowest_61 rfl ?_
              refine y_getr h dX5_promiseLowest_62 hR flX5_27 (by first | assumption | exact Nat.le_of_ble_eq_true rfl) (by first | rfl | assumption | exact tx_2 (by first | assumption | omega) | exact tx_18 (by first | assumption | omega) | exact tx_19 (by first | assumption | omega) | exact tx_20 (by first | assumption | omega) | exact tx_27 (by first | assumption | omega) | exact tx_28 (by first | assumption | omega) | exact tx_30 (by first | assumption | omega) | exact tx_31 (by first | assumption | omega) | exact tx_32 (by first | assumption | omega) | exact tx_33 (by first | assumption | omega)) (by rfl) ?_
              refine z_iload_n h dX5_promiseLowest_65 rfl ?_
              refine z_iconst (v := 1) h dX5_promiseLowest_66 (by decide) ?_
              refine y_zast h dX5_promiseLowest_67 hR (by first | assumption | exact Nat.le_of_ble_eq_true rfl) (by first | rfl | assumption | exact tx_2 (by first | assumption | omega) | exact tx_18 (by first | assumption | omega) | exact tx_19 (by first | assumption | omega) | exact tx_20 (by first | assumption | omega) | exact tx_27 (by first | assumption | omega) | exact tx_28 (by first | assumption | omega) | exact tx_30 (by first | assumption | omega) | exact tx_31 (by first | assumption | omega) | exact tx_32 (by first | assumption | omega) | exact tx_33 (by first | assumption | omega)) (z_ixn (show y < 100 by omega) (by decide)) (by decide) (fun w hR => ?_)
              rw [oc_sP] at hR
              exact z_vret h dX5_promiseLowest_68 hr (⟨rfl, _, _, by rw [← hH, show na - y = (na - (y + 1)) + 1 by omega, pll, if_pos (z_bt c_4), if_pos c_5]; exact hR⟩)
            · skip
              refine z_aload_n h dX5_promiseLowest_52 rfl ?_
              refine z_iload_n h dX5_promiseLowest_53 rfl ?_
              refine z_iload_n h dX5_promiseLowest_54 rfl ?_
              refine z_callV h dX5_promiseLowest_55 (fun _ _ q => z_okv_no he q) (fun _ _ _ t q => absurd q (he t)) (m_X5_moveTo _ hR hc9 hna no hco hno i hi y (by omega)) ym_X5_moveTo mlX5_83 im_X5_moveTo (ci := 5) rfl se_X5_moveTo icX5 rfl (r_p.ob hR (by first | assumption | exact Nat.le_of_ble_eq_true rfl) (by first | rfl | assumption | exact tx_2 (by first | assumption | omega) | exact tx_18 (by first | assumption | omega) | exact tx_19 (by first | assumption | omega) | exact tx_20 (by first | assumption | omega) | exact tx_27 (by first | assumption | omega) | exact tx_28 (by first | assumption | omega) | exact tx_30 (by first | assumption | omega) | exact tx_31 (by first | assumption | omega) | exact tx_32 (by first | assumption | omega) | exact tx_33 (by first | assumption | omega))) rfl (by decide) (Nat.le_of_ble_eq_true rfl) ?_
              rintro q1 w ⟨rfl, K2, Q2, hR⟩
              refine z_if_eq h dX5_promiseLowest_58 69 (by decide) (fun c_6 => ?_) (fun c_6 => ?_)
              · skip
                refine z_iinc (v := 1) h dX5_promiseLowest_69 rfl (by decide) (by rw [hn]; decide) ?_
                refine z_goto h dX5_promiseLowest_72 2 (by decide) ?_
                refine z_loc [(0, vr (35, 0)), (1, vi (nI i)), (2, vi (nI (y + 1)))] ⟨rfl, rfl, congrArg (fun z => some (vi z)) (z_up y), trivial⟩ ?_
                exact ih_2 (y + 1) _ _ _ _ _ w hR (by rw [← hH, show na - y = (na - (y + 1)) + 1 by omega, pll, if_pos (z_bt c_4), if_neg c_5, if_neg (fun q => by rw [q] at c_6; exact absurd c_6 (by decide))]) (by omega) (by omega)
              · skip
                have e6 : (mvt (c (39, 0)) P1 na no F1 T1 i y).1 = 1 := (mvt_01 (c (39, 0)) P1 na no F1 T1 i y).resolve_left c_6
                refine z_aload_n h dX5_promiseLowest_61 rfl ?_
                refine y_getr h dX5_promiseLowest_62 hR flX5_27 (by first | assumption | exact Nat.le_of_ble_eq_true rfl) (by first | rfl | assumption | exact tx_2 (by first | assumption | omega) | exact tx_18 (by first | assumption | omega) | exact tx_19 (by first | assumption | omega) | exact tx_20 (by first | assumption | omega) | exact tx_27 (by first | assumption | omega) | exact tx_28 (by first | assumption | omega) | exact tx_30 (by first | assumption | omega) | exact tx_31 (by first | assumption | omega) | exact tx_32 (by first | assumption | omega) | exact tx_33 (by first | assumption | omega)) (by rfl) ?_
                refine z_iload_n h dX5_promiseLowest_65 rfl ?_
                refine z_iconst (v := 1) h dX5_promiseLowest_66 (by decide) ?_
                refine y_zast h dX5_promiseLowest_67 hR (by first | assumption | exact Nat.le_of_ble_eq_true rfl) (by first | rfl | assumption | exact tx_2 (by first | assumption | omega) | exact tx_18 (by first | assumption | omega) | exact tx_19 (by first | assumption | omega) | exact tx_20 (by first | assumption | omega) | exact tx_27 (by first | assumption | omega) | exact tx_28 (by first | assumption | omega) | exact tx_30 (by first | assumption | omega) | exact tx_31 (by first | assumption | omega) | exact tx_32 (by first | assumption | omega) | exact tx_33 (by first | assumption | omega)) (z_ixn (show y < 100 by omega) (by decide)) (by decide) (fun w hR => ?_)
                rw [oc_sP] at hR
                exact z_vret h dX5_promiseLowest_68 hr (⟨rfl, _, _, by rw [← hH, show na - y = (na - (y + 1)) + 1 by omega, pll, if_pos (z_bt c_4), if_neg c_5, if_pos e6]; exact hR⟩)
        refine z_aload_n h dX5_promiseLowest_10 rfl ?_
        refine y_getr h dX5_promiseLowest_11 hR flX5_21 (by first | assumption | exact Nat.le_of_ble_eq_true rfl) (by first | rfl | assumption | exact tx_2 (by first | assumption | omega) | exact tx_18 (by first | assumption | omega) | exact tx_19 (by first | assumption | omega) | exact tx_20 (by first | assumption | omega) | exact tx_27 (by first | assumption | omega) | exact tx_28 (by first | assumption | omega) | exact tx_30 (by first | assumption | omega) | exact tx_31 (by first | assumption | omega) | exact tx_32 (by first | assumption | omega) | exact tx_33 (by first | assumption | omega)) (by rfl) ?_
        refine z_iload_n h dX5_promiseLowest_14 rfl ?_
        refine y_iald h dX5_promiseLowest_15 hR (by first | assumption | exact Nat.le_of_ble_eq_true rfl) (by first | rfl | assumption | exact tx_2 (by first | assumption | omega) | exact tx_18 (by first | assumption | omega) | exact tx_19 (by first | assumption | omega) | exact tx_20 (by first | assumption | omega) | exact tx_27 (by first | assumption | omega) | exact tx_28 (by first | assumption | omega) | exact tx_30 (by first | assumption | omega) | exact tx_31 (by first | assumption | omega) | exact tx_32 (by first | assumption | omega) | exact tx_33 (by first | assumption | omega)) (z_ixn (show y < 100 by omega) (by decide)) ?_
        rw [oc_cm]
        refine z_iload_n h dX5_promiseLowest_16 rfl ?_
        refine z_ishr h dX5_promiseLowest_17 ?_
        refine z_iconst (v := 1) h dX5_promiseLowest_18 (by decide) ?_
        refine z_iand h dX5_promiseLowest_19 ?_
        refine z_if_eq h dX5_promiseLowest_20 36 (by decide) (fun c_2 => ?_) (fun c_2 => ?_)
        · skip
          refine z_iconst (v := 0) h dX5_promiseLowest_36 (by decide) ?_
          refine z_toe (y := z_b (¬ (c (39, 0) y >>> (nI i &&& 31)) &&& 1 = 0 ∧ P1 y = 0)) ((z_b0 (fun q => q.1 c_2)).symm) ?_
          exact join_37
        · skip
          refine z_aload_n h dX5_promiseLowest_23 rfl ?_
          refine y_getr h dX5_promiseLowest_24 hR flX5_27 (by first | assumption | exact Nat.le_of_ble_eq_true rfl) (by first | rfl | assumption | exact tx_2 (by first | assumption | omega) | exact tx_18 (by first | assumption | omega) | exact tx_19 (by first | assumption | omega) | exact tx_20 (by first | assumption | omega) | exact tx_27 (by first | assumption | omega) | exact tx_28 (by first | assumption | omega) | exact tx_30 (by first | assumption | omega) | exact tx_31 (by first | assumption | omega) | exact tx_32 (by first | assumption | omega) | exact tx_33 (by first | assumption | omega)) (by rfl) ?_
          refine z_iload_n h dX5_promiseLowest_27 rfl ?_
          refine y_zald h dX5_promiseLowest_28 hR (by first | assumption | exact Nat.le_of_ble_eq_true rfl) (by first | rfl | assumption | exact tx_2 (by first | assumption | omega) | exact tx_18 (by first | assumption | omega) | exact tx_19 (by first | assumption | omega) | exact tx_20 (by first | assumption | omega) | exact tx_27 (by first | assumption | omega) | exact tx_28 (by first | assumption | omega) | exact tx_30 (by first | assumption | omega) | exact tx_31 (by first | assumption | omega) | exact tx_32 (by first | assumption | omega) | exact tx_33 (by first | assumption | omega)) (z_ixn (show y < 100 by omega) (by decide)) ?_
          rw [oc_P]
          refine z_if_ne h dX5_promiseLowest_29 36 (by decide) (fun c_3 => ?_) (fun c_3 => ?_)
          · skip
            refine z_iconst (v := 0) h dX5_promiseLowest_36 (by decide) ?_
            refine z_toe (y := z_b (¬ (c (39, 0) y >>> (nI i &&& 31)) &&& 1 = 0 ∧ P1 y = 0)) ((z_b0 (fun q => c_3 q.2)).symm) ?_
            exact join_37
          · skip
            have c_3 : P1 y = 0 := c_3
            refine z_iconst (v := 1) h dX5_promiseLowest_32 (by decide) ?_
            refine z_goto h dX5_promiseLowest_33 37 (by decide) ?_
            refine z_toe (y := z_b (¬ (c (39, 0) y >>> (nI i &&& 31)) &&& 1 = 0 ∧ P1 y = 0)) ((z_b1 ⟨c_2, c_3⟩).symm) ?_
            exact join_37
  exact z_loc [(0, vr (35, 0)), (1, vi (nI i)), (2, vi (nI 0))] ⟨rfl, rfl, rfl, trivial⟩ (loop_2 (na + 1) 0 F T P K Q w hR rfl (by omega) (by omega))
set_option maxHeartbeats 4000000 in
set_option maxRecDepth 100000 in
theorem m_X5_match (G : z_G) {nb na np g : Nat} {w0 w : z_w} {c : r_c} {l : r_l} {r : r_r} (hR : r_p dX (TX nb na np g) w0 c l r w) (no : Nat) (hco : c (35, 0) 3 = nI no) (hno : no ≤ 8) (hna : na ≤ 100) (hr17 : ∀ i, i < na → r (17, 0) i = some (18, i)) : z_M G yX5_match cX5_match 4 none 6 (0) (0) [vr (35, 0), vr (17, 0), vi (nI na)] w (fun q w1 => q = none ∧ ∃ K1 Q1, r_p dX (TX nb na np g) w0 (OC (o_wc c no na na) (mtc ((o_wc c no na na) (39, 0)) ((o_wc c no na na) (41, 0)) na no).1 (mtc ((o_wc c no na na) (39, 0)) ((o_wc c no na na) (41, 0)) na no).2.1 (mtc ((o_wc c no na na) (39, 0)) ((o_wc c no na na) (41, 0)) na no).2.2 K1 Q1) (l) (r) w1) := by
  refine z_met ym_X5_match (by decide) ⟨Nat.le_of_ble_eq_true rfl, Nat.le_of_ble_eq_true rfl⟩ (fun X hG hn hmc hms hin h hr => ?_)
  have he := hr.2.2.2.2.2.1
  refine z_aload_n h dX5_match_0 rfl ?_
  refine z_aload_n h dX5_match_1 rfl ?_
  refine z_iload_n h dX5_match_2 rfl ?_
  refine z_callV h dX5_match_3 (fun _ _ q => z_okv_no he q) (fun _ _ _ t q => absurd q (he t)) (m_X5_weigh _ hR no hco hno hna hr17) ym_X5_weigh mlX5_62 im_X5_weigh (ci := 5) rfl se_X5_weigh icX5 rfl (r_p.ob hR (by first | assumption | exact Nat.le_of_ble_eq_true rfl) (by first | rfl | assumption | exact tx_2 (by first | assumption | omega) | exact tx_18 (by first | assumption | omega) | exact tx_19 (by first | assumption | omega) | exact tx_20 (by first | assumption | omega) | exact tx_27 (by first | assumption | omega) | exact tx_28 (by first | assumption | omega) | exact tx_30 (by first | assumption | omega) | exact tx_31 (by first | assumption | omega) | exact tx_32 (by first | assumption | omega) | exact tx_33 (by first | assumption | omega))) rfl (by decide) (Nat.le_of_ble_eq_true rfl) ?_
  rintro q1 w ⟨rfl, hR⟩
  have hC9 : (o_wc c no na na) (35, 0) 9 = nI na := by unfold o_wc; rw [r_cf_ne (by simp), r_cs, r_cf_self]; rfl
  have hC3 : (o_wc c no na na) (35, 0) 3 = nI no := by unfold o_wc; rw [r_cf_ne (by simp), r_cs, r_cf_self]; exact hco
  rw [← oc_id (c := (o_wc c no na na))] at hR
  refine z_aload_n h dX5_match_6 rfl ?_
  refine y_getr h dX5_match_7 hR flX5_18 (by first | assumption | exact Nat.le_of_ble_eq_true rfl) (by first | rfl | assumption | exact tx_2 (by first | assumption | omega) | exact tx_18 (by first | assumption | omega) | exact tx_19 (by first | assumption | omega) | exact tx_20 (by first | assumption | omega) | exact tx_27 (by first | assumption | omega) | exact tx_28 (by first | assumption | omega) | exact tx_30 (by first | assumption | omega) | exact tx_31 (by first | assumption | omega) | exact tx_32 (by first | assumption | omega) | exact tx_33 (by first | assumption | omega)) (by rfl) ?_
  refine z_iconst (v := -1) h dX5_match_10 (by decide) ?_
  refine z_callS h dX5_match_11 (fun _ _ q => z_okv_no he q) (fun _ _ _ t q => absurd q (he t)) (f_fill hR (-1) (Nat.le_of_ble_eq_true rfl) rfl (by decide)) ym_J7_fill_53178 mlX5_66 sm_J7_fill_53178 rfl (by decide) (Nat.le_of_ble_eq_true rfl) ?_
  rintro q1 w ⟨rfl, hR⟩
  rw [oc_fF] at hR
  refine z_aload_n h dX5_match_14 rfl ?_
  refine y_getr h dX5_match_15 hR flX5_24 (by first | assumption | exact Nat.le_of_ble_eq_true rfl) (by first | rfl | assumption | exact tx_2 (by first | assumption | omega) | exact tx_18 (by first | assumption | omega) | exact tx_19 (by first | assumption | omega) | exact tx_20 (by first | assumption | omega) | exact tx_27 (by first | assumption | omega) | exact tx_28 (by first | assumption | omega) | exact tx_30 (by first | assumption | omega) | exact tx_31 (by first | assumption | omega) | exact tx_32 (by first | assumption | omega) | exact tx_33 (by first | assumption | omega)) (by rfl) ?_
  refine z_iconst (v := -1) h dX5_match_18 (by decide) ?_
  refine z_callS h dX5_match_19 (fun _ _ q => z_okv_no he q) (fun _ _ _ t q => absurd q (he t)) (f_fill hR (-1) (Nat.le_of_ble_eq_true rfl) rfl (by decide)) ym_J7_fill_53178 mlX5_66 sm_J7_fill_53178 rfl (by decide) (Nat.le_of_ble_eq_true rfl) ?_
  rintro q1 w ⟨rfl, hR⟩
  rw [oc_fT] at hR
  refine z_iconst (v := 0) h dX5_match_22 (by decide) ?_
  refine z_istore_n h dX5_match_23 (by rw [hn]; decide) ?_
  have loop_24 : ∀ (n_ : Nat) (k : Nat) (K1 Q1 : Nat → Int32) (w : z_w), r_p dX (TX nb na np g) w0 (OC (o_wc c no na na) (fun _ => -1) (fun _ => -1) (mtP na ((o_wc c no na na) (41, 0)) k) K1 Q1) l r w → k ≤ na → na + 1 ≤ k + n_ → z_V X 0 0 w 24 [(0, vr (35, 0)), (1, vr (17, 0)), (2, vi (nI na)), (3, vi (nI k))] [] := by
    intro n_
    induction n_ with
    | zero => intros; omega
    | succ n_ ih_24 =>
      intro k K1 Q1 w hR hk hN
      refine z_iload_n h dX5_match_24 rfl ?_
      refine z_aload_n h dX5_match_25 rfl ?_
      refine y_geti h dX5_match_26 hR flX5_47 (by first | assumption | exact Nat.le_of_ble_eq_true rfl) (by first | rfl | assumption | exact tx_2 (by first | assumption | omega) | exact tx_18 (by first | assumption | omega) | exact tx_19 (by first | assumption | omega) | exact tx_20 (by first | assumption | omega) | exact tx_27 (by first | assumption | omega) | exact tx_28 (by first | assumption | omega) | exact tx_30 (by first | assumption | omega) | exact tx_31 (by first | assumption | omega) | exact tx_32 (by first | assumption | omega) | exact tx_33 (by first | assumption | omega)) (by rfl) ?_
      rw [oc_sz, hC9]
      refine z_icmp_ge h dX5_match_29 45 (by decide) (fun c_1 => ?_) (fun c_1 => ?_)
      · skip
        have e1 : na ≤ k := (nI_leI (by omega) (by omega)).mp c_1
        have hk2 : k = na := by omega
        rw [hk2] at hR
        refine z_iconst (v := 0) h dX5_match_45 (by decide) ?_
        refine z_istore_n h dX5_match_46 (by rw [hn]; decide) ?_
        have loop_47 : ∀ (m_ : Nat) (i : Nat) (K1 Q1 : Nat → Int32) (w : z_w), r_p dX (TX nb na np g) w0 (OC (o_wc c no na na) (ph1 ((o_wc c no na na) (39, 0)) (mtP na ((o_wc c no na na) (41, 0)) na) na (fun _ => -1) (fun _ => -1) i).1 (ph1 ((o_wc c no na na) (39, 0)) (mtP na ((o_wc c no na na) (41, 0)) na) na (fun _ => -1) (fun _ => -1) i).2 (mtP na ((o_wc c no na na) (41, 0)) na) K1 Q1) l r w → i ≤ no → no + 1 ≤ i + m_ → z_V X 0 0 w 47 [(0, vr (35, 0)), (1, vr (17, 0)), (2, vi (nI na)), (3, vi (nI i))] [] := by
          intro m_
          induction m_ with
          | zero => intros; omega
          | succ m_ ih_47 =>
            intro i K1 Q1 w hR hi hN
            refine z_iload_n h dX5_match_47 rfl ?_
            refine z_aload_n h dX5_match_48 rfl ?_
            refine y_geti h dX5_match_49 hR flX5_37 (by first | assumption | exact Nat.le_of_ble_eq_true rfl) (by first | rfl | assumption | exact tx_2 (by first | assumption | omega) | exact tx_18 (by first | assumption | omega) | exact tx_19 (by first | assumption | omega) | exact tx_20 (by first | assumption | omega) | exact tx_27 (by first | assumption | omega) | exact tx_28 (by first | assumption | omega) | exact tx_30 (by first | assumption | omega) | exact tx_31 (by first | assumption | omega) | exact tx_32 (by first | assumption | omega) | exact tx_33 (by first | assumption | omega)) (by rfl) ?_
            rw [oc_sz, hC3]
            refine z_icmp_ge h dX5_match_52 73 (by decide) (fun c_2 => ?_) (fun c_2 => ?_)
            · skip
              have e1 : no ≤ i := (nI_leI (by omega) (by omega)).mp c_2
              have hi2 : i = no := by omega
              rw [hi2] at hR
              refine z_iconst (v := 0) h dX5_match_73 (by decide) ?_
              refine z_istore_n h dX5_match_74 (by rw [hn]; decide) ?_
              have loop_75 : ∀ (k_ : Nat) (i : Nat) (K1 Q1 : Nat → Int32) (w : z_w), r_p dX (TX nb na np g) w0 (OC (o_wc c no na na) (ph2 ((o_wc c no na na) (39, 0)) na no (ph1 ((o_wc c no na na) (39, 0)) (mtP na ((o_wc c no na na) (41, 0)) na) na (fun _ => -1) (fun _ => -1) no).1 (ph1 ((o_wc c no na na) (39, 0)) (mtP na ((o_wc c no na na) (41, 0)) na) na (fun _ => -1) (fun _ => -1) no).2 (mtP na ((o_wc c no na na) (41, 0)) na) i).1 (ph2 ((o_wc c no na na) (39, 0)) na no (ph1 ((o_wc c no na na) (39, 0)) (mtP na ((o_wc c no na na) (41, 0)) na) na (fun _ => -1) (fun _ => -1) no).1 (ph1 ((o_wc c no na na) (39, 0)) (mtP na ((o_wc c no na na) (41, 0)) na) na (fun _ => -1) (fun _ => -1) no).2 (mtP na ((o_wc c no na na) (41, 0)) na) i).2.1 (ph2 ((o_wc c no na na) (39, 0)) na no (ph1 ((o_wc c no na na) (39, 0)) (mtP na ((o_wc c no na na) (41, 0)) na) na (fun _ => -1) (fun _ => -1) no).1 (ph1 ((o_wc c no na na) (39, 0)) (mtP na ((o_wc c no na na) (41, 0)) na) na (fun _ => -1) (fun _ => -1) no).2 (mtP na ((o_wc c no na na) (41, 0)) na) i).2.2 K1 Q1) l r w → i ≤ no → no + 1 ≤ i + k_ → z_V X 0 0 w 75 [(0, vr (35, 0)), (1, vr (17, 0)), (2, vi (nI na)), (3, vi (nI i))] [] := by
                intro k_
                induction k_ with
                | zero => intros; omega
                | succ k_ ih_75 =>
                  intro i K1 Q1 w hR hi hN
                  refine z_iload_n h dX5_match_75 rfl ?_
                  refine z_aload_n h dX5_match_76 rfl ?_
                  refine y_geti h dX5_match_77 hR flX5_37 (by first | assumption | exact Nat.le_of_ble_eq_true rfl) (by first | rfl | assumption | exact tx_2 (by first | assumption | omega) | exact tx_18 (by first | assumption | omega) | exact tx_19 (by first | assumption | omega) | exact tx_20 (by first | assumption | omega) | exact tx_27 (by first | assumption | omega) | exact tx_28 (by first | assumption | omega) | exact tx_30 (by first | assumption | omega) | exact tx_31 (by first | assumption | omega) | exact tx_32 (by first | assumption | omega) | exact tx_33 (by first | assumption | omega)) (by rfl) ?_
                  rw [oc_sz, hC3]
                  refine z_icmp_ge h dX5_match_80 100 (by decide) (fun c_3 => ?_) (fun c_3 => ?_)
                  · skip
                    have e1 : no ≤ i := (nI_leI (by omega) (by omega)).mp c_3
                    have hi3 : i = no := by omega
                    rw [hi3] at hR
                    exact z_vret h dX5_match_100 hr (⟨rfl, _, _, hR⟩)
                  · skip
                    have e1 : ¬ no ≤ i := fun q => c_3 ((nI_leI (by omega) (by omega)).mpr q)
                    refine z_iload_n h dX5_match_83 rfl ?_
                    refine z_bipush (v := 8) h dX5_match_84 (by decide) ?_
                    refine z_icmp_ge h dX5_match_86 100 (by decide) (fun c_d => ?_) (fun c_d => ?_)
                    · skip
                      exact absurd ((nI_leI (a := 8) (by omega) (by omega)).mp c_d) (by omega)
                    · skip
                      refine z_aload_n h dX5_match_89 rfl ?_
                      refine z_iload_n h dX5_match_90 rfl ?_
                      refine z_callV h dX5_match_91 (fun _ _ q => z_okv_no he q) (fun _ _ _ t q => absurd q (he t)) (m_X5_promiseLowest _ hR hC9 hna no hC3 hno i (by omega)) ym_X5_promiseLowest mlX5_76 im_X5_promiseLowest (ci := 5) rfl se_X5_promiseLowest icX5 rfl (r_p.ob hR (by first | assumption | exact Nat.le_of_ble_eq_true rfl) (by first | rfl | assumption | exact tx_2 (by first | assumption | omega) | exact tx_18 (by first | assumption | omega) | exact tx_19 (by first | assumption | omega) | exact tx_20 (by first | assumption | omega) | exact tx_27 (by first | assumption | omega) | exact tx_28 (by first | assumption | omega) | exact tx_30 (by first | assumption | omega) | exact tx_31 (by first | assumption | omega) | exact tx_32 (by first | assumption | omega) | exact tx_33 (by first | assumption | omega))) rfl (by decide) (Nat.le_of_ble_eq_true rfl) ?_
                      rintro q1 w ⟨rfl, K2, Q2, hR⟩
                      refine z_iinc (v := 1) h dX5_match_94 rfl (by decide) (by rw [hn]; decide) ?_
                      refine z_goto h dX5_match_97 75 (by decide) ?_
                      refine z_loc [(0, vr (35, 0)), (1, vr (17, 0)), (2, vi (nI na)), (3, vi (nI (i + 1)))] ⟨rfl, rfl, rfl, congrArg (fun z => some (vi z)) (z_up i), trivial⟩ ?_
                      exact ih_75 (i + 1) _ _ w hR (by omega) (by omega)
              exact z_loc [(0, vr (35, 0)), (1, vr (17, 0)), (2, vi (nI na)), (3, vi (nI 0))] ⟨rfl, rfl, rfl, rfl, trivial⟩ (loop_75 (no + 1) 0 _ _ w hR (by omega) (by omega))
            · skip
              have e1 : ¬ no ≤ i := fun q => c_2 ((nI_leI (by omega) (by omega)).mpr q)
              refine z_iload_n h dX5_match_55 rfl ?_
              refine z_bipush (v := 8) h dX5_match_56 (by decide) ?_
              refine z_icmp_ge h dX5_match_58 73 (by decide) (fun c_b => ?_) (fun c_b => ?_)
              · skip
                exact absurd ((nI_leI (a := 8) (by omega) (by omega)).mp c_b) (by omega)
              · skip
                refine z_aload_n h dX5_match_61 rfl ?_
                refine z_iload_n h dX5_match_62 rfl ?_
                refine z_callV h dX5_match_63 (fun _ _ q => z_okv_no he q) (fun _ _ _ t q => absurd q (he t)) (m_X5_findBar _ hR hC9 hna (nI i)) ym_X5_findBar mlX5_72 im_X5_findBar (ci := 5) rfl se_X5_findBar icX5 rfl (r_p.ob hR (by first | assumption | exact Nat.le_of_ble_eq_true rfl) (by first | rfl | assumption | exact tx_2 (by first | assumption | omega) | exact tx_18 (by first | assumption | omega) | exact tx_19 (by first | assumption | omega) | exact tx_20 (by first | assumption | omega) | exact tx_27 (by first | assumption | omega) | exact tx_28 (by first | assumption | omega) | exact tx_30 (by first | assumption | omega) | exact tx_31 (by first | assumption | omega) | exact tx_32 (by first | assumption | omega) | exact tx_33 (by first | assumption | omega))) rfl (by decide) (Nat.le_of_ble_eq_true rfl) ?_
                rintro q1 w ⟨rfl, K2, Q2, hR⟩
                refine z_pop_i h dX5_match_66 ?_
                refine z_iinc (v := 1) h dX5_match_67 rfl (by decide) (by rw [hn]; decide) ?_
                refine z_goto h dX5_match_70 47 (by decide) ?_
                refine z_loc [(0, vr (35, 0)), (1, vr (17, 0)), (2, vi (nI na)), (3, vi (nI (i + 1)))] ⟨rfl, rfl, rfl, congrArg (fun z => some (vi z)) (z_up i), trivial⟩ ?_
                exact ih_47 (i + 1) _ _ w hR (by omega) (by omega)
        exact z_loc [(0, vr (35, 0)), (1, vr (17, 0)), (2, vi (nI na)), (3, vi (nI 0))] ⟨rfl, rfl, rfl, rfl, trivial⟩ (loop_47 (no + 1) 0 _ _ w hR (by omega) (by omega))
      · skip
        have e1 : ¬ na ≤ k := fun q => c_1 ((nI_leI (by omega) (by omega)).mpr q)
        refine z_aload_n h dX5_match_32 rfl ?_
        refine y_getr h dX5_match_33 hR flX5_27 (by first | assumption | exact Nat.le_of_ble_eq_true rfl) (by first | rfl | assumption | exact tx_2 (by first | assumption | omega) | exact tx_18 (by first | assumption | omega) | exact tx_19 (by first | assumption | omega) | exact tx_20 (by first | assumption | omega) | exact tx_27 (by first | assumption | omega) | exact tx_28 (by first | assumption | omega) | exact tx_30 (by first | assumption | omega) | exact tx_31 (by first | assumption | omega) | exact tx_32 (by first | assumption | omega) | exact tx_33 (by first | assumption | omega)) (by rfl) ?_
        refine z_iload_n h dX5_match_36 rfl ?_
        refine z_iconst (v := 0) h dX5_match_37 (by decide) ?_
        refine y_zast h dX5_match_38 hR (by first | assumption | exact Nat.le_of_ble_eq_true rfl) (by first | rfl | assumption | exact tx_2 (by first | assumption | omega) | exact tx_18 (by first | assumption | omega) | exact tx_19 (by first | assumption | omega) | exact tx_20 (by first | assumption | omega) | exact tx_27 (by first | assumption | omega) | exact tx_28 (by first | assumption | omega) | exact tx_30 (by first | assumption | omega) | exact tx_31 (by first | assumption | omega) | exact tx_32 (by first | assumption | omega) | exact tx_33 (by first | assumption | omega)) (z_ixn (show k < 100 by omega) (by decide)) (by decide) (fun w hR => ?_)
        refine z_iinc (v := 1) h dX5_match_39 rfl (by decide) (by rw [hn]; decide) ?_
        refine z_goto h dX5_match_42 24 (by decide) ?_
        refine z_loc [(0, vr (35, 0)), (1, vr (17, 0)), (2, vi (nI na)), (3, vi (nI (k + 1)))] ⟨rfl, rfl, rfl, congrArg (fun z => some (vi z)) (z_up k), trivial⟩ ?_
        exact ih_24 (k + 1) K1 Q1 w (by
          rw [oc_sP] at hR
          rw [show mtP na ((o_wc c no na na) (41, 0)) (k + 1) = upd (mtP na ((o_wc c no na na) (41, 0)) k) k 0 from (z_upd_fill).symm]
          exact hR) (by omega) (by omega)
  exact z_loc [(0, vr (35, 0)), (1, vr (17, 0)), (2, vi (nI na)), (3, vi (nI 0))] ⟨rfl, rfl, rfl, rfl, trivial⟩ (loop_24 (na + 1) 0 _ _ w (by rw [show mtP na ((o_wc c no na na) (41, 0)) 0 = ((o_wc c no na na) (41, 0)) from funext fun j => if_neg (by omega)]; exact hR) (by omega) (by omega))
/-- no more than the orders' rows of work has changed -/
def OX (c c1 : r_c) : Prop := (∀ t : z_T, t ≠ (35, 0) → t ≠ (38, 0) → t ≠ (39, 0) → t ≠ (40, 0) → t ≠ (41, 0) → t ≠ (42, 0) → t ≠ (43, 0) → c1 t = c t) ∧ ∀ k, k ≠ 9 → c1 (35, 0) k = c (35, 0) k
theorem OX.rf (c : r_c) : OX c c := ⟨fun _ _ _ _ _ _ _ _ => rfl, fun _ _ => rfl⟩
theorem OX.wc (c : r_c) (no na i : Nat) : OX c (o_wc c no na i) := ⟨fun t h0 _ h1 _ _ _ _ => o_wc_ne h0 h1, fun k hk => by unfold o_wc; rw [r_cf_ne (by simp), r_cs, r_cf_self]; exact pk_un hk⟩
theorem OX.oc {c c1 : r_c} (h : OX c c1) {F T P K Q : Nat → Int32} : OX c (OC c1 F T P K Q) := ⟨fun t h0 h1 h2 h3 h4 h5 h6 => (oc_ne h1 h3 h4 h5 h6).trans (h.1 t h0 h1 h2 h3 h4 h5 h6), fun k hk => by rw [oc_sz]; exact h.2 k hk⟩
/-- what the class' orders have, by MET -/
def xmet (c : r_c) (no na : Nat) : Nat → Int32 := (mtc ((o_wc c no na na) (39, 0)) ((o_wc c no na na) (41, 0)) na no).1
set_option maxHeartbeats 4000000 in
set_option maxRecDepth 100000 in
theorem m_X11_met (G : z_G) {nb na np g : Nat} {w0 w : z_w} {c : r_c} {l : r_l} {r : r_r} (hX : XR nb na np g w0 c l r w) (no : Nat) (hco : c (35, 0) 3 = nI no) (hno : no ≤ 8) (x : Int32) : z_M G yX11_met cX11_met 2 (some .int) 7 (0) (0) [vr (0, 0), vi x] w (fun q w1 => q = some (vi (if ix_ok x no then xmet c no na x.toNatClampNeg else -1)) ∧ ∃ c1, OX c c1 ∧ r_p dX (TX nb na np g) w0 (c1) (l) (r) w1) := by
  refine z_met ym_X11_met (by decide) ⟨Nat.le_of_ble_eq_true rfl, Nat.le_of_ble_eq_true rfl⟩ (fun X hG hn hmc hms hin h hr => ?_)
  have he := hr.2.2.2.2.2.1
  obtain ⟨hR, hnb, hna, hnp, hg6, hc2, hc8, hc12, hr1, hr17, hr26⟩ := id hX
  refine z_iload_n h dX11_met_0 rfl ?_
  refine z_iconst (v := 0) h dX11_met_1 (by decide) ?_
  refine z_aload_n h dX11_met_2 rfl ?_
  refine y_getr h dX11_met_3 hR flX11_72 (by first | assumption | exact Nat.le_of_ble_eq_true rfl) (by first | rfl | assumption | exact tx_2 (by first | assumption | omega) | exact tx_18 (by first | assumption | omega) | exact tx_19 (by first | assumption | omega) | exact tx_20 (by first | assumption | omega) | exact tx_27 (by first | assumption | omega) | exact tx_28 (by first | assumption | omega) | exact tx_30 (by first | assumption | omega) | exact tx_31 (by first | assumption | omega) | exact tx_32 (by first | assumption | omega) | exact tx_33 (by first | assumption | omega)) (by rfl) ?_
  refine y_geti h dX11_met_6 hR flX11_344 (by first | assumption | exact Nat.le_of_ble_eq_true rfl) (by first | rfl | assumption | exact tx_2 (by first | assumption | omega) | exact tx_18 (by first | assumption | omega) | exact tx_19 (by first | assumption | omega) | exact tx_20 (by first | assumption | omega) | exact tx_27 (by first | assumption | omega) | exact tx_28 (by first | assumption | omega) | exact tx_30 (by first | assumption | omega) | exact tx_31 (by first | assumption | omega) | exact tx_32 (by first | assumption | omega) | exact tx_33 (by first | assumption | omega)) (by rfl) ?_
  rw [hco]
  refine z_iconst (v := 1) h dX11_met_9 (by decide) ?_
  refine z_isub h dX11_met_10 ?_
  refine z_callS h dX11_met_11 (fun _ _ q => z_okv_no he q) (fun _ _ _ t q => absurd q (he t)) (m_X11_within _ _ _ _ _) ym_X11_within mlX11_92 sm_X11_within rfl (by decide) (Nat.le_of_ble_eq_true rfl) ?_
  rintro q1 w1 ⟨rfl, hw1⟩
  have hw1 := hw1.symm; subst hw1
  refine z_if_ne h dX11_met_14 19 (by decide) (fun c_1 => ?_) (fun c_1 => ?_)
  · skip
    refine z_aload_n h dX11_met_19 rfl ?_
    refine y_getr h dX11_met_20 hR flX11_72 (by first | assumption | exact Nat.le_of_ble_eq_true rfl) (by first | rfl | assumption | exact tx_2 (by first | assumption | omega) | exact tx_18 (by first | assumption | omega) | exact tx_19 (by first | assumption | omega) | exact tx_20 (by first | assumption | omega) | exact tx_27 (by first | assumption | omega) | exact tx_28 (by first | assumption | omega) | exact tx_30 (by first | assumption | omega) | exact tx_31 (by first | assumption | omega) | exact tx_32 (by first | assumption | omega) | exact tx_33 (by first | assumption | omega)) (by rfl) ?_
    refine z_aload_n h dX11_met_23 rfl ?_
    refine y_getr h dX11_met_24 hR flX11_45 (by first | assumption | exact Nat.le_of_ble_eq_true rfl) (by first | rfl | assumption | exact tx_2 (by first | assumption | omega) | exact tx_18 (by first | assumption | omega) | exact tx_19 (by first | assumption | omega) | exact tx_20 (by first | assumption | omega) | exact tx_27 (by first | assumption | omega) | exact tx_28 (by first | assumption | omega) | exact tx_30 (by first | assumption | omega) | exact tx_31 (by first | assumption | omega) | exact tx_32 (by first | assumption | omega) | exact tx_33 (by first | assumption | omega)) (by rfl) ?_
    refine z_aload_n h dX11_met_27 rfl ?_
    refine y_geti h dX11_met_28 hR flX11_223 (by first | assumption | exact Nat.le_of_ble_eq_true rfl) (by first | rfl | assumption | exact tx_2 (by first | assumption | omega) | exact tx_18 (by first | assumption | omega) | exact tx_19 (by first | assumption | omega) | exact tx_20 (by first | assumption | omega) | exact tx_27 (by first | assumption | omega) | exact tx_28 (by first | assumption | omega) | exact tx_30 (by first | assumption | omega) | exact tx_31 (by first | assumption | omega) | exact tx_32 (by first | assumption | omega) | exact tx_33 (by first | assumption | omega)) (by rfl) ?_
    rw [hc8]
    refine z_callV h dX11_met_31 (fun _ _ q => z_okv_no he q) (fun _ _ _ t q => absurd q (he t)) (m_X5_match _ hR no hco hno hna hr17) ym_X5_match mlX11_345 im_X5_match (ci := 5) rfl se_X5_match icX5 rfl (r_p.ob hR (by first | assumption | exact Nat.le_of_ble_eq_true rfl) (by first | rfl | assumption | exact tx_2 (by first | assumption | omega) | exact tx_18 (by first | assumption | omega) | exact tx_19 (by first | assumption | omega) | exact tx_20 (by first | assumption | omega) | exact tx_27 (by first | assumption | omega) | exact tx_28 (by first | assumption | omega) | exact tx_30 (by first | assumption | omega) | exact tx_31 (by first | assumption | omega) | exact tx_32 (by first | assumption | omega) | exact tx_33 (by first | assumption | omega))) rfl (by decide) (Nat.le_of_ble_eq_true rfl) ?_
    rintro q1 w ⟨rfl, K1, Q1, hR⟩
    refine z_aload_n h dX11_met_34 rfl ?_
    refine y_getr h dX11_met_35 hR flX11_72 (by first | assumption | exact Nat.le_of_ble_eq_true rfl) (by first | rfl | assumption | exact tx_2 (by first | assumption | omega) | exact tx_18 (by first | assumption | omega) | exact tx_19 (by first | assumption | omega) | exact tx_20 (by first | assumption | omega) | exact tx_27 (by first | assumption | omega) | exact tx_28 (by first | assumption | omega) | exact tx_30 (by first | assumption | omega) | exact tx_31 (by first | assumption | omega) | exact tx_32 (by first | assumption | omega) | exact tx_33 (by first | assumption | omega)) (by rfl) ?_
    refine y_getr h dX11_met_38 hR flX11_349 (by first | assumption | exact Nat.le_of_ble_eq_true rfl) (by first | rfl | assumption | exact tx_2 (by first | assumption | omega) | exact tx_18 (by first | assumption | omega) | exact tx_19 (by first | assumption | omega) | exact tx_20 (by first | assumption | omega) | exact tx_27 (by first | assumption | omega) | exact tx_28 (by first | assumption | omega) | exact tx_30 (by first | assumption | omega) | exact tx_31 (by first | assumption | omega) | exact tx_32 (by first | assumption | omega) | exact tx_33 (by first | assumption | omega)) (by rfl) ?_
    refine z_iload_n h dX11_met_41 rfl ?_
    refine z_callS h dX11_met_42 (fun _ _ q => z_okv_no he q) (fun _ _ _ t q => absurd q (he t)) (m_X11_itemOf _ _ (38, 0) 8 _ x (hR.ia (Nat.le_of_ble_eq_true rfl) rfl) (by decide)) ym_X11_itemOf mlX11_148 sm_X11_itemOf rfl (by decide) (Nat.le_of_ble_eq_true rfl) ?_
    rintro q1 w1 ⟨rfl, hw1⟩
    have hw1 := hw1.symm; subst hw1
    exact z_iret h dX11_met_45 hr (⟨z_e1 (by rw [if_pos ((ix_in (by omega)).mp (z_bt c_1)), n_item ((ix_in (by omega)).mp (z_bt c_1)) hno (by decide), oc_F]; rfl), _, (OX.wc c no na na).oc, hR⟩)
  · skip
    refine z_iconst (v := -1) h dX11_met_17 (by decide) ?_
    exact z_iret h dX11_met_18 hr (⟨z_e1 (by rw [if_neg (fun q => z_bf c_1 ((ix_in (by omega)).mpr q))]), _, OX.rf c, hR⟩)
set_option maxHeartbeats 4000000 in
set_option maxRecDepth 100000 in
theorem m_X11_count (G : z_G) {nb na np g : Nat} {w0 w : z_w} {c : r_c} {l : r_l} {r : r_r} (hX : XR nb na np g w0 c l r w) (no : Nat) (hco : c (35, 0) 3 = nI no) (hno : no ≤ 8) (x : Int32) : z_M G yX11_count cX11_count 2 (some .int) 7 (0) (0) [vr (0, 0), vi x] w (fun q w1 => q = some (vi (n_sel x [(0, c (0, 0) 0), (1, c (0, 0) 2), (2, c (0, 0) 8), (3, c (0, 0) 12), (4, c (29, 0) 5), (5, c (35, 0) 3), (6, nI (o_cnt (fun o => decide (¬ xmet c no na o = -1)) no)), (7, c (6, 0) 1), (8, z_sum (c (5, 0)) 8), (9, c (0, 0) 9)] (-1))) ∧ ∃ c1, OX c c1 ∧ r_p dX (TX nb na np g) w0 (c1) (l) (r) w1) := by
  refine z_met ym_X11_count (by decide) ⟨Nat.le_of_ble_eq_true rfl, Nat.le_of_ble_eq_true rfl⟩ (fun X hG hn hmc hms hin h hr => ?_)
  have he := hr.2.2.2.2.2.1
  obtain ⟨hR, hnb, hna, hnp, hg6, hc2, hc8, hc12, hr1, hr17, hr26⟩ := id hX
  refine z_iload_n h dX11_count_0 rfl ?_
  by_cases s_1_0 : x = 0
  · skip
    refine z_tblIn h dX11_count_1 56 (off := 55) (by rw [s_1_0]; decide) (by rw [s_1_0]; decide) (by rw [s_1_0]; rfl) (by decide) ?_
    refine z_aload_n h dX11_count_56 rfl ?_
    refine y_geti h dX11_count_57 hR flX11_110 (by first | assumption | exact Nat.le_of_ble_eq_true rfl) (by first | rfl | assumption | exact tx_2 (by first | assumption | omega) | exact tx_18 (by first | assumption | omega) | exact tx_19 (by first | assumption | omega) | exact tx_20 (by first | assumption | omega) | exact tx_27 (by first | assumption | omega) | exact tx_28 (by first | assumption | omega) | exact tx_30 (by first | assumption | omega) | exact tx_31 (by first | assumption | omega) | exact tx_32 (by first | assumption | omega) | exact tx_33 (by first | assumption | omega)) (by rfl) ?_
    exact z_iret h dX11_count_60 hr (⟨z_e1 (by rw [s_1_0]; rfl), _, OX.rf c, hR⟩)
  by_cases s_1_1 : x = 1
  · skip
    refine z_tblIn h dX11_count_1 61 (off := 60) (by rw [s_1_1]; decide) (by rw [s_1_1]; decide) (by rw [s_1_1]; rfl) (by decide) ?_
    refine z_aload_n h dX11_count_61 rfl ?_
    refine y_geti h dX11_count_62 hR flX11_87 (by first | assumption | exact Nat.le_of_ble_eq_true rfl) (by first | rfl | assumption | exact tx_2 (by first | assumption | omega) | exact tx_18 (by first | assumption | omega) | exact tx_19 (by first | assumption | omega) | exact tx_20 (by first | assumption | omega) | exact tx_27 (by first | assumption | omega) | exact tx_28 (by first | assumption | omega) | exact tx_30 (by first | assumption | omega) | exact tx_31 (by first | assumption | omega) | exact tx_32 (by first | assumption | omega) | exact tx_33 (by first | assumption | omega)) (by rfl) ?_
    exact z_iret h dX11_count_65 hr (⟨z_e1 (by rw [s_1_1]; rfl), _, OX.rf c, hR⟩)
  by_cases s_1_2 : x = 2
  · skip
    refine z_tblIn h dX11_count_1 66 (off := 65) (by rw [s_1_2]; decide) (by rw [s_1_2]; decide) (by rw [s_1_2]; rfl) (by decide) ?_
    refine z_aload_n h dX11_count_66 rfl ?_
    refine y_geti h dX11_count_67 hR flX11_223 (by first | assumption | exact Nat.le_of_ble_eq_true rfl) (by first | rfl | assumption | exact tx_2 (by first | assumption | omega) | exact tx_18 (by first | assumption | omega) | exact tx_19 (by first | assumption | omega) | exact tx_20 (by first | assumption | omega) | exact tx_27 (by first | assumption | omega) | exact tx_28 (by first | assumption | omega) | exact tx_30 (by first | assumption | omega) | exact tx_31 (by first | assumption | omega) | exact tx_32 (by first | assumption | omega) | exact tx_33 (by first | assumption | omega)) (by rfl) ?_
    exact z_iret h dX11_count_70 hr (⟨z_e1 (by rw [s_1_2]; rfl), _, OX.rf c, hR⟩)
  by_cases s_1_3 : x = 3
  · skip
    refine z_tblIn h dX11_count_1 71 (off := 70) (by rw [s_1_3]; decide) (by rw [s_1_3]; decide) (by rw [s_1_3]; rfl) (by decide) ?_
    refine z_aload_n h dX11_count_71 rfl ?_
    refine y_geti h dX11_count_72 hR flX11_285 (by first | assumption | exact Nat.le_of_ble_eq_true rfl) (by first | rfl | assumption | exact tx_2 (by first | assumption | omega) | exact tx_18 (by first | assumption | omega) | exact tx_19 (by first | assumption | omega) | exact tx_20 (by first | assumption | omega) | exact tx_27 (by first | assumption | omega) | exact tx_28 (by first | assumption | omega) | exact tx_30 (by first | assumption | omega) | exact tx_31 (by first | assumption | omega) | exact tx_32 (by first | assumption | omega) | exact tx_33 (by first | assumption | omega)) (by rfl) ?_
    exact z_iret h dX11_count_75 hr (⟨z_e1 (by rw [s_1_3]; rfl), _, OX.rf c, hR⟩)
  by_cases s_1_4 : x = 4
  · skip
    refine z_tblIn h dX11_count_1 76 (off := 75) (by rw [s_1_4]; decide) (by rw [s_1_4]; decide) (by rw [s_1_4]; rfl) (by decide) ?_
    refine z_aload_n h dX11_count_76 rfl ?_
    refine y_getr h dX11_count_77 hR flX11_65 (by first | assumption | exact Nat.le_of_ble_eq_true rfl) (by first | rfl | assumption | exact tx_2 (by first | assumption | omega) | exact tx_18 (by first | assumption | omega) | exact tx_19 (by first | assumption | omega) | exact tx_20 (by first | assumption | omega) | exact tx_27 (by first | assumption | omega) | exact tx_28 (by first | assumption | omega) | exact tx_30 (by first | assumption | omega) | exact tx_31 (by first | assumption | omega) | exact tx_32 (by first | assumption | omega) | exact tx_33 (by first | assumption | omega)) (by rfl) ?_
    refine y_geti h dX11_count_80 hR flX11_295 (by first | assumption | exact Nat.le_of_ble_eq_true rfl) (by first | rfl | assumption | exact tx_2 (by first | assumption | omega) | exact tx_18 (by first | assumption | omega) | exact tx_19 (by first | assumption | omega) | exact tx_20 (by first | assumption | omega) | exact tx_27 (by first | assumption | omega) | exact tx_28 (by first | assumption | omega) | exact tx_30 (by first | assumption | omega) | exact tx_31 (by first | assumption | omega) | exact tx_32 (by first | assumption | omega) | exact tx_33 (by first | assumption | omega)) (by rfl) ?_
    exact z_iret h dX11_count_83 hr (⟨z_e1 (by rw [s_1_4]; rfl), _, OX.rf c, hR⟩)
  by_cases s_1_5 : x = 5
  · skip
    refine z_tblIn h dX11_count_1 84 (off := 83) (by rw [s_1_5]; decide) (by rw [s_1_5]; decide) (by rw [s_1_5]; rfl) (by decide) ?_
    refine z_aload_n h dX11_count_84 rfl ?_
    refine y_getr h dX11_count_85 hR flX11_72 (by first | assumption | exact Nat.le_of_ble_eq_true rfl) (by first | rfl | assumption | exact tx_2 (by first | assumption | omega) | exact tx_18 (by first | assumption | omega) | exact tx_19 (by first | assumption | omega) | exact tx_20 (by first | assumption | omega) | exact tx_27 (by first | assumption | omega) | exact tx_28 (by first | assumption | omega) | exact tx_30 (by first | assumption | omega) | exact tx_31 (by first | assumption | omega) | exact tx_32 (by first | assumption | omega) | exact tx_33 (by first | assumption | omega)) (by rfl) ?_
    refine y_geti h dX11_count_88 hR flX11_344 (by first | assumption | exact Nat.le_of_ble_eq_true rfl) (by first | rfl | assumption | exact tx_2 (by first | assumption | omega) | exact tx_18 (by first | assumption | omega) | exact tx_19 (by first | assumption | omega) | exact tx_20 (by first | assumption | omega) | exact tx_27 (by first | assumption | omega) | exact tx_28 (by first | assumption | omega) | exact tx_30 (by first | assumption | omega) | exact tx_31 (by first | assumption | omega) | exact tx_32 (by first | assumption | omega) | exact tx_33 (by first | assumption | omega)) (by rfl) ?_
    exact z_iret h dX11_count_91 hr (⟨z_e1 (by rw [s_1_5]; rfl), _, OX.rf c, hR⟩)
  by_cases s_1_6 : x = 6
  · skip
    refine z_tblIn h dX11_count_1 92 (off := 91) (by rw [s_1_6]; decide) (by rw [s_1_6]; decide) (by rw [s_1_6]; rfl) (by decide) ?_
    refine z_aload_n h dX11_count_92 rfl ?_
    refine y_getr h dX11_count_93 hR flX11_72 (by first | assumption | exact Nat.le_of_ble_eq_true rfl) (by first | rfl | assumption | exact tx_2 (by first | assumption | omega) | exact tx_18 (by first | assumption | omega) | exact tx_19 (by first | assumption | omega) | exact tx_20 (by first | assumption | omega) | exact tx_27 (by first | assumption | omega) | exact tx_28 (by first | assumption | omega) | exact tx_30 (by first | assumption | omega) | exact tx_31 (by first | assumption | omega) | exact tx_32 (by first | assumption | omega) | exact tx_33 (by first | assumption | omega)) (by rfl) ?_
    refine z_aload_n h dX11_count_96 rfl ?_
    refine y_getr h dX11_count_97 hR flX11_45 (by first | assumption | exact Nat.le_of_ble_eq_true rfl) (by first | rfl | assumption | exact tx_2 (by first | assumption | omega) | exact tx_18 (by first | assumption | omega) | exact tx_19 (by first | assumption | omega) | exact tx_20 (by first | assumption | omega) | exact tx_27 (by first | assumption | omega) | exact tx_28 (by first | assumption | omega) | exact tx_30 (by first | assumption | omega) | exact tx_31 (by first | assumption | omega) | exact tx_32 (by first | assumption | omega) | exact tx_33 (by first | assumption | omega)) (by rfl) ?_
    refine z_aload_n h dX11_count_100 rfl ?_
    refine y_geti h dX11_count_101 hR flX11_223 (by first | assumption | exact Nat.le_of_ble_eq_true rfl) (by first | rfl | assumption | exact tx_2 (by first | assumption | omega) | exact tx_18 (by first | assumption | omega) | exact tx_19 (by first | assumption | omega) | exact tx_20 (by first | assumption | omega) | exact tx_27 (by first | assumption | omega) | exact tx_28 (by first | assumption | omega) | exact tx_30 (by first | assumption | omega) | exact tx_31 (by first | assumption | omega) | exact tx_32 (by first | assumption | omega) | exact tx_33 (by first | assumption | omega)) (by rfl) ?_
    rw [hc8]
    refine z_callV h dX11_count_104 (fun _ _ q => z_okv_no he q) (fun _ _ _ t q => absurd q (he t)) (m_X5_match _ hR no hco hno hna hr17) ym_X5_match mlX11_345 im_X5_match (ci := 5) rfl se_X5_match icX5 rfl (r_p.ob hR (by first | assumption | exact Nat.le_of_ble_eq_true rfl) (by first | rfl | assumption | exact tx_2 (by first | assumption | omega) | exact tx_18 (by first | assumption | omega) | exact tx_19 (by first | assumption | omega) | exact tx_20 (by first | assumption | omega) | exact tx_27 (by first | assumption | omega) | exact tx_28 (by first | assumption | omega) | exact tx_30 (by first | assumption | omega) | exact tx_31 (by first | assumption | omega) | exact tx_32 (by first | assumption | omega) | exact tx_33 (by first | assumption | omega))) rfl (by decide) (Nat.le_of_ble_eq_true rfl) ?_
    rintro q1 w ⟨rfl, K1, Q1, hR⟩
    refine z_aload_n h dX11_count_107 rfl ?_
    refine y_getr h dX11_count_108 hR flX11_72 (by first | assumption | exact Nat.le_of_ble_eq_true rfl) (by first | rfl | assumption | exact tx_2 (by first | assumption | omega) | exact tx_18 (by first | assumption | omega) | exact tx_19 (by first | assumption | omega) | exact tx_20 (by first | assumption | omega) | exact tx_27 (by first | assumption | omega) | exact tx_28 (by first | assumption | omega) | exact tx_30 (by first | assumption | omega) | exact tx_31 (by first | assumption | omega) | exact tx_32 (by first | assumption | omega) | exact tx_33 (by first | assumption | omega)) (by rfl) ?_
    refine z_callV h dX11_count_111 (fun _ _ q => z_okv_no he q) (fun _ _ _ t q => absurd q (he t)) (m_X5_metCount _ hR no (by rw [oc_sz]; unfold o_wc; rw [r_cf_ne (by simp), r_cs, r_cf_self]; exact hco) hno) ym_X5_metCount mlX11_358 im_X5_metCount (ci := 5) rfl se_X5_metCount icX5 rfl (r_p.ob hR (by first | assumption | exact Nat.le_of_ble_eq_true rfl) (by first | rfl | assumption | exact tx_2 (by first | assumption | omega) | exact tx_18 (by first | assumption | omega) | exact tx_19 (by first | assumption | omega) | exact tx_20 (by first | assumption | omega) | exact tx_27 (by first | assumption | omega) | exact tx_28 (by first | assumption | omega) | exact tx_30 (by first | assumption | omega) | exact tx_31 (by first | assumption | omega) | exact tx_32 (by first | assumption | omega) | exact tx_33 (by first | assumption | omega))) rfl (by decide) (Nat.le_of_ble_eq_true rfl) ?_
    rintro q1 w1 ⟨rfl, hw1⟩
    have hw1 := hw1.symm; subst hw1
    exact z_iret h dX11_count_114 hr (⟨z_e1 (by rw [s_1_6]; simp only [oc_F]; rfl), _, (OX.wc c no na na).oc, hR⟩)
  by_cases s_1_7 : x = 7
  · skip
    refine z_tblIn h dX11_count_1 115 (off := 114) (by rw [s_1_7]; decide) (by rw [s_1_7]; decide) (by rw [s_1_7]; rfl) (by decide) ?_
    refine z_aload_n h dX11_count_115 rfl ?_
    refine y_getr h dX11_count_116 hR flX11_25 (by first | assumption | exact Nat.le_of_ble_eq_true rfl) (by first | rfl | assumption | exact tx_2 (by first | assumption | omega) | exact tx_18 (by first | assumption | omega) | exact tx_19 (by first | assumption | omega) | exact tx_20 (by first | assumption | omega) | exact tx_27 (by first | assumption | omega) | exact tx_28 (by first | assumption | omega) | exact tx_30 (by first | assumption | omega) | exact tx_31 (by first | assumption | omega) | exact tx_32 (by first | assumption | omega) | exact tx_33 (by first | assumption | omega)) (by rfl) ?_
    refine y_geti h dX11_count_119 hR flX11_156 (by first | assumption | exact Nat.le_of_ble_eq_true rfl) (by first | rfl | assumption | exact tx_2 (by first | assumption | omega) | exact tx_18 (by first | assumption | omega) | exact tx_19 (by first | assumption | omega) | exact tx_20 (by first | assumption | omega) | exact tx_27 (by first | assumption | omega) | exact tx_28 (by first | assumption | omega) | exact tx_30 (by first | assumption | omega) | exact tx_31 (by first | assumption | omega) | exact tx_32 (by first | assumption | omega) | exact tx_33 (by first | assumption | omega)) (by rfl) ?_
    exact z_iret h dX11_count_122 hr (⟨z_e1 (by rw [s_1_7]; rfl), _, OX.rf c, hR⟩)
  by_cases s_1_8 : x = 8
  · skip
    refine z_tblIn h dX11_count_1 123 (off := 122) (by rw [s_1_8]; decide) (by rw [s_1_8]; decide) (by rw [s_1_8]; rfl) (by decide) ?_
    refine z_aload_n h dX11_count_123 rfl ?_
    refine y_getr h dX11_count_124 hR flX11_18 (by first | assumption | exact Nat.le_of_ble_eq_true rfl) (by first | rfl | assumption | exact tx_2 (by first | assumption | omega) | exact tx_18 (by first | assumption | omega) | exact tx_19 (by first | assumption | omega) | exact tx_20 (by first | assumption | omega) | exact tx_27 (by first | assumption | omega) | exact tx_28 (by first | assumption | omega) | exact tx_30 (by first | assumption | omega) | exact tx_31 (by first | assumption | omega) | exact tx_32 (by first | assumption | omega) | exact tx_33 (by first | assumption | omega)) (by rfl) ?_
    refine y_getr h dX11_count_127 hR flX11_181 (by first | assumption | exact Nat.le_of_ble_eq_true rfl) (by first | rfl | assumption | exact tx_2 (by first | assumption | omega) | exact tx_18 (by first | assumption | omega) | exact tx_19 (by first | assumption | omega) | exact tx_20 (by first | assumption | omega) | exact tx_27 (by first | assumption | omega) | exact tx_28 (by first | assumption | omega) | exact tx_30 (by first | assumption | omega) | exact tx_31 (by first | assumption | omega) | exact tx_32 (by first | assumption | omega) | exact tx_33 (by first | assumption | omega)) (by rfl) ?_
    refine z_callS h dX11_count_130 (fun _ _ q => z_okv_no he q) (fun _ _ _ t q => absurd q (he t)) (m_X11_sumOf _ _ (5, 0) 8 (c (5, 0)) (hR.ia (Nat.le_of_ble_eq_true rfl) rfl) (by decide)) ym_X11_sumOf mlX11_177 sm_X11_sumOf rfl (by decide) (Nat.le_of_ble_eq_true rfl) ?_
    rintro q1 w1 ⟨rfl, hw1⟩
    have hw1 := hw1.symm; subst hw1
    exact z_iret h dX11_count_133 hr (⟨z_e1 (by rw [s_1_8]; rfl), _, OX.rf c, hR⟩)
  by_cases s_1_9 : x = 9
  · skip
    refine z_tblIn h dX11_count_1 134 (off := 133) (by rw [s_1_9]; decide) (by rw [s_1_9]; decide) (by rw [s_1_9]; rfl) (by decide) ?_
    refine z_aload_n h dX11_count_134 rfl ?_
    refine y_geti h dX11_count_135 hR flX11_250 (by first | assumption | exact Nat.le_of_ble_eq_true rfl) (by first | rfl | assumption | exact tx_2 (by first | assumption | omega) | exact tx_18 (by first | assumption | omega) | exact tx_19 (by first | assumption | omega) | exact tx_20 (by first | assumption | omega) | exact tx_27 (by first | assumption | omega) | exact tx_28 (by first | assumption | omega) | exact tx_30 (by first | assumption | omega) | exact tx_31 (by first | assumption | omega) | exact tx_32 (by first | assumption | omega) | exact tx_33 (by first | assumption | omega)) (by rfl) ?_
    exact z_iret h dX11_count_138 hr (⟨z_e1 (by rw [s_1_9]; rfl), _, OX.rf c, hR⟩)
  refine z_tblOut h dX11_count_1 139 (by have a0 := lv_neT s_1_0 (a := 0) (by decide); have a1 := lv_neT s_1_1 (a := 1) (by decide); have a2 := lv_neT s_1_2 (a := 2) (by decide); have a3 := lv_neT s_1_3 (a := 3) (by decide); have a4 := lv_neT s_1_4 (a := 4) (by decide); have a5 := lv_neT s_1_5 (a := 5) (by decide); have a6 := lv_neT s_1_6 (a := 6) (by decide); have a7 := lv_neT s_1_7 (a := 7) (by decide); have a8 := lv_neT s_1_8 (a := 8) (by decide); have a9 := lv_neT s_1_9 (a := 9) (by decide); omega) (by decide) ?_
  refine z_iconst (v := -1) h dX11_count_139 (by decide) ?_
  exact z_iret h dX11_count_140 hr (⟨z_e1 (by simp only [n_sel, s_1_0, s_1_1, s_1_2, s_1_3, s_1_4, s_1_5, s_1_6, s_1_7, s_1_8, s_1_9, if_false]), _, OX.rf c, hR⟩)
