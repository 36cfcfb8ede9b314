/-! the reference's search finds, or nothing can be found; most tells the greatest number -/
def uI (m : Nat) (B A : Nat → Int32) : Prop := ∀ y y', y < m → y' < m → A y = 0 → A y' = 0 → B y = B y' → B y ≠ -1 → y = y'
def uN (m : Nat) (B A : Nat → Int32) (x : Nat) : Prop := ∀ y, y < m → A y = 0 → B y ≠ nI x
def bON (n m : Nat) (B : Nat → Int32) : Prop := ∀ y, y < m → B y = -1 ∨ ∃ x, x < n ∧ B y = nI x
def fdF (ft : Nat → Nat → Bool) (s n m o : Nat) (B A A' : Nat → Int32) : Prop :=
  (∀ y, ¬ A y = 0 → ¬ A' y = 0) ∧ (∀ y, y < m → A y = 0 → ¬ A' y = 0 → B y ≠ -1 ∧ ∀ x, x < n → s ≤ x → B y = nI x → ∀ y', y' < m → ft x y' = true → ¬ A' y' = 0) ∧ ∀ y, y < m → ft o y = true → ¬ A' y = 0
def cB (ft : Nat → Nat → Bool) (s n m : Nat) (B : Nat → Int32) (Z : Nat → Prop) : Prop := ∀ x y, Z x → s ≤ x → x < n → y < m → ft x y = true → (¬ ∃ z, z < s ∧ B y = nI z) → ∃ x', x' < n ∧ Z x' ∧ B y = nI x'
def fdG (ft : Nat → Nat → Bool) (s n m o : Nat) (B A B' : Nat → Int32) : Prop :=
  (∀ y, y < m → ¬ A y = 0 → B' y = B y) ∧ uI m B' A ∧
  (∀ x, x < n → ((∃ y, y < m ∧ A y = 0 ∧ B' y = nI x) ↔ (∃ y, y < m ∧ A y = 0 ∧ B y = nI x) ∨ x = o)) ∧
  (∀ y, y < m → B' y = B y ∨ ((∃ x, s ≤ x ∧ x < n ∧ B' y = nI x ∧ ft x y = true) ∧ ¬ ∃ z, z < s ∧ B y = nI z)) ∧
  ∀ Z, cB ft s n m B Z → ¬ Z o ∧ ∀ y, y < m → (∃ x, x < n ∧ Z x ∧ B y = nI x) → B' y = B y
def recS (ft : Nat → Nat → Bool) (s n m f : Nat) (rec : fdR) : Prop := ∀ o B A, s ≤ o → o < n → bON n m B → uI m B A → uN m B A o → aCt m A + 1 ≤ f → ((rec o B A).1 = 0 ∧ (rec o B A).2.1 = B ∧ fdF ft s n m o B A (rec o B A).2.2) ∨ ((rec o B A).1 = 1 ∧ fdG ft s n m o B A (rec o B A).2.1)
theorem fdl_spec {ft : Nat → Nat → Bool} {s n m f : Nat} {rec : fdR} (hn : n ≤ 8) (hm : m ≤ 100) (hr : recS ft s n m f rec) {o : Nat} (hs : s ≤ o) (ho : o < n) {B A0 : Nat → Int32} (hB : bON n m B) (hI : uI m B A0) (hN : uN m B A0 o) :
    ∀ k y A, y + k = m → aCt m A ≤ f → (∀ z, ¬ A0 z = 0 → ¬ A z = 0) → (∀ z, z < m → A0 z = 0 → ¬ A z = 0 → B z ≠ -1 ∧ ∀ x, x < n → s ≤ x → B z = nI x → ∀ y', y' < m → ft x y' = true → ¬ A y' = 0) → (∀ z, z < y → ft o z = true → ¬ A z = 0) →
      ((fdl ft (nI s) rec o k y B A).1 = 0 ∧ (fdl ft (nI s) rec o k y B A).2.1 = B ∧ fdF ft s n m o B A0 (fdl ft (nI s) rec o k y B A).2.2) ∨ ((fdl ft (nI s) rec o k y B A).1 = 1 ∧ fdG ft s n m o B A0 (fdl ft (nI s) rec o k y B A).2.1)
  | 0, y, A, hk, hf, h1, h2, h3 => Or.inl ⟨rfl, rfl, h1, h2, fun z hz => h3 z (by omega)⟩
  | k + 1, y, A, hk, hf, h1, h2, h3 => by
    have hy : y < m := by omega
    rw [fdl]
    by_cases c1 : ¬ A y = 0 ∨ ft o y = false
    · rw [if_pos c1]
      refine fdl_spec hn hm hr hs ho hB hI hN k (y + 1) A (by omega) hf h1 h2 (fun z hz hf => ?_)
      by_cases e : z = y
      · subst e
        rcases c1 with q | q
        · exact q
        · rw [hf] at q; cases q
      · exact h3 z (by omega) hf
    · rw [if_neg c1]
      have a1 : A y = 0 := Classical.byContradiction fun q => c1 (Or.inl q)
      have a0 : A0 y = 0 := Classical.byContradiction fun q => h1 y q a1
      have fo : ft o y = true := by
        cases q : ft o y with
        | true => rfl
        | false => exact absurd (Or.inr q) c1
      by_cases c2 : B y = -1
      · rw [if_pos c2]
        have hne : ∀ x, x < n → B y ≠ nI x := fun x hx q => by rw [c2] at q; exact nI_m1 (by omega) q.symm
        refine Or.inr ⟨rfl, fun z hz hz0 => ?_, fun z z' hz hz' q q' e em => ?_, fun x hx => ⟨fun ⟨z, z1, z2, z3⟩ => ?_, fun q => ?_⟩, fun z hz => ?_, fun Z hZ => ⟨fun q => ?_, fun z hz ⟨x, x1, x2, x3⟩ => ?_⟩⟩
        · show upd B y (nI o) z = _
          exact pk_un (fun e => hz0 (by rw [e]; exact a0))
        · have e : upd B y (nI o) z = upd B y (nI o) z' := e
          have em : upd B y (nI o) z ≠ -1 := em
          by_cases e1 : z = y
          · by_cases e2 : z' = y
            · rw [e1, e2]
            · rw [e1, pk_us, pk_un e2] at e
              exact absurd e.symm (hN z' hz' q')
          · by_cases e2 : z' = y
            · rw [e2, pk_us, pk_un e1] at e
              exact absurd e (hN z hz q)
            · rw [pk_un e1, pk_un e2] at e
              rw [pk_un e1] at em
              exact hI z z' hz hz' q q' e em
        · have z3 : upd B y (nI o) z = nI x := z3
          by_cases e1 : z = y
          · rw [e1, pk_us] at z3
            exact Or.inr (nI_j (by omega) (by omega) z3.symm)
          · rw [pk_un e1] at z3
            exact Or.inl ⟨z, z1, z2, z3⟩
        · rcases q with ⟨z, z1, z2, z3⟩ | q
          · refine ⟨z, z1, z2, ?_⟩
            show upd B y (nI o) z = _
            rw [pk_un (fun e => hne x hx (by rw [← e]; exact z3))]
            exact z3
          · subst q
            exact ⟨y, hy, a0, pk_us⟩
        · by_cases e1 : z = y
          · subst e1
            exact Or.inr ⟨⟨o, hs, ho, pk_us, fo⟩, fun ⟨x, x1, x2⟩ => hne x (by omega) x2⟩
          · exact Or.inl (pk_un e1)
        · obtain ⟨x', x1, x2, x3⟩ := hZ o y q hs ho hy fo (fun ⟨x, x1, x2⟩ => hne x (by omega) x2)
          exact hne x' x1 x3
        · exact pk_un (fun e => hne x x1 (by rw [← e]; exact x3))
      · rw [if_neg c2]
        obtain ⟨x', hx', ex⟩ := (hB y hy).resolve_left c2
        have hcu := aCt_upd hy a1
        by_cases c3 : B y < nI s
        · rw [if_pos c3]
          have hxs : x' < s := by
            rw [ex] at c3
            by_cases q : s ≤ x'
            · exact absurd c3 (nI_nlt q (by omega))
            · omega
          refine fdl_spec hn hm hr hs ho hB hI hN k (y + 1) (upd A y 1) (by omega) (by omega) (fun z hz => updne (h1 z hz)) (fun z hz q q2 => ?_) (fun z hz q => ?_)
          · by_cases e : z = y
            · subst e
              exact ⟨c2, fun x x1 x2 x3 => by have := nI_j (by omega) (by omega) (ex.symm.trans x3); omega⟩
            · rw [pk_un e] at q2
              have := h2 z hz q q2
              exact ⟨this.1, fun x x1 x2 x3 y' y1 y2 => updne (this.2 x x1 x2 x3 y' y1 y2)⟩
          · by_cases e : z = y
            · subst e; rw [pk_us]; decide
            · exact updne (h3 z (by omega) q)
        · rw [if_neg c3]
          have hxs : s ≤ x' := by
            rw [ex] at c3
            by_cases q : s ≤ x'
            · exact q
            · exact absurd (nI_lt (by omega) (by omega)) c3
          have exc : (B y).toNatClampNeg = x' := by rw [ex, nI_clamp (by omega)]
          rw [exc]
          have hz0 : ∀ z, (upd A y 1) z = 0 → A0 z = 0 ∧ z ≠ y := fun z q => by
            have hzy : z ≠ y := fun e => by rw [e, pk_us] at q; exact absurd q (by decide)
            rw [pk_un hzy] at q
            exact ⟨Classical.byContradiction fun r => h1 z r q, hzy⟩
          have hNb : ¬ ∃ z, z < s ∧ B y = nI z := fun ⟨z, z1, z2⟩ => by
            have := nI_j (by omega) (by omega) (ex.symm.trans z2); omega
          rcases hr x' B (upd A y 1) hxs hx' hB (fun z z' hz hz' q q' => hI z z' hz hz' (hz0 z q).1 (hz0 z' q').1) (fun z hz q e => (hz0 z q).2 (hI z y hz hy (hz0 z q).1 a0 (by rw [e, ex]) (by rw [e]; exact nI_m1 (by omega)))) (by omega) with ⟨r1, r2, r3⟩ | ⟨r1, r3⟩
          · rw [if_pos r1, r2]
            obtain ⟨g1, g2, g3⟩ := r3
            refine fdl_spec hn hm hr hs ho hB hI hN k (y + 1) _ (by omega) (Nat.le_trans (aCt_mono g1) (by omega)) (fun z hz => g1 z (updne (h1 z hz))) (fun z hz q q2 => ?_) (fun z hz q => ?_)
            · by_cases e : z = y
              · subst e
                refine ⟨c2, fun x x1 x2 x3 y' y1 y2 => ?_⟩
                have hxx : x = x' := nI_j (by omega) (by omega) (x3.symm.trans ex)
                rw [hxx] at y2
                exact g3 y' y1 y2
              · by_cases e2 : A z = 0
                · exact g2 z hz (by rw [pk_un e]; exact e2) q2
                · have := h2 z hz q e2
                  exact ⟨this.1, fun x x1 x2 x3 y' y1 y2 => g1 y' (updne (this.2 x x1 x2 x3 y' y1 y2))⟩
            · by_cases e : z = y
              · subst e; exact g1 z (by rw [pk_us]; decide)
              · exact g1 z (updne (h3 z (by omega) q))
          · rw [if_neg (fun z => by rw [r1] at z; exact absurd z (by decide))]
            generalize (rec x' B (upd A y 1)).2.1 = B3 at r3
            generalize (rec x' B (upd A y 1)).2.2 = A3
            obtain ⟨g1, g2, g3, g4, g5⟩ := r3
            have hU : ∀ z, z < m → A0 z = 0 → z ≠ y → (upd A y 1) z = 0 ∨ (¬ (upd A y 1) z = 0 ∧ B3 z = B z) := fun z hz q e => by
              by_cases q2 : (upd A y 1) z = 0
              · exact Or.inl q2
              · exact Or.inr ⟨q2, g1 z hz q2⟩
            have hBy : B3 y = B y := g1 y hy (by rw [pk_us]; decide)
            have hB3 : bON n m B3 := fun z hz => (g4 z hz).elim (fun q => by rw [q]; exact hB z hz) (fun q => q.1.elim fun x r => Or.inr ⟨x, r.2.1, r.2.2.1⟩)
            have hno : ∀ z, z < m → A0 z = 0 → z ≠ y → B3 z ≠ nI o := fun z hz q e e2 => by
              rcases hU z hz q e with r | ⟨r, r2⟩
              · rcases (g3 o ho).mp ⟨z, hz, r, e2⟩ with ⟨z2, w1, w2, w3⟩ | w
                · exact hN z2 w1 (hz0 z2 w2).1 w3
                · exact hN y hy a0 (by rw [w]; exact ex)
              · exact hN z hz q (by rw [← r2]; exact e2)
            have hmix : ∀ z z', z < m → z' < m → A0 z' = 0 → z' ≠ y → (upd A y 1) z = 0 → ¬ (upd A y 1) z' = 0 → B3 z = B3 z' → B3 z' = B z' → B3 z = -1 := fun z z' hz hz' q' e' r r' e w => by
              rcases hB3 z hz with v | ⟨x, x1, x2⟩
              · exact v
              · exfalso
                rcases (g3 x x1).mp ⟨z, hz, r, x2⟩ with ⟨z2, w1, w2, w3⟩ | w2
                · have : z2 = z' := hI z2 z' w1 hz' (hz0 z2 w2).1 q' (by rw [w3, ← w, ← e, x2]) (by rw [w3]; exact nI_m1 (by omega))
                  rw [this] at w2
                  exact r' w2
                · have : z' = y := hI z' y hz' hy q' a0 (by rw [← w, ← e, x2, w2, ex]) (by rw [← w, ← e, x2]; exact nI_m1 (by omega))
                  exact e' this
            refine Or.inr ⟨rfl, fun z hz q => ?_, fun z z' hz hz' q q' e em => ?_, fun x hx => ⟨fun ⟨z, z1, z2, z3⟩ => ?_, fun q => ?_⟩, fun z hz => ?_, fun Z hZ => ⟨fun q => ?_, fun z hz ⟨x, x1, x2, x3⟩ => ?_⟩⟩
            · show upd B3 y (nI o) z = _
              have hzy : z ≠ y := fun e => q (by rw [e]; exact a0)
              rw [pk_un hzy]
              exact g1 z hz (updne (h1 z q))
            · have e : upd B3 y (nI o) z = upd B3 y (nI o) z' := e
              have em : upd B3 y (nI o) z ≠ -1 := em
              by_cases e1 : z = y
              · by_cases e2 : z' = y
                · rw [e1, e2]
                · rw [e1, pk_us, pk_un e2] at e
                  exact absurd e.symm (hno z' hz' q' e2)
              · by_cases e2 : z' = y
                · rw [e2, pk_us, pk_un e1] at e
                  exact absurd e (hno z hz q e1)
                · rw [pk_un e1, pk_un e2] at e
                  rw [pk_un e1] at em
                  rcases hU z hz q e1 with r | ⟨r, rb⟩
                  · rcases hU z' hz' q' e2 with r' | ⟨r', rb'⟩
                    · exact g2 z z' hz hz' r r' e em
                    · exact absurd (hmix z z' hz hz' q' e2 r r' e rb') em
                  · rcases hU z' hz' q' e2 with r' | ⟨r', rb'⟩
                    · have := hmix z' z hz' hz q e1 r' r e.symm rb
                      rw [← e] at this
                      exact absurd this em
                    · rw [rb, rb'] at e
                      rw [rb] at em
                      exact hI z z' hz hz' q q' e em
            · have z3 : upd B3 y (nI o) z = nI x := z3
              by_cases e1 : z = y
              · rw [e1, pk_us] at z3
                exact Or.inr (nI_j (by omega) (by omega) z3.symm)
              · rw [pk_un e1] at z3
                rcases hU z z1 z2 e1 with r | ⟨r, rb⟩
                · rcases (g3 x hx).mp ⟨z, z1, r, z3⟩ with ⟨z', w1, w2, w3⟩ | w
                  · exact Or.inl ⟨z', w1, (hz0 z' w2).1, w3⟩
                  · exact Or.inl ⟨y, hy, a0, by rw [w]; exact ex⟩
                · exact Or.inl ⟨z, z1, z2, by rw [← rb]; exact z3⟩
            · rcases q with ⟨z, z1, z2, z3⟩ | q
              · have hgo : (∃ y', y' < m ∧ (upd A y 1) y' = 0 ∧ B3 y' = nI x) → ∃ y', y' < m ∧ A0 y' = 0 ∧ upd B3 y (nI o) y' = nI x := fun ⟨y', w1, w2, w3⟩ => ⟨y', w1, (hz0 y' w2).1, by rw [pk_un (hz0 y' w2).2]; exact w3⟩
                by_cases e1 : z = y
                · rw [e1] at z3
                  have hxx : x = x' := nI_j (by omega) (by omega) (z3.symm.trans ex)
                  exact hgo ((g3 x hx).mpr (Or.inr hxx))
                · by_cases r : (upd A y 1) z = 0
                  · exact hgo ((g3 x hx).mpr (Or.inl ⟨z, z1, r, z3⟩))
                  · refine ⟨z, z1, z2, ?_⟩
                    show upd B3 y (nI o) z = _
                    rw [pk_un e1, g1 z z1 r]
                    exact z3
              · subst q
                exact ⟨y, hy, a0, pk_us⟩
            · by_cases e1 : z = y
              · subst e1
                exact Or.inr ⟨⟨o, hs, ho, pk_us, fo⟩, hNb⟩
              · show upd B3 y (nI o) z = _ ∨ (∃ x, s ≤ x ∧ x < n ∧ upd B3 y (nI o) z = nI x ∧ ft x z = true) ∧ _
                rw [pk_un e1]
                exact g4 z hz
            · obtain ⟨x2, w1, w2, w3⟩ := hZ o y q hs ho hy fo hNb
              have hxx : x2 = x' := nI_j (by omega) (by omega) (w3.symm.trans ex)
              rw [hxx] at w2
              exact (g5 Z hZ).1 w2
            · have hzy : z ≠ y := fun e => by
                rw [e] at x3
                have hxx : x = x' := nI_j (by omega) (by omega) (x3.symm.trans ex)
                rw [hxx] at x2
                exact (g5 Z hZ).1 x2
              show upd B3 y (nI o) z = _
              rw [pk_un hzy]
              exact (g5 Z hZ).2 z hz ⟨x, x1, x2, x3⟩
theorem fd_spec {ft : Nat → Nat → Bool} {s n m : Nat} (hn : n ≤ 8) (hm : m ≤ 100) : ∀ f o B A, s ≤ o → o < n → bON n m B → uI m B A → uN m B A o → aCt m A ≤ f → ((fd ft (nI s) m f o B A).1 = 0 ∧ (fd ft (nI s) m f o B A).2.1 = B ∧ fdF ft s n m o B A (fd ft (nI s) m f o B A).2.2) ∨ ((fd ft (nI s) m f o B A).1 = 1 ∧ fdG ft s n m o B A (fd ft (nI s) m f o B A).2.1)
  | 0, o, B, A, hs, ho, hB, hI, hN, hc => fdl_spec (f := 0) hn hm (fun _ _ _ _ _ _ _ _ h => by omega) hs ho hB hI hN m 0 A (by omega) hc (fun _ => id) (fun z _ h h' => absurd h h') (fun z h => by omega)
  | f + 1, o, B, A, hs, ho, hB, hI, hN, hc => fdl_spec (f := f + 1) hn hm (fun o' B' A' q1 q2 q3 q4 q5 q6 => fd_spec hn hm f o' B' A' q1 q2 q3 q4 q5 (by omega)) hs ho hB hI hN m 0 A (by omega) hc (fun _ => id) (fun z _ h h' => absurd h h') (fun z h => by omega)
/-- the bars' row as a relation -/
def bR (n m : Nat) (B : Nat → Int32) : mR := fun x y => x < n ∧ y < m ∧ B y = nI x
def fR (ft : Nat → Nat → Bool) (n m : Nat) : mR := fun x y => x < n ∧ y < m ∧ ft x y = true
def mZ (v : Int32) (i : Nat) (f : Nat → Int32) : Nat → Int32 := fun j => if j < i then v else f j
theorem mZ_up {v : Int32} {i : Nat} {f : Nat → Int32} : upd (mZ v i f) i v = mZ v (i + 1) f := z_upd_fill
/-- one order's search, from a row that keeps the beginning -/
theorem fd_step {ft : Nat → Nat → Bool} {s n m : Nat} {Gv B A : Nat → Int32} (hn : n ≤ 8) (hm : m ≤ 100) {o : Nat} (hs : s ≤ o) (ho : o < n) (hB : bON n m B) (hI : mI (mfx (fR ft n m) (xR n m Gv) s) (bR n m B) o) (hp : ∀ x y, x < s → xR n m Gv x y → bR n m B x y) (hA : ∀ y, y < m → A y = 0) :
    let r := fd ft (nI s) m 100 o B A
    bON n m r.2.1 ∧ mI (mfx (fR ft n m) (xR n m Gv) s) (bR n m r.2.1) (o + 1) ∧ (∀ x y, x < s → xR n m Gv x y → bR n m r.2.1 x y) ∧ ((r.1 = 0 ∧ mc (bR n m r.2.1) n = mc (bR n m B) n) ∨ (r.1 = 1 ∧ mc (bR n m r.2.1) n = mc (bR n m B) n + 1)) := by
  intro r
  have hA' : mt (mfx (fR ft n m) (xR n m Gv) s) (bR n m B) := hI.1
  have huI : uI m B A := fun y y' hy hy' _ _ e em => by
    obtain ⟨x, x1, x2⟩ := (hB y hy).resolve_left em
    exact hA'.2.1 x y y' ⟨x1, hy, x2⟩ ⟨x1, hy', by rw [← e]; exact x2⟩
  have hno : ¬ mh (bR n m B) o := fun q => by have := hI.2.1 o q; omega
  have huN : uN m B A o := fun y hy _ e => hno ⟨y, ho, hy, e⟩
  have hct : aCt m A ≤ 100 := Nat.le_trans (o_cnt_le _ m) hm
  have hcB : ∀ Z, mcl (mfx (fR ft n m) (xR n m Gv) s) (bR n m B) Z → cB ft s n m B Z := fun Z hZ x y h1 h2 h3 h4 h5 h6 => by
    obtain ⟨o', q1, q2⟩ := hZ x y h1 ⟨⟨h3, h4, h5⟩, fun q => by omega, fun _ z z1 z2 => h6 ⟨z, z1, (hp z y z1 z2).2.2⟩⟩
    exact ⟨o', q2.1, q1, q2.2.2⟩
  rcases fd_spec (ft := ft) hn hm 100 o B A hs ho hB huI huN hct with ⟨r1, r2, r3⟩ | ⟨r1, r3⟩
  · have e1 : r.2.1 = B := r2
    rw [e1]
    refine ⟨hB, mI_fail hI ?_, hp, Or.inl ⟨r1, rfl⟩⟩
    obtain ⟨g1, g2, g3⟩ := r3
    refine ⟨fun x => s ≤ x ∧ x < n ∧ (x = o ∨ ∃ y, y < m ∧ ¬ r.2.2 y = 0 ∧ B y = nI x), fun x y hx ha => ?_, ⟨hs, ho, Or.inl rfl⟩, fun x hx => ?_⟩
    · obtain ⟨h1, h2, h3⟩ := hx
      have hy := ha.1.2.1
      have hask : ¬ r.2.2 y = 0 := by
        rcases h3 with h3 | ⟨y1, y2, y3, y4⟩
        · subst h3; exact g3 y hy ha.1.2.2
        · exact (g2 y1 y2 (hA y1 y2) y3).2 x h2 h1 y4 y hy ha.1.2.2
      obtain ⟨x2, w1, w2⟩ := (hB y hy).resolve_left (g2 y hy (hA y hy) hask).1
      have hb : bR n m B x2 y := ⟨w1, hy, w2⟩
      refine ⟨x2, ⟨?_, w1, Or.inr ⟨y, hy, hask, w2⟩⟩, hb⟩
      by_cases q : s ≤ x2
      · exact q
      · exact absurd ((hA'.1 x2 y hb).2.1 (by omega)) (ha.2.2 h1 x2 (by omega))
    · rcases hx.2.2 with h3 | ⟨y1, y2, y3, y4⟩
      · exact Or.inl h3
      · exact Or.inr ⟨y1, hx.2.1, y2, y4⟩
  · obtain ⟨g1, g2, g3, g4, g5⟩ := r3
    have g1' : ∀ y, y < m → A y = 0 := hA
    have hB' : bON n m r.2.1 := fun z hz => (g4 z hz).elim (fun q => by show r.2.1 z = _ ∨ _; rw [show r.2.1 z = B z from q]; exact hB z hz) (fun q => q.1.elim fun x w => Or.inr ⟨x, w.2.1, w.2.2.1⟩)
    have hh : ∀ x, mh (bR n m r.2.1) x ↔ mh (bR n m B) x ∨ x = o := fun x => by
      constructor
      · intro ⟨y, h1, h2, h3⟩
        rcases (g3 x h1).mp ⟨y, h2, hA y h2, h3⟩ with ⟨y', w1, _, w3⟩ | w
        · exact Or.inl ⟨y', h1, w1, w3⟩
        · exact Or.inr w
      · intro q
        have hx : x < n := by
          rcases q with ⟨y, h1, _⟩ | q
          · exact h1
          · omega
        obtain ⟨y, w1, _, w3⟩ := (g3 x hx).mpr (q.imp (fun ⟨y, h1, h2, h3⟩ => ⟨y, h2, hA y h2, h3⟩) id)
        exact ⟨y, hx, w1, w3⟩
    have hfun : ∀ x y y', bR n m r.2.1 x y → bR n m r.2.1 x y' → y = y' := fun x y y' h h' => g2 y y' h.2.1 h'.2.1 (hA _ h.2.1) (hA _ h'.2.1) (h.2.2.trans h'.2.2.symm) (fun q => nI_m1 (show x < 2 ^ 31 by have := h.1; omega) (h.2.2.symm.trans q))
    have hS : mS (mfx (fR ft n m) (xR n m Gv) s) (bR n m B) (bR n m r.2.1) o := by
      refine ⟨⟨fun x y h => ?_, hfun, fun x x' y h h' => nI_j (by have := h.1; omega) (by have := h'.1; omega) (h.2.2.symm.trans h'.2.2)⟩, hh, fun Z hZ => ?_⟩
      · obtain ⟨h1, h2, h3⟩ := h
        rcases g4 y h2 with q | ⟨⟨x2, w1, w2, w3, w4⟩, w5⟩
        · exact hA'.1 x y ⟨h1, h2, by rw [← (show r.2.1 y = B y from q)]; exact h3⟩
        · have hx : x = x2 := nI_j (by omega) (by omega) (h3.symm.trans w3)
          subst hx
          exact ⟨⟨h1, h2, w4⟩, fun q => by omega, fun _ z z1 z2 => w5 ⟨z, z1, (hp z y z1 z2).2.2⟩⟩
      · obtain ⟨v1, v2⟩ := g5 Z (hcB Z hZ)
        refine ⟨v1, fun x b hx => ?_⟩
        have hgo : ∀ b, bR n m B x b → bR n m r.2.1 x b := fun b h => ⟨h.1, h.2.1, (v2 b h.2.1 ⟨x, h.1, hx, h.2.2⟩).trans h.2.2⟩
        constructor
        · intro h
          obtain ⟨b0, h0⟩ := ((hh x).mp ⟨b, h⟩).resolve_right (fun q => v1 (by rw [← q]; exact hx))
          rw [hfun x b b0 h (hgo b0 h0)]
          exact h0
        · exact hgo b
    refine ⟨hB', mI_found hI hS, fun x y hx h => ?_, Or.inr ⟨r1, mc_add ho hno hh⟩⟩
    have h0 := hp x y hx h
    refine ⟨h0.1, h0.2.1, ?_⟩
    rcases g4 y h0.2.1 with q | ⟨_, q⟩
    · exact (show r.2.1 y = B y from q).trans h0.2.2
    · exact absurd ⟨x, hx, h0.2.2⟩ q
/-- the beginning laid down -/
def mg (Gv B : Nat → Int32) : Nat → (Nat → Int32) × Nat
  | 0 => (B, 0)
  | k + 1 => if Gv k = -1 then mg Gv B k else (upd (mg Gv B k).1 (Gv k).toNatClampNeg (nI k), (mg Gv B k).2 + 1)
def gOK (m s : Nat) (Gv : Nat → Int32) : Prop := ∀ x, x < s → Gv x = -1 ∨ ∃ y, y < m ∧ Gv x = nI y
theorem mg_spec {n m s : Nat} {Gv B : Nat → Int32} (hn : n ≤ 8) (hm : m ≤ 100) (hs : s ≤ n) (hG : gOK m s Gv) (hB : ∀ y, y < m → B y = -1) : ∀ k, k ≤ s → (∀ y, y < m → ((mg Gv B k).1 y = -1 ∧ ¬ ∃ x, x < k ∧ Gv x = nI y) ∨ ∃ x, x < k ∧ Gv x = nI y ∧ (mg Gv B k).1 y = nI x) ∧ (mg Gv B k).2 = mc (mpre (xR n m Gv) k) n
  | 0, _ => by
    refine ⟨fun y hy => Or.inl ⟨hB y hy, fun ⟨x, q, _⟩ => by omega⟩, ?_⟩
    have h0 : ∀ k, o_cnt (fun o => mbo (mh (mpre (xR n m Gv) 0) o)) k = 0 := fun k => by
      induction k with
      | zero => rfl
      | succ k ih =>
        rw [o_cnt, ih, if_neg]
        intro q
        obtain ⟨b, q1, _⟩ := mbo_t.mp q
        omega
    exact (h0 n).symm
  | k + 1, hk => by
    obtain ⟨h1, h2⟩ := mg_spec hn hm hs hG hB k (by omega)
    rw [mg]
    by_cases c : Gv k = -1
    · rw [if_pos c]
      have hne : ∀ y, y < m → Gv k ≠ nI y := fun y hy q => by rw [c] at q; exact nI_m1 (by omega) q.symm
      refine ⟨fun y hy => ?_, ?_⟩
      · rcases h1 y hy with ⟨q1, q2⟩ | ⟨x, q1, q2, q3⟩
        · refine Or.inl ⟨q1, fun ⟨x, x1, x2⟩ => q2 ⟨x, ?_, x2⟩⟩
          have : x ≠ k := fun e => hne y hy (by rw [← e]; exact x2)
          omega
        · exact Or.inr ⟨x, by omega, q2, q3⟩
      · rw [h2]
        refine mc_congr fun o _ => ⟨fun ⟨b, q1, q2⟩ => ⟨b, by omega, q2⟩, fun ⟨b, q1, q2⟩ => ⟨b, ?_, q2⟩⟩
        have : o ≠ k := fun e => hne b q2.2.1 (by rw [← e]; exact q2.2.2)
        omega
    · rw [if_neg c]
      obtain ⟨y0, y1, y2⟩ := (hG k (by omega)).resolve_left c
      have e : (Gv k).toNatClampNeg = y0 := by rw [y2, nI_clamp (by omega)]
      rw [e]
      refine ⟨fun y hy => ?_, ?_⟩
      · show (upd (mg Gv B k).1 y0 (nI k) y = -1 ∧ _) ∨ ∃ x, _ ∧ _ ∧ upd (mg Gv B k).1 y0 (nI k) y = nI x
        by_cases e1 : y = y0
        · subst e1
          exact Or.inr ⟨k, Nat.lt_succ_self k, y2, pk_us⟩
        · rw [pk_un e1]
          rcases h1 y hy with ⟨q1, q2⟩ | ⟨x, q1, q2, q3⟩
          · refine Or.inl ⟨q1, fun ⟨x, x1, x2⟩ => q2 ⟨x, ?_, x2⟩⟩
            have : x ≠ k := fun e2 => e1 (by rw [e2, y2] at x2; exact (nI_j (by omega) (by omega) x2).symm)
            omega
          · exact Or.inr ⟨x, by omega, q2, q3⟩
      · show (mg Gv B k).2 + 1 = _
        rw [h2]
        refine (mc_add (R := mpre (xR n m Gv) k) (R' := mpre (xR n m Gv) (k + 1)) (o := k) (by omega) (fun ⟨b, q, _⟩ => by omega) (fun x => ⟨fun ⟨b, q1, q2⟩ => ?_, fun q => ?_⟩)).symm
        · by_cases e1 : x = k
          · exact Or.inr e1
          · exact Or.inl ⟨b, by omega, q2⟩
        · rcases q with ⟨b, q1, q2⟩ | q
          · exact ⟨b, by omega, q2⟩
          · exact ⟨y0, by omega, by omega, y1, by rw [q]; exact y2⟩
def moS : Type := (Nat → Int32) × ((Nat → Int32) × Nat)
def mo (ft : Nat → Nat → Bool) (s m : Nat) (B A : Nat → Int32) (n0 : Nat) : Nat → moS
  | 0 => (B, A, n0)
  | k + 1 => ((fd ft (nI s) m 100 (s + k) (mo ft s m B A n0 k).1 (mZ 0 m (mo ft s m B A n0 k).2.1)).2.1, (fd ft (nI s) m 100 (s + k) (mo ft s m B A n0 k).1 (mZ 0 m (mo ft s m B A n0 k).2.1)).2.2, (mo ft s m B A n0 k).2.2 + if (fd ft (nI s) m 100 (s + k) (mo ft s m B A n0 k).1 (mZ 0 m (mo ft s m B A n0 k).2.1)).1 = 0 then 0 else 1)
/-- the greatest number that goes on from a beginning -/
def isnu (fit G : mR) (s n k : Nat) : Prop := ∃ R, mt (mfx fit G s) R ∧ (∀ x y, x < s → (R x y ↔ G x y)) ∧ mc R n = k ∧ ∀ N, mt (mfx fit G s) N → mc N n ≤ k
theorem mo_spec {ft : Nat → Nat → Bool} {s n m : Nat} {Gv B A : Nat → Int32} (hn : n ≤ 8) (hm : m ≤ 100) (hs : s ≤ n) (hG : gOK m s Gv) (hB : ∀ y, y < m → B y = -1) (hpre : mt (fR ft n m) (mpre (xR n m Gv) s)) : ∀ k, s + k ≤ n →
    bON n m (mo ft s m (mg Gv B s).1 A (mg Gv B s).2 k).1 ∧ mI (mfx (fR ft n m) (xR n m Gv) s) (bR n m (mo ft s m (mg Gv B s).1 A (mg Gv B s).2 k).1) (s + k) ∧ (∀ x y, x < s → xR n m Gv x y → bR n m (mo ft s m (mg Gv B s).1 A (mg Gv B s).2 k).1 x y) ∧ (mo ft s m (mg Gv B s).1 A (mg Gv B s).2 k).2.2 = mc (bR n m (mo ft s m (mg Gv B s).1 A (mg Gv B s).2 k).1) n
  | 0, _ => by
    obtain ⟨h1, h2⟩ := mg_spec (n := n) hn hm hs hG hB s (Nat.le_refl s)
    have e : bR n m (mg Gv B s).1 = mpre (xR n m Gv) s := by
      funext x y
      refine propext ⟨fun ⟨q1, q2, q3⟩ => ?_, fun ⟨q1, q2⟩ => ?_⟩
      · rcases h1 y q2 with ⟨w1, _⟩ | ⟨x2, w1, w2, w3⟩
        · rw [q3] at w1; exact absurd w1 (nI_m1 (by omega))
        · have hx : x = x2 := nI_j (by omega) (by omega) (q3.symm.trans w3)
          subst hx
          exact ⟨w1, q1, q2, w2⟩
      · rcases h1 y q2.2.1 with ⟨_, w2⟩ | ⟨x2, w1, w2, w3⟩
        · exact absurd ⟨x, q1, q2.2.2⟩ w2
        · have hx : x = x2 := hpre.2.2 x x2 y ⟨q1, q2⟩ ⟨w1, by omega, q2.2.1, w2⟩
          subst hx
          exact ⟨q2.1, q2.2.1, w3⟩
    refine ⟨fun y hy => ?_, ?_, fun x y hx h => ?_, ?_⟩
    · rcases h1 y hy with ⟨w1, _⟩ | ⟨x, w1, w2, w3⟩
      · exact Or.inl w1
      · exact Or.inr ⟨x, by omega, w3⟩
    · show mI _ (bR n m (mg Gv B s).1) (s + 0)
      rw [e]
      exact mI_init hpre
    · show bR n m (mg Gv B s).1 x y
      rw [e]
      exact ⟨hx, h⟩
    · show (mg Gv B s).2 = mc (bR n m (mg Gv B s).1) n
      rw [e, h2]
  | k + 1, hk => by
    obtain ⟨h1, h2, h3, h4⟩ := mo_spec (A := A) hn hm hs hG hB hpre k (by omega)
    obtain ⟨q1, q2, q3, q4⟩ := fd_step (A := mZ 0 m (mo ft s m (mg Gv B s).1 A (mg Gv B s).2 k).2.1) hn hm (Nat.le_add_right s k) (by omega) h1 h2 h3 (fun y hy => if_pos hy)
    refine ⟨q1, q2, q3, ?_⟩
    rw [mo]
    show (mo ft s m (mg Gv B s).1 A (mg Gv B s).2 k).2.2 + _ = _
    rw [h4]
    rcases q4 with ⟨w1, w2⟩ | ⟨w1, w2⟩
    · rw [if_pos w1]
      exact w2.symm
    · rw [if_neg (fun z => by rw [w1] at z; exact absurd z (by decide))]
      exact w2.symm
theorem most_nu {ft : Nat → Nat → Bool} {s n m : Nat} {Gv B A : Nat → Int32} (hn : n ≤ 8) (hm : m ≤ 100) (hs : s ≤ n) (hG : gOK m s Gv) (hB : ∀ y, y < m → B y = -1) (hpre : mt (fR ft n m) (mpre (xR n m Gv) s)) : isnu (fR ft n m) (xR n m Gv) s n (mo ft s m (mg Gv B s).1 A (mg Gv B s).2 (n - s)).2.2 ∧ (mo ft s m (mg Gv B s).1 A (mg Gv B s).2 (n - s)).2.2 ≤ n := by
  obtain ⟨h1, h2, h3, h4⟩ := mo_spec (A := A) hn hm hs hG hB hpre (n - s) (by omega)
  rw [show s + (n - s) = n by omega] at h2
  rw [h4]
  exact ⟨⟨_, h2.1, fun x y hx => ⟨fun q => (h2.1.1 x y q).2.1 hx, h3 x y hx⟩, rfl, fun N hN => mI_max h2 (fun o b q => q.1.1) hN⟩, o_cnt_le _ n⟩
