/-! a judgement over an abstract world: tags for addresses, a function for the heap; each row of it comes out of a row of the kit -/
abbrev z_T : Type := Nat × Nat
abbrev z_v : Type := Int32 ⊕ (Int64 ⊕ Option z_T)
abbrev vi (x : Int32) : z_v := .inl x
abbrev vl (x : Int64) : z_v := .inr (.inl x)
abbrev vr (t : z_T) : z_v := .inr (.inr (some t))
abbrev vn : z_v := .inr (.inr none)
def z_cv (ad : z_T → Nat) : z_v → Value
  | .inl x => .int x
  | .inr (.inl x) => .long x
  | .inr (.inr none) => .null
  | .inr (.inr (some t)) => .ref (ad t)
abbrev z_ar : Type := (Nat → Int32) ⊕ ((Nat → Int64) ⊕ (Nat → Option z_T))
abbrev z_c : Type := (Nat × Nat × z_ar) ⊕ (Nat × List z_v)
abbrev z_ia (n : Nat) (f : Nat → Int32) : z_c := .inl (0, n, .inl f)
abbrev z_za (n : Nat) (f : Nat → Int32) : z_c := .inl (2, n, .inl f)
abbrev z_la (n : Nat) (f : Nat → Int64) : z_c := .inl (1, n, .inr (.inl f))
abbrev z_ra (k n : Nat) (f : Nat → Option z_T) : z_c := .inl (k, n, .inr (.inr f))
abbrev z_ob (ci : Nat) (fs : List z_v) : z_c := .inr (ci, fs)
abbrev z_w : Type := z_T → Option z_c
def z_eq (a b : z_T) : Bool := Nat.beq a.1 b.1 && Nat.beq a.2 b.2
def z_set (w : z_w) (t : z_T) (c : z_c) : z_w := fun q => bif z_eq q t then some c else w q
theorem z_eq_iff {a b : z_T} : z_eq a b = true ↔ a = b := by
  obtain ⟨a1, a2⟩ := a
  obtain ⟨b1, b2⟩ := b
  simp [z_eq, Prod.ext_iff]
theorem z_eq_self (a : z_T) : z_eq a a = true := z_eq_iff.mpr rfl
theorem z_eq_ne {a b : z_T} (h : a ≠ b) : z_eq a b = false := by
  cases e : z_eq a b with
  | false => rfl
  | true => exact absurd (z_eq_iff.mp e) h
theorem z_set_self (w : z_w) (t : z_T) (c : z_c) : z_set w t c t = some c := by simp [z_set, z_eq_self]
theorem z_set_ne {w : z_w} {t q : z_T} {c : z_c} (h : q ≠ t) : z_set w t c q = w q := by simp [z_set, z_eq_ne h]
theorem z_set_some {w : z_w} {t q : z_T} {c : z_c} (h : w q ≠ none) : z_set w t c q ≠ none := by
  by_cases e : q = t
  · subst e; rw [z_set_self]; simp
  · rw [z_set_ne e]; exact h
theorem z_set_none {w : z_w} {t q : z_T} {c : z_c} (h : w q = none) (hn : q ≠ t) : z_set w t c q = none := by rw [z_set_ne hn]; exact h
theorem z_set_same {w : z_w} {t : z_T} {c : z_c} (h : w t = some c) : z_set w t c = w := by
  funext q
  by_cases e : q = t
  · subst e; rw [z_set_self, h]
  · rw [z_set_ne e]
theorem z_set_set (w : z_w) (t : z_T) (c d : z_c) : z_set (z_set w t c) t d = z_set w t d := by
  funext q
  by_cases e : q = t
  · subst e; rw [z_set_self, z_set_self]
  · rw [z_set_ne e, z_set_ne e, z_set_ne e]
/-- apart from these tags the worlds are one -/
def z_fr (ts : List z_T) (w w' : z_w) : Prop := ∀ t, t ∉ ts → w' t = w t
theorem z_fr.rf {ts : List z_T} {w : z_w} : z_fr ts w w := fun _ _ => rfl
theorem z_fr.set {ts : List z_T} {w w' : z_w} {t : z_T} {c : z_c} (h : z_fr ts w w') (ht : t ∈ ts) : z_fr ts w (z_set w' t c) := fun q hq => by
  rw [z_set_ne (fun e => hq (by rw [e]; exact ht))]
  exact h q hq
theorem z_fr.trans {ts us : List z_T} {w w' w'' : z_w} (h : z_fr ts w w') (h2 : z_fr us w' w'') (hu : ∀ t ∈ us, t ∈ ts) : z_fr ts w w'' := fun q hq => by
  rw [h2 q (fun e => hq (hu q e)), h q hq]
theorem z_fr.mono {ts us : List z_T} {w w' : z_w} (h : z_fr us w w') (hu : ∀ t ∈ us, t ∈ ts) : z_fr ts w w' := fun q hq => h q (fun e => hq (hu q e))
/-- conversions -/
def z_kt : Nat → FieldType
  | 0 => .int
  | 1 => .long
  | 2 => .boolean
  | 3 => .object "BogForge$Bog"
  | 4 => .object "BogForge$Bar"
  | _ => .object "BogForge$Pay"
def z_ce (dA : Nat → ClassId) (ad : z_T → Nat) : z_c → va_E
  | .inl (k, n, .inl f) => .inl (dA k, n, .inl f)
  | .inl (k, n, .inr (.inl f)) => .inl (dA k, n, .inr (.inl f))
  | .inl (k, n, .inr (.inr f)) => .inl (dA k, n, .inr (.inr (.inr (.inr (fun i => (f i).map ad)))))
  | .inr (ci, fs) => .inr (ci, fs.map (z_cv ad))
def z_co (dA : Nat → ClassId) (ad : z_T → Nat) : Option z_c → va_E
  | some c => z_ce dA ad c
  | none => .inr (0, [])
def z_ls (dA : Nat → ClassId) (ad : z_T → Nat) (w : z_w) (ts : List z_T) : va_W := ts.map (fun t => (ad t, z_co dA ad (w t)))
def z_okv (E0 : z_T → Prop) (w : z_w) : z_v → Prop
  | .inr (.inr (some t)) => w t ≠ none ∨ E0 t
  | _ => True
def z_oks (E0 : z_T → Prop) (w : z_w) : List z_v → Prop
  | [] => True
  | v :: r => z_okv E0 w v ∧ z_oks E0 w r
def z_okl (E0 : z_T → Prop) (w : z_w) (L : List (Nat × z_v)) : Prop := ∀ q ∈ L, z_okv E0 w q.2
def z_okc (E0 : z_T → Prop) (w : z_w) : z_c → Prop
  | .inl (_, _, .inr (.inr f)) => ∀ i t, f i = some t → w t ≠ none ∨ E0 t
  | .inr (_, fs) => ∀ v ∈ fs, z_okv E0 w v
  | _ => True
def z_Cl (E0 : z_T → Prop) (w : z_w) : Prop := ∀ t c, w t = some c → z_okc E0 w c
theorem z_oks_mem {E0 : z_T → Prop} {w : z_w} : ∀ {l : List z_v}, z_oks E0 w l ↔ ∀ v ∈ l, z_okv E0 w v
  | [] => by simp [z_oks]
  | a :: r => by simp [z_oks, z_oks_mem (l := r)]
theorem z_okv_mono {E0 : z_T → Prop} {w w' : z_w} (h : ∀ t, w t ≠ none → w' t ≠ none) {v : z_v} (hv : z_okv E0 w v) : z_okv E0 w' v := by
  match v, hv with
  | .inl _, _ => trivial
  | .inr (.inl _), _ => trivial
  | .inr (.inr none), _ => trivial
  | .inr (.inr (some t)), hv => exact hv.imp (h t) id
theorem z_oks_mono {E0 : z_T → Prop} {w w' : z_w} (h : ∀ t, w t ≠ none → w' t ≠ none) {l : List z_v} (hv : z_oks E0 w l) : z_oks E0 w' l := z_oks_mem.mpr fun v hm => z_okv_mono h (z_oks_mem.mp hv v hm)
theorem z_okl_mono {E0 : z_T → Prop} {w w' : z_w} (h : ∀ t, w t ≠ none → w' t ≠ none) {l : List (Nat × z_v)} (hv : z_okl E0 w l) : z_okl E0 w' l := fun q hq => z_okv_mono h (hv q hq)
theorem z_okc_mono {E0 : z_T → Prop} {w w' : z_w} (h : ∀ t, w t ≠ none → w' t ≠ none) {c : z_c} (hc : z_okc E0 w c) : z_okc E0 w' c := by
  match c, hc with
  | .inl (_, _, .inl _), _ => trivial
  | .inl (_, _, .inr (.inl _)), _ => trivial
  | .inl (_, _, .inr (.inr f)), hc => exact fun i t ht => (hc i t ht).imp (h t) id
  | .inr (_, fs), hc => exact fun v hv => z_okv_mono h (hc v hv)
theorem z_Cl_set {E0 : z_T → Prop} {w : z_w} (h : z_Cl E0 w) {t : z_T} {c : z_c} (hc : z_okc E0 w c) : z_Cl E0 (z_set w t c) := by
  intro q d hd
  have hm : ∀ t', w t' ≠ none → z_set w t c t' ≠ none := fun _ h => z_set_some h
  by_cases e : q = t
  · subst e
    rw [z_set_self] at hd
    cases hd
    exact z_okc_mono hm hc
  · rw [z_set_ne e] at hd
    exact z_okc_mono hm (h q d hd)
theorem z_okv_up {E0 : z_T → Prop} {w : z_w} {v : z_v} (h : z_okv (fun _ => False) w v) : z_okv E0 w v := by
  match v, h with
  | .inl _, _ => trivial
  | .inr (.inl _), _ => trivial
  | .inr (.inr none), _ => trivial
  | .inr (.inr (some t)), hv => exact hv.imp id False.elim
theorem z_okc_up {E0 : z_T → Prop} {w : z_w} {c : z_c} (h : z_okc (fun _ => False) w c) : z_okc E0 w c := by
  match c, h with
  | .inl (_, _, .inl _), _ => trivial
  | .inl (_, _, .inr (.inl _)), _ => trivial
  | .inl (_, _, .inr (.inr f)), hc => exact fun i t ht => (hc i t ht).imp id False.elim
  | .inr (_, fs), hc => exact fun v hv => z_okv_up (hc v hv)
/-- values that are closed in the world don't see the others' addresses -/
theorem z_cv_eq {E0 : z_T → Prop} {w : z_w} {ad ad' : z_T → Nat} (h : ∀ t, w t ≠ none ∨ E0 t → ad' t = ad t) {v : z_v} (hv : z_okv E0 w v) : z_cv ad' v = z_cv ad v := by
  match v, hv with
  | .inl _, _ => rfl
  | .inr (.inl _), _ => rfl
  | .inr (.inr none), _ => rfl
  | .inr (.inr (some t)), hv => exact congrArg Value.ref (h t hv)
theorem z_ce_eq {E0 : z_T → Prop} {w : z_w} {dA : Nat → ClassId} {ad ad' : z_T → Nat} (h : ∀ t, w t ≠ none ∨ E0 t → ad' t = ad t) {c : z_c} (hc : z_okc E0 w c) : z_ce dA ad' c = z_ce dA ad c := by
  match c, hc with
  | .inl (_, _, .inl _), _ => rfl
  | .inl (_, _, .inr (.inl _)), _ => rfl
  | .inl (k, n, .inr (.inr f)), hc =>
    have e : (fun i => (f i).map ad') = fun i => (f i).map ad := by
      funext i
      cases e : f i with
      | none => rfl
      | some t => exact congrArg some (h t (hc i t e))
    show (Sum.inl (dA k, n, .inr (.inr (.inr (.inr (fun i => (f i).map ad'))))) : va_E) = .inl (dA k, n, .inr (.inr (.inr (.inr (fun i => (f i).map ad)))))
    rw [e]
  | .inr (ci, fs), hc =>
    have e : fs.map (z_cv ad') = fs.map (z_cv ad) := List.map_congr_left fun v hv => z_cv_eq h (hc v hv)
    show (Sum.inr (ci, fs.map (z_cv ad')) : va_E) = .inr (ci, fs.map (z_cv ad))
    rw [e]
theorem z_map_eq {E0 : z_T → Prop} {w : z_w} {ad ad' : z_T → Nat} (h : ∀ t, w t ≠ none ∨ E0 t → ad' t = ad t) {l : List z_v} (hv : z_oks E0 w l) : l.map (z_cv ad') = l.map (z_cv ad) := List.map_congr_left fun v hm => z_cv_eq h (z_oks_mem.mp hv v hm)
theorem z_mapl_eq {E0 : z_T → Prop} {w : z_w} {ad ad' : z_T → Nat} (h : ∀ t, w t ≠ none ∨ E0 t → ad' t = ad t) {l : List (Nat × z_v)} (hv : z_okl E0 w l) : l.map (fun q => (q.1, z_cv ad' q.2)) = l.map (fun q => (q.1, z_cv ad q.2)) := List.map_congr_left fun q hm => by rw [z_cv_eq h (hv q hm)]
/-- the world stands in the heap -/
def z_St (D : va_G) (dA : Nat → ClassId) (A : Nat → Prop) (ad : z_T → Nat) (w : z_w) (ts : List z_T) (H : Heap) : Prop :=
  (∀ t, w t ≠ none ↔ t ∈ ts) ∧ ts.Nodup ∧ va_P D vwCl (z_ls dA ad w ts) H ∧ va_D A (z_ls dA ad w ts) ∧ z_Cl (fun _ => False) w
theorem z_ls_get {dA : Nat → ClassId} {ad : z_T → Nat} {w : z_w} {ts : List z_T} {i : Nat} {t : z_T} (h : ts[i]? = some t) {c : z_c} (hc : w t = some c) : (z_ls dA ad w ts)[i]? = some (ad t, z_ce dA ad c) := by
  rw [z_ls, List.getElem?_map, h]
  show some (ad t, z_co dA ad (w t)) = _
  rw [hc]
  rfl
theorem z_ls_set {dA : Nat → ClassId} {ad : z_T → Nat} {w : z_w} {ts : List z_T} (hn : ts.Nodup) {i : Nat} {t : z_T} (h : ts[i]? = some t) {c : z_c} : (z_ls dA ad w ts).set i (ad t, z_ce dA ad c) = z_ls dA ad (z_set w t c) ts := by
  apply List.ext_getElem?
  intro j
  have hi : i < ts.length := (List.getElem?_eq_some_iff.mp h).1
  by_cases e : j = i
  · subst e
    rw [List.getElem?_set_self (by rw [z_ls, List.length_map]; exact hi), z_ls_get h (z_set_self w t c)]
  · rw [List.getElem?_set_ne (Ne.symm e), z_ls, z_ls, List.getElem?_map, List.getElem?_map]
    cases hj : ts[j]? with
    | none => rfl
    | some u =>
      have hu : u ≠ t := by
        intro q
        subst q
        exact e ((List.getElem?_inj hi hn).mp (h.trans hj.symm)).symm
      show some (ad u, z_co dA ad (w u)) = some (ad u, z_co dA ad (z_set w t c u))
      rw [z_set_ne hu]
theorem z_St.find {D : va_G} {dA : Nat → ClassId} {A : Nat → Prop} {ad : z_T → Nat} {w : z_w} {ts : List z_T} {H : Heap} (h : z_St D dA A ad w ts H) {t : z_T} {c : z_c} (hc : w t = some c) : ∃ i : Nat, ts[i]? = some t ∧ (z_ls dA ad w ts)[i]? = some (ad t, z_ce dA ad c) := by
  have hm : t ∈ ts := (h.1 t).mp (by rw [hc]; simp)
  obtain ⟨i, hi⟩ := List.getElem?_of_mem hm
  exact ⟨i, hi, z_ls_get hi hc⟩
theorem z_St.put {D : va_G} {dA : Nat → ClassId} {A : Nat → Prop} {ad : z_T → Nat} {w : z_w} {ts : List z_T} {H H1 : Heap} (h : z_St D dA A ad w ts H) {t : z_T} {i : Nat} (hi : ts[i]? = some t) {c : z_c} (hc : z_okc (fun _ => False) w c) (hP : va_P D vwCl ((z_ls dA ad w ts).set i (ad t, z_ce dA ad c)) H1) (hD : va_D A ((z_ls dA ad w ts).set i (ad t, z_ce dA ad c))) : z_St D dA A ad (z_set w t c) ts H1 := by
  rw [z_ls_set h.2.1 hi] at hP hD
  refine ⟨fun q => ?_, h.2.1, hP, hD, z_Cl_set h.2.2.2.2 hc⟩
  by_cases e : q = t
  · subst e
    rw [z_set_self]
    exact ⟨fun _ => List.mem_of_getElem? hi, fun _ => by simp⟩
  · rw [z_set_ne e]
    exact h.1 q
theorem z_St.new {D : va_G} {dA : Nat → ClassId} {A : Nat → Prop} {E0 : z_T → Prop} {ad : z_T → Nat} {w : z_w} {ts : List z_T} {H H1 : Heap} (h : z_St D dA A ad w ts H) {t : z_T} (ht : w t = none) (he : ¬ E0 t) {a : Nat} {c : z_c} (hc : z_okc (fun _ => False) w c) (hP : va_P D vwCl (z_ls dA ad w ts ++ [(a, z_ce dA ad c)]) H1) (hD : va_D A (z_ls dA ad w ts ++ [(a, z_ce dA ad c)])) :
    z_St D dA A (fun q => bif z_eq q t then a else ad q) (z_set w t c) (ts ++ [t]) H1 ∧ ∀ q, w q ≠ none ∨ E0 q → (fun q => bif z_eq q t then a else ad q) q = ad q := by
  have hne : ∀ q, w q ≠ none ∨ E0 q → q ≠ t := fun q hq e => by
    subst e
    exact hq.elim (fun z => z ht) he
  have had : ∀ q, w q ≠ none ∨ E0 q → (fun q => bif z_eq q t then a else ad q) q = ad q := fun q hq => by
    show (bif z_eq q t then a else ad q) = ad q
    rw [z_eq_ne (hne q hq)]
    rfl
  have hts : t ∉ ts := fun z => ((h.1 t).mpr z) ht
  have e1 : z_ls dA (fun q => bif z_eq q t then a else ad q) (z_set w t c) (ts ++ [t]) = z_ls dA ad w ts ++ [(a, z_ce dA ad c)] := by
    rw [z_ls, List.map_append]
    congr 1
    · refine List.map_congr_left fun q hq => ?_
      have hqt : q ≠ t := fun e => hts (e ▸ hq)
      have hw : w q ≠ none := (h.1 q).mpr hq
      show ((bif z_eq q t then a else ad q), z_co dA _ (z_set w t c q)) = (ad q, z_co dA ad (w q))
      rw [z_set_ne hqt, z_eq_ne hqt]
      cases hwq : w q with
      | none => exact absurd hwq hw
      | some d =>
        show (ad q, z_ce dA _ d) = (ad q, z_ce dA ad d)
        rw [z_ce_eq had (z_okc_up (h.2.2.2.2 q d hwq))]
    · show [((bif z_eq t t then a else ad t), z_co dA _ (z_set w t c t))] = [(a, z_ce dA ad c)]
      rw [z_set_self, z_eq_self]
      show [(a, z_ce dA _ c)] = _
      rw [z_ce_eq had (z_okc_up hc)]
  refine ⟨⟨fun q => ?_, ?_, by rw [e1]; exact hP, by rw [e1]; exact hD, z_Cl_set h.2.2.2.2 hc⟩, had⟩
  · by_cases e : q = t
    · subst e
      rw [z_set_self]
      simp
    · rw [z_set_ne e, h.1 q]
      simp [e]
  · rw [List.nodup_append]
    refine ⟨h.2.1, by simp, fun x hx y hy => ?_⟩
    rw [List.mem_singleton.mp hy]
    exact fun e => hts (e ▸ hx)
