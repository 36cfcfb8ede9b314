/-! fields, arrays, new cells -/
abbrev z_F : List Cond := lw_tbl.filter goodWord
theorem z_inF {w : Cond} {i : Nat} (h : lw_tbl[i]? = some w) (hg : goodWord w = true) : w ∈ z_F := List.mem_filter.mpr ⟨List.mem_of_getElem? h, hg⟩
theorem z_inFs (ws : List Cond) (ps : List Nat) (hp : ws = ps.filterMap (fun i => lw_tbl[i]?)) (h : ws.all goodWord = true) : ∀ w ∈ ws, w ∈ z_F := by
  intro w hw
  have h1 := List.all_eq_true.mp h w hw
  rw [hp] at hw
  obtain ⟨i, -, hi⟩ := List.mem_filterMap.mp hw
  exact z_inF hi h1
/-- a field's link: from class own, entry idx, it is slot k of class number ci, of type ty, final or not -/
def z_FL (own : String) (idx ci k : Nat) (ty : FieldType) (fin : Nat) : Prop := ∃ (C : String) (T : u_T) (N : Nat) (ty0 : Nat → FieldType), vwCl[ci]? = some (C, T, N) ∧ (∀ w ∈ u_ws C T N, w ∈ z_F) ∧ k < N ∧ Cond.fieldLink own idx (T k).1 (T k).2.1 (T k).2.2.1 ∈ z_F ∧
  (∀ k, k < N → parseFieldDescriptor (T k).2.2.1 = some (ty0 k)) ∧ (∀ a, a < N → ∀ b, b < N → a ≠ b → (T a).2.1 ≠ (T b).2.1) ∧ parseFieldDescriptor (T k).2.2.1 = some ty ∧ (fin = 0 → (T k).2.2.2 = false) ∧ (fin = 1 → (T k).2.2.2 = true ∧ (T k).1 = own)
/-- a value fits a field's type -/
def z_fit (ty : FieldType) (v : z_v) : Prop := ∀ ad, narrow ty (z_cv ad v) = z_cv ad v ∧ fits ty (z_cv ad v) = true
theorem z_fit_i (x : Int32) : z_fit .int (vi x) := fun _ => ⟨rfl, rfl⟩
theorem z_fit_r {ty : FieldType} (h : (∃ n, ty = .object n) ∨ ∃ t, ty = .array t) (t : z_T) : z_fit ty (vr t) := fun _ => by
  rcases h with ⟨n, rfl⟩ | ⟨t, rfl⟩ <;> exact ⟨rfl, rfl⟩
theorem z_oks_no {E0 : z_T → Prop} (he : ∀ t, ¬ E0 t) {w : z_w} {l : List z_v} (h : z_oks E0 w l) : z_oks (fun _ => False) w l := by
  refine z_oks_mem.mpr fun v hv => ?_
  have := z_oks_mem.mp h v hv
  match v, this with
  | .inl _, _ => trivial
  | .inr (.inl _), _ => trivial
  | .inr (.inr none), _ => trivial
  | .inr (.inr (some t)), hv => exact hv.imp id (he t)
/-- index j of n, as a number -/
def z_ix (i : Int32) (j n : Nat) : Prop := vp_in i n ∧ i.toNatClampNeg = j
theorem z_ixn {j n : Nat} (h : j < n) (hn : n < 2 ^ 31) : z_ix (nI j) j n := ⟨vp_in_nI h hn, nI_clamp (by omega)⟩
theorem z_ixe {i : Int32} {j n : Nat} (e : i = nI j) (h : j < n) (hn : n < 2 ^ 31) : z_ix i j n := e ▸ z_ixn h hn
theorem z_tys_at {dA : Nat → ClassId} {k : Nat} (h : k ≤ 5) : (z_tys dA)[k]? = some (dA k, z_kt k) := by
  rcases (show k = 0 ∨ k = 1 ∨ k = 2 ∨ k = 3 ∨ k = 4 ∨ k = 5 by omega) with rfl | rfl | rfl | rfl | rfl | rfl <;> rfl
section ZC
variable {X : z_X} {cc : ByteArray} {own : String} {d kC kS : Nat} {w : z_w} {pc : Nat} {L : List (Nat × z_v)} {st : List z_v}
theorem z_get {idx ci k : Nat} {ty : FieldType} {fin : Nat} {t : z_T} {fs : List z_v} {v : z_v} (h : z_H X cc own d) (hd : decode cc pc = .ok (.getfield idx, 3)) (hf : z_FL own idx ci k ty fin) (hw : w t = some (z_ob ci fs)) (hv : fs[k]? = some v) (kk : z_V X kC kS w (pc + 3) L (v :: st)) : z_V X kC kS w pc L (vr t :: st) := fun ad ts H locs ls cells slots ⟨h1, h2, h3, h4, h5, h6, h7, h8⟩ => by
  obtain ⟨C, T, N, ty0, f1, f2, f3, f4, -⟩ := hf
  obtain ⟨i, hi, he⟩ := h2.find hw
  have hx := kk ad ts H locs ls cells slots ⟨h1, h2, h3, h4, h5, ⟨z_okv_up (h2.2.2.2.2 t _ hw v (List.mem_of_getElem? hv)), h6.2⟩, h7, h8⟩
  exact va_get h.1 h.2.1 h.ts f2 h.2.2.1 h.2.2.2.1.1 h2.2.2.1 i he f1 k f3 (h.ts _ f4) (fun _ q => q) (v := z_cv ad v) (by simp [hv]) hd hx
theorem z_put_core (h : z_H X cc own d) (he0 : ∀ t, ¬ x_E0 X t) {t : z_T} {ci : Nat} {fs : List z_v} {v : z_v} {k : Nat} {ad : z_T → Nat} {ts : List z_T} {H : Heap} {locs : List Loc} {ls : Array Slot} {cells slots : Nat} (hh : z_at X ad ts H locs ls cells slots kC kS w L (v :: vr t :: st)) (hw : w t = some (z_ob ci fs)) {i : Nat} (hi : ts[i]? = some t) {H1 : Heap} {locs1 : List Loc}
    (hP : va_P (x_D X) vwCl ((z_ls (x_dA X) ad w ts).set i (ad t, .inr (ci, (fs.map (z_cv ad)).set k (z_cv ad v)))) H1) (hD : va_D (x_A X) ((z_ls (x_dA X) ad w ts).set i (ad t, .inr (ci, (fs.map (z_cv ad)).set k (z_cv ad v))))) (hS : va_S (x_A X) (x_H0 X) H1 locs1) : z_at X ad ts H1 locs1 ls cells slots kC kS (z_set w t (z_ob ci (fs.set k v))) L st := by
  obtain ⟨h1, h2, h3, h4, h5, h6, h7, h8⟩ := hh
  have e : (fs.map (z_cv ad)).set k (z_cv ad v) = (fs.set k v).map (z_cv ad) := by rw [List.map_set]
  rw [e] at hP hD
  have hm : ∀ q, w q ≠ none → z_set w t (z_ob ci (fs.set k v)) q ≠ none := fun _ hq => z_set_some hq
  have hcl : z_okc (fun _ => False) w (z_ob ci (fs.set k v)) := by
    intro u hu
    rcases List.mem_or_eq_of_mem_set hu with q | q
    · exact h2.2.2.2.2 t _ hw u q
    · rw [q]
      exact (z_oks_no he0 h6).1
  exact ⟨h1, h2.put hi hcl hP hD, hS, fun q hq => (h4 q hq).imp (hm q) id, z_okl_mono hm h5, z_oks_mono hm h6.2.2, h7, h8⟩
theorem z_put {idx ci k : Nat} {ty : FieldType} {t : z_T} {fs : List z_v} {v : z_v} (h : z_H X cc own d) (hd : decode cc pc = .ok (.putfield idx, 3)) (he0 : ∀ t, ¬ x_E0 X t) (hf : z_FL own idx ci k ty 0) (hw : w t = some (z_ob ci fs)) (hl : k < fs.length) (hv : z_fit ty v) (kk : z_V X kC kS (z_set w t (z_ob ci (fs.set k v))) (pc + 3) L st) : z_V X kC kS w pc L (v :: vr t :: st) := fun ad ts H locs ls cells slots hh => by
  obtain ⟨C, T, N, ty0, f1, f2, f3, f4, f5, f6, f8, f7, -⟩ := hf
  obtain ⟨i, hi, he⟩ := hh.2.1.find hw
  exact va_put h.1 h.2.1 h.ts f2 ty0 f5 f6 h.2.2.1 h.2.2.2.1.1 hh.2.1.2.2.1 hh.2.1.2.2.2.1 hh.2.2.1 i he f1 k f3 (h.ts _ f4) (fun _ q => q) (f7 rfl) (v := z_cv ad v) f8 (hv ad).1 (hv ad).2 (by rw [List.length_map]; exact hl) hd
    (fun H1 locs1 hP hD hS => kk ad ts H1 locs1 ls cells slots (z_put_core h he0 hh hw hi hP hD hS))
theorem z_putF {idx ci k : Nat} {ty : FieldType} {t : z_T} {fs : List z_v} {v : z_v} (h : z_H X cc own d) (hd : decode cc pc = .ok (.putfield idx, 3)) (he0 : ∀ t, ¬ x_E0 X t) (hin2 : (x_me X).name = "<init>") (hf : z_FL own idx ci k ty 1) (hw : w t = some (z_ob ci fs)) (hl : k < fs.length) (hv : z_fit ty v) (kk : z_V X kC kS (z_set w t (z_ob ci (fs.set k v))) (pc + 3) L st) : z_V X kC kS w pc L (v :: vr t :: st) := fun ad ts H locs ls cells slots hh => by
  obtain ⟨C, T, N, ty0, f1, f2, f3, f4, f5, f6, f8, -, f9⟩ := hf
  obtain ⟨i, hi, he⟩ := hh.2.1.find hw
  exact va_putF h.1 h.2.1 h.ts f2 ty0 f5 f6 h.2.2.1 h.2.2.2.1.1 hh.2.1.2.2.1 hh.2.1.2.2.2.1 hh.2.2.1 i he f1 k f3 (h.ts _ f4) (fun _ q => q) (f9 rfl).1 hin2 (f9 rfl).2 (v := z_cv ad v) f8 (hv ad).1 (hv ad).2 (by rw [List.length_map]; exact hl) hd
    (fun H1 locs1 hP hD hS => kk ad ts H1 locs1 ls cells slots (z_put_core h he0 hh hw hi hP hD hS))
theorem z_alen {t : z_T} {k n : Nat} {f : z_ar} (h : z_H X cc own d) (hd : decode cc pc = .ok (.arraylength, 1)) (hw : w t = some (.inl (k, n, f))) (hk : k ≤ 5) (kk : z_V X kC kS w (pc + 1) L (vi (nI n) :: st)) : z_V X kC kS w pc L (vr t :: st) := fun ad ts H locs ls cells slots ⟨h1, h2, h3, h4, h5, h6, h7, h8⟩ => by
  obtain ⟨i, hi, he⟩ := h2.find hw
  have hx := kk ad ts H locs ls cells slots ⟨h1, h2, h3, h4, h5, ⟨trivial, h6.2⟩, h7, h8⟩
  match f, he with
  | .inl f, he => exact va_alen h.1 h.2.1 h.2.2.2.1.1 h2.2.2.1 i k he (z_tys_at hk) (v := nI n) rfl hd hx
  | .inr (.inl f), he => exact va_alen h.1 h.2.1 h.2.2.2.1.1 h2.2.2.1 i k he (z_tys_at hk) (v := nI n) rfl hd hx
  | .inr (.inr f), he => exact va_alen h.1 h.2.1 h.2.2.2.1.1 h2.2.2.1 i k he (z_tys_at hk) (v := nI n) rfl hd hx
theorem z_iald {t : z_T} {n j : Nat} {f : Nat → Int32} {i : Int32} (h : z_H X cc own d) (hd : decode cc pc = .ok (.iaload, 1)) (hw : w t = some (z_ia n f)) (hi : z_ix i j n) (kk : z_V X kC kS w (pc + 1) L (vi (f j) :: st)) : z_V X kC kS w pc L (vi i :: vr t :: st) := fun ad ts H locs ls cells slots ⟨h1, h2, h3, h4, h5, h6, h7, h8⟩ => by
  obtain ⟨q, hq, he⟩ := h2.find hw
  obtain ⟨hi1, hi2⟩ := hi
  subst hi2
  exact va_iald h.1 h.2.1 h.2.2.2.1.1 h2.2.2.1 q 0 he (z_tys_at (k := 0) (by omega)) hi1 hd (kk ad ts H locs ls cells slots ⟨h1, h2, h3, h4, h5, ⟨trivial, h6.2.2⟩, h7, h8⟩)
theorem z_zald {t : z_T} {n j : Nat} {f : Nat → Int32} {i : Int32} (h : z_H X cc own d) (hd : decode cc pc = .ok (.baload, 1)) (hw : w t = some (z_za n f)) (hi : z_ix i j n) (kk : z_V X kC kS w (pc + 1) L (vi (f j) :: st)) : z_V X kC kS w pc L (vi i :: vr t :: st) := fun ad ts H locs ls cells slots ⟨h1, h2, h3, h4, h5, h6, h7, h8⟩ => by
  obtain ⟨q, hq, he⟩ := h2.find hw
  obtain ⟨hi1, hi2⟩ := hi
  subst hi2
  exact va_zald h.1 h.2.1 h.2.2.2.1.1 h2.2.2.1 q 2 he (z_tys_at (k := 2) (by omega)) hi1 hd (kk ad ts H locs ls cells slots ⟨h1, h2, h3, h4, h5, ⟨trivial, h6.2.2⟩, h7, h8⟩)
theorem z_lald {t : z_T} {n j : Nat} {f : Nat → Int64} {i : Int32} (h : z_H X cc own d) (hd : decode cc pc = .ok (.laload, 1)) (hw : w t = some (z_la n f)) (hi : z_ix i j n) (kk : z_V X kC kS w (pc + 1) L (vl (f j) :: st)) : z_V X kC kS w pc L (vi i :: vr t :: st) := fun ad ts H locs ls cells slots ⟨h1, h2, h3, h4, h5, h6, h7, h8⟩ => by
  obtain ⟨q, hq, he⟩ := h2.find hw
  obtain ⟨hi1, hi2⟩ := hi
  subst hi2
  exact va_lald h.1 h.2.1 h.2.2.2.1.1 h2.2.2.1 q 1 he (z_tys_at (k := 1) (by omega)) hi1 hd (kk ad ts H locs ls cells slots ⟨h1, h2, h3, h4, h5, ⟨trivial, h6.2.2⟩, h7, h8⟩)
def z_ob? : Nat → Option String
  | 3 => some "BogForge$Bog"
  | 4 => some "BogForge$Bar"
  | 5 => some "BogForge$Pay"
  | _ => none
theorem z_kt_ob {k : Nat} {C : String} (h : z_ob? k = some C) : k ≤ 5 ∧ z_kt k = .object C := by
  match k, h with
  | 3, h => cases h; exact ⟨by omega, rfl⟩
  | 4, h => cases h; exact ⟨by omega, rfl⟩
  | 5, h => cases h; exact ⟨by omega, rfl⟩
theorem z_aald {t u : z_T} {k n j : Nat} {f : Nat → Option z_T} {i : Int32} {C : String} (h : z_H X cc own d) (hd : decode cc pc = .ok (.aaload, 1)) (hk : z_ob? k = some C) (hw : w t = some (z_ra k n f)) (hi : z_ix i j n) (hf : f j = some u) (kk : z_V X kC kS w (pc + 1) L (vr u :: st)) : z_V X kC kS w pc L (vi i :: vr t :: st) := fun ad ts H locs ls cells slots ⟨h1, h2, h3, h4, h5, h6, h7, h8⟩ => by
  obtain ⟨q, hq, he⟩ := h2.find hw
  obtain ⟨hi1, hi2⟩ := hi
  subst hi2
  refine va_aldq (C := C) h.1 h.2.1 h.2.2.2.1.1 h2.2.2.1 q k he (by rw [z_tys_at (z_kt_ob hk).1, (z_kt_ob hk).2]) hi1 hd ?_
  rw [hf]
  exact kk ad ts H locs ls cells slots ⟨h1, h2, h3, h4, h5, ⟨(h2.2.2.2.2 t _ hw _ _ hf).imp id False.elim, h6.2.2⟩, h7, h8⟩
theorem z_aaldN {t : z_T} {k n j : Nat} {f : Nat → Option z_T} {i : Int32} {C : String} (h : z_H X cc own d) (hd : decode cc pc = .ok (.aaload, 1)) (hk : z_ob? k = some C) (hw : w t = some (z_ra k n f)) (hi : z_ix i j n) (hf : f j = none) (kk : z_V X kC kS w (pc + 1) L (vn :: st)) : z_V X kC kS w pc L (vi i :: vr t :: st) := fun ad ts H locs ls cells slots ⟨h1, h2, h3, h4, h5, h6, h7, h8⟩ => by
  obtain ⟨q, hq, he⟩ := h2.find hw
  obtain ⟨hi1, hi2⟩ := hi
  subst hi2
  refine va_aldq (C := C) h.1 h.2.1 h.2.2.2.1.1 h2.2.2.1 q k he (by rw [z_tys_at (z_kt_ob hk).1, (z_kt_ob hk).2]) hi1 hd ?_
  rw [hf]
  exact kk ad ts H locs ls cells slots ⟨h1, h2, h3, h4, h5, ⟨trivial, h6.2.2⟩, h7, h8⟩
/-- behind a store into an array of numbers -/
theorem z_ast_core {t : z_T} {c : z_c} {a b : z_v} {ad : z_T → Nat} {ts : List z_T} {H : Heap} {locs : List Loc} {ls : Array Slot} {cells slots : Nat} (hh : z_at X ad ts H locs ls cells slots kC kS w L (a :: b :: vr t :: st)) {i : Nat} (hi : ts[i]? = some t) (hc : z_okc (fun _ => False) w c) {H1 : Heap} {locs1 : List Loc}
    (hP : va_P (x_D X) vwCl ((z_ls (x_dA X) ad w ts).set i (ad t, z_ce (x_dA X) ad c)) H1) (hD : va_D (x_A X) ((z_ls (x_dA X) ad w ts).set i (ad t, z_ce (x_dA X) ad c))) (hS : va_S (x_A X) (x_H0 X) H1 locs1) : z_at X ad ts H1 locs1 ls cells slots kC kS (z_set w t c) L st := by
  obtain ⟨h1, h2, h3, h4, h5, h6, h7, h8⟩ := hh
  have hm : ∀ q, w q ≠ none → z_set w t c q ≠ none := fun _ hq => z_set_some hq
  exact ⟨h1, h2.put hi hc hP hD, hS, fun q hq => (h4 q hq).imp (hm q) id, z_okl_mono hm h5, z_oks_mono hm h6.2.2.2, h7, h8⟩
theorem z_iast {t : z_T} {n j : Nat} {f : Nat → Int32} {i x : Int32} (h : z_H X cc own d) (hd : decode cc pc = .ok (.iastore, 1)) (hw : w t = some (z_ia n f)) (hi : z_ix i j n) (kk : z_V X kC kS (z_set w t (z_ia n (upd f j x))) (pc + 1) L st) : z_V X kC kS w pc L (vi x :: vi i :: vr t :: st) := fun ad ts H locs ls cells slots hh => by
  obtain ⟨q, hq, he⟩ := hh.2.1.find hw
  obtain ⟨hi1, hi2⟩ := hi
  subst hi2
  exact va_iast h.1 h.2.1 h.2.2.2.1.1 hh.2.1.2.2.1 hh.2.1.2.2.2.1 hh.2.2.1 q 0 he (z_tys_at (k := 0) (by omega)) hi1 hd (fun H1 locs1 hP hD hS => kk ad ts H1 locs1 ls cells slots (z_ast_core (c := z_ia n (upd f i.toNatClampNeg x)) hh hq trivial hP hD hS))
theorem z_zast {t : z_T} {n j : Nat} {f : Nat → Int32} {i x : Int32} (h : z_H X cc own d) (hd : decode cc pc = .ok (.bastore, 1)) (hw : w t = some (z_za n f)) (hi : z_ix i j n) (hx : vp_nar .boolean x = x) (kk : z_V X kC kS (z_set w t (z_za n (upd f j x))) (pc + 1) L st) : z_V X kC kS w pc L (vi x :: vi i :: vr t :: st) := fun ad ts H locs ls cells slots hh => by
  obtain ⟨q, hq, he⟩ := hh.2.1.find hw
  obtain ⟨hi1, hi2⟩ := hi
  subst hi2
  exact va_zast h.1 h.2.1 h.2.2.2.1.1 hh.2.1.2.2.1 hh.2.1.2.2.2.1 hh.2.2.1 q 2 he (z_tys_at (k := 2) (by omega)) hi1 hd (fun H1 locs1 hP hD hS => by
    rw [hx] at hP hD
    exact kk ad ts H1 locs1 ls cells slots (z_ast_core (c := z_za n (upd f i.toNatClampNeg x)) hh hq trivial hP hD hS))
theorem z_last {t : z_T} {n j : Nat} {f : Nat → Int64} {i : Int32} {x : Int64} (h : z_H X cc own d) (hd : decode cc pc = .ok (.lastore, 1)) (hw : w t = some (z_la n f)) (hi : z_ix i j n) (kk : z_V X kC kS (z_set w t (z_la n (vp_updL f j x))) (pc + 1) L st) : z_V X kC kS w pc L (vl x :: vi i :: vr t :: st) := fun ad ts H locs ls cells slots hh => by
  obtain ⟨q, hq, he⟩ := hh.2.1.find hw
  obtain ⟨hi1, hi2⟩ := hi
  subst hi2
  exact va_last h.1 h.2.1 h.2.2.2.1.1 hh.2.1.2.2.1 hh.2.1.2.2.2.1 hh.2.2.1 q 1 he (z_tys_at (k := 1) (by omega)) hi1 hd (fun H1 locs1 hP hD hS => kk ad ts H1 locs1 ls cells slots (z_ast_core (c := z_la n (vp_updL f i.toNatClampNeg x)) hh hq trivial hP hD hS))
theorem z_aast {t u : z_T} {k n j ci : Nat} {f : Nat → Option z_T} {i : Int32} {r : vw_C} {vs : List z_v} (h : z_H X cc own d) (hd : decode cc pc = .ok (.aastore, 1)) (hk : z_ob? k = some r.1) (hc : vwCl[ci]? = some r) (hw : w t = some (z_ra k n f)) (hi : z_ix i j n) (hu : w u = some (z_ob ci vs)) (kk : z_V X kC kS (z_set w t (z_ra k n (va_up f j (some u)))) (pc + 1) L st) : z_V X kC kS w pc L (vr u :: vi i :: vr t :: st) := fun ad ts H locs ls cells slots hh => by
  obtain ⟨q, hq, he⟩ := hh.2.1.find hw
  obtain ⟨q2, hq2, he2⟩ := hh.2.1.find hu
  obtain ⟨hi1, hi2⟩ := hi
  subst hi2
  have hcl : z_okc (fun _ => False) w (z_ra k n (va_up f i.toNatClampNeg (some u))) := by
    intro z t' hz
    by_cases e : z = i.toNatClampNeg
    · subst e
      simp [va_up] at hz
      subst hz
      exact Or.inl (by rw [hu]; simp)
    · simp [va_up, e] at hz
      exact hh.2.1.2.2.2.2 t _ hw z t' hz
  have ee : (fun z => ((va_up f i.toNatClampNeg (some u)) z).map ad) = va_up (fun z => (f z).map ad) i.toNatClampNeg (some (ad u)) := by
    funext z
    by_cases e : z = i.toNatClampNeg <;> simp [va_up, e]
  exact va_astq h.1 h.2.1 h.2.2.2.1.1 hh.2.1.2.2.1 hh.2.1.2.2.2.1 hh.2.2.1 q k q2 ci he (by rw [z_tys_at (z_kt_ob hk).1, (z_kt_ob hk).2]) he2 hc hi1 hd (fun H1 locs1 hP hD hS => by
    rw [← ee] at hP hD
    exact kk ad ts H1 locs1 ls cells slots (z_ast_core (c := z_ra k n (va_up f i.toNatClampNeg (some u))) hh hq hcl hP hD hS))
/-- behind a new cell -/
theorem z_new_core {t : z_T} {c : z_c} {ad : z_T → Nat} {ts : List z_T} {H : Heap} {locs : List Loc} {ls : Array Slot} {cells slots n : Nat} (hh : z_at X ad ts H locs ls cells slots (kC + 1) (kS + n) w L st) (ht : w t = none) (he0 : ∀ t, ¬ x_E0 X t) (hc : z_okc (fun _ => False) w c) {a : Nat} {H1 : Heap} {locs1 : List Loc}
    (hP : va_P (x_D X) vwCl (z_ls (x_dA X) ad w ts ++ [(a, z_ce (x_dA X) ad c)]) H1) (hD : va_D (x_A X) (z_ls (x_dA X) ad w ts ++ [(a, z_ce (x_dA X) ad c)])) (hS : va_S (x_A X) (x_H0 X) H1 locs1) :
    ∃ ad' : z_T → Nat, ad' t = a ∧ st.map (z_cv ad') = st.map (z_cv ad) ∧ z_at X ad' (ts ++ [t]) H1 locs1 ls (cells + 1) (slots + n) kC kS (z_set w t c) L (vr t :: st) := by
  obtain ⟨h1, h2, h3, h4, h5, h6, h7, h8, h9⟩ := hh
  obtain ⟨h10, h11⟩ := h2.new ht (he0 t) hc hP hD
  have hm : ∀ q, w q ≠ none → z_set w t c q ≠ none := fun _ hq => z_set_some hq
  refine ⟨_, ?_, z_map_eq h11 h6, fun q hq => ?_, h10, hS, fun q hq => (h4 q hq).imp (hm q) id, z_okl_mono hm h5, ⟨Or.inl (by rw [z_set_self]; simp), z_oks_mono hm h6⟩, ?_, by omega, by omega⟩
  · show (bif z_eq t t then a else ad t) = a
    rw [z_eq_self]
    rfl
  · rw [h11 q (h4 q hq)]
    exact h1 q hq
  · rw [z_mapl_eq h11 h5]
    exact h7
/-- what 'new' needs: the class, its defaults -/
def z_NW (own : String) (idx ci n : Nat) (fs : List z_v) : Prop := ∃ (C : String) (T : u_T) (ty0 : Nat → FieldType), vwCl[ci]? = some (C, T, n) ∧ (∀ w ∈ u_ws C T n, w ∈ z_F) ∧ (∀ k, k < n → parseFieldDescriptor (T k).2.2.1 = some (ty0 k)) ∧ Cond.classLink own idx C ∈ z_F ∧ Cond.instantiable C n ∈ z_F ∧ Cond.initialized C ∈ z_F ∧ (∀ ad j, j < n → defaultValue (ty0 j) = vp_V (fs.map (z_cv ad)) j) ∧ z_oks (fun _ => False) (fun _ => none) fs
theorem z_new {idx ci n : Nat} {fs : List z_v} (h : z_H X cc own d) (hd : decode cc pc = .ok (.new idx, 3)) (he0 : ∀ t, ¬ x_E0 X t) (hn : z_NW own idx ci n fs) (t : z_T) (ht : w t = none) (kk : z_V X kC kS (z_set w t (z_ob ci fs)) (pc + 3) L (vr t :: st)) : z_V X (kC + 1) (kS + n) w pc L st := fun ad ts H locs ls cells slots hh => by
  obtain ⟨C, T, ty0, f1, f2, f3, f4, f5, f6, f7, f8⟩ := hn
  have b1 : cells + 1 ≤ (x_R X).cells := by rw [h.2.2.2.2.1.1]; have := hh.2.2.2.2.2.2.2.1; omega
  have b2 : slots + n ≤ (x_R X).slots := by rw [h.2.2.2.2.1.2.1]; have := hh.2.2.2.2.2.2.2.2; omega
  refine va_new h.1 h.2.1 h.ts f2 ty0 f3 h.2.2.1 (h.ts _ f4) (h.ts _ f5) (h.ts _ f6) h.2.2.2.1.1 hh.2.1.2.2.1 hh.2.1.2.2.2.1 hh.2.2.1 h.2.2.2.2.2.1 f1 (fs := fs.map (z_cv ad)) (f7 ad) b1 b2 hd (fun a H1 hP hD hS => ?_)
  obtain ⟨ad', e1, e2, hz⟩ := z_new_core (c := z_ob ci fs) hh ht he0 (fun v hv => z_okv_mono (w := fun _ => none) (fun _ q => absurd rfl q) (z_oks_mem.mp f8 v hv)) hP hD hS
  have := kk ad' _ H1 locs ls _ _ hz
  rw [show (vr t :: st).map (z_cv ad') = .ref a :: st.map (z_cv ad) by rw [← e2, ← e1]; rfl] at this
  exact this
theorem z_dA_eq {s : State} {D : va_G} {dA : Nat → ClassId} {k : Nat} {cA : ClassId} (hk : k ≤ 5) (h : va_K D vwCl (z_tys dA ++ [(cA, z_kt k)]) s) : cA = dA k := by
  have a1 := (h.2 6 (cA, z_kt k) rfl).2
  have a2 := (h.2 k (dA k, z_kt k) (by rw [List.getElem?_append_left (by show k < 6; omega)]; exact z_tys_at hk)).2
  rcases (show k = 0 ∨ k = 1 ∨ k = 2 ∨ k = 3 ∨ k = 4 ∨ k = 5 by omega) with rfl | rfl | rfl | rfl | rfl | rfl
  · exact Option.some.inj (a1.symm.trans a2)
  · exact Option.some.inj (a1.symm.trans a2)
  · exact Option.some.inj (a1.symm.trans a2)
  · obtain ⟨_, _, -, -, -, q1⟩ := a1
    obtain ⟨_, _, -, -, -, q2⟩ := a2
    exact Option.some.inj (q1.symm.trans q2)
  · obtain ⟨_, _, -, -, -, q1⟩ := a1
    obtain ⟨_, _, -, -, -, q2⟩ := a2
    exact Option.some.inj (q1.symm.trans q2)
  · obtain ⟨_, _, -, -, -, q1⟩ := a1
    obtain ⟨_, _, -, -, -, q2⟩ := a2
    exact Option.some.inj (q1.symm.trans q2)
/-- new int[n], new long[n], new boolean[n] -/
theorem z_newarr {atype : ArrayType} {x : Int32} {n : Nat} (h : z_H X cc own d) (hd : decode cc pc = .ok (.newarray atype, 2)) (he0 : ∀ t, ¬ x_E0 X t) (k : Nat) (f : z_ar) (hk : k ≤ 2 ∧ newarray.typeOf atype = z_kt k ∧ Cond.arrayClass (newarray.typeOf atype) ∈ lw_tbl ∧ ∀ (dA : Nat → ClassId) (ad : z_T → Nat) (cA : ClassId), ∃ a0 : vp_A, z_ce dA ad (.inl (k, n, f)) = .inl (dA k, a0) ∧ vp_cell cA a0 = arrV cA n (fun _ => defaultValue (z_kt k))) (hnr : z_okc (fun _ => False) w (.inl (k, n, f))) (hx : x = nI n) (hn : n < 60000000) (t : z_T) (ht : w t = none) (kk : z_V X kC kS (z_set w t (.inl (k, n, f))) (pc + 2) L (vr t :: st)) : z_V X (kC + 1) (kS + n) w pc L (vi x :: st) := fun ad ts H locs ls cells slots hh => by
  obtain ⟨k1, k2, k3, k4⟩ := hk
  have b1 : cells + 1 ≤ (x_R X).cells := by rw [h.2.2.2.2.1.1]; have := hh.2.2.2.2.2.2.2.1; omega
  have b2 : slots + n ≤ (x_R X).slots := by rw [h.2.2.2.2.1.2.1]; have := hh.2.2.2.2.2.2.2.2; omega
  have hcl : (nI n).toNatClampNeg = n := nI_clamp (by omega)
  obtain ⟨a0, e0, -⟩ := k4 (x_dA X) ad (x_dA X k)
  have hall : ∀ cA : ClassId, vp_cell cA a0 = arrV cA n (fun _ => defaultValue (z_kt k)) := fun cA => by
    obtain ⟨a1, e1, e2⟩ := k4 (x_dA X) ad cA
    have : a0 = a1 := by rw [e0] at e1; exact (Prod.mk.inj (Sum.inl.inj e1)).2
    rw [this]; exact e2
  have hb : n * componentBytes (z_kt k) ≤ 536870912 := by
    rcases (show k = 0 ∨ k = 1 ∨ k = 2 by omega) with rfl | rfl | rfl
    · show n * 4 ≤ _; omega
    · show n * 8 ≤ _; omega
    · show n * 1 ≤ _; omega
  subst hx
  have hh' : z_at X ad ts H locs ls cells slots (kC + 1) (kS + n) w L st := ⟨hh.1, hh.2.1, hh.2.2.1, hh.2.2.2.1, hh.2.2.2.2.1, hh.2.2.2.2.2.1.2, hh.2.2.2.2.2.2⟩
  refine va_newa h.1 h.2.1 (h.2.2.2.1.2.1 _ k3 rfl _) k2 h.2.2.2.1.1 hh.2.1.2.2.1 hh.2.1.2.2.2.1 hh.2.2.1 h.2.2.2.2.2.1 (a0 := a0) hall (nI_pos (by omega)) hcl hb b1 b2 hd (fun a cA H1 hKK hP hD hS => ?_)
  have ec : cA = x_dA X k := z_dA_eq (by omega) hKK
  subst ec
  rw [← e0] at hP hD
  obtain ⟨ad', e1, e2, hz⟩ := z_new_core hh' ht he0 hnr hP hD hS
  have := kk ad' _ H1 locs ls _ _ hz
  rw [show (vr t :: st).map (z_cv ad') = .ref a :: st.map (z_cv ad) by rw [← e2, ← e1]; rfl] at this
  exact this
/-- new C[n] -/
theorem z_newref {idx k : Nat} {C : String} {x : Int32} {n : Nat} (h : z_H X cc own d) (hd : decode cc pc = .ok (.anewarray idx, 3)) (he0 : ∀ t, ¬ x_E0 X t) (hk : z_ob? k = some C) (hcl : Cond.classLink own idx C ∈ z_F) (hov : Cond.arrayOver (.object C) ∈ lw_tbl) (hx : x = nI n) (hn : n < 60000000) (t : z_T) (ht : w t = none) (kk : z_V X kC kS (z_set w t (z_ra k n (fun _ => none))) (pc + 3) L (vr t :: st)) : z_V X (kC + 1) (kS + n) w pc L (vi x :: st) := fun ad ts H locs ls cells slots hh => by
  have b1 : cells + 1 ≤ (x_R X).cells := by rw [h.2.2.2.2.1.1]; have := hh.2.2.2.2.2.2.2.1; omega
  have b2 : slots + n ≤ (x_R X).slots := by rw [h.2.2.2.2.1.2.1]; have := hh.2.2.2.2.2.2.2.2; omega
  have hcn : (nI n).toNatClampNeg = n := nI_clamp (by omega)
  subst hx
  have hh' : z_at X ad ts H locs ls cells slots (kC + 1) (kS + n) w L st := ⟨hh.1, hh.2.1, hh.2.2.1, hh.2.2.2.1, hh.2.2.2.2.1, hh.2.2.2.2.2.1.2, hh.2.2.2.2.2.2⟩
  refine va_newq h.1 h.2.1 h.2.2.1 (h.ts _ hcl) (h.2.2.2.1.2.2 _ hov rfl) h.2.2.2.1.1 hh.2.1.2.2.1 hh.2.1.2.2.2.1 hh.2.2.1 h.2.2.2.2.2.1 (nI_pos (by omega)) hcn (by omega) b1 b2 hd (fun a cA H1 hKK hP hD hS => ?_)
  rw [← (z_kt_ob hk).2] at hKK
  have ec : cA = x_dA X k := z_dA_eq (z_kt_ob hk).1 hKK
  subst ec
  have hnr : z_okc (fun _ => False) w (z_ra k n (fun _ => none)) := fun _ _ q => by cases q
  obtain ⟨ad', e1, e2, hz⟩ := z_new_core (c := z_ra k n (fun _ => none)) hh' ht he0 hnr hP hD hS
  have := kk ad' _ H1 locs ls _ _ hz
  rw [show (vr t :: st).map (z_cv ad') = .ref a :: st.map (z_cv ad) by rw [← e2, ← e1]; rfl] at this
  exact this
def z_words (st : List z_v) : Nat := (st.map (fun v => if z_c2 v = true then 2 else 1)).sum
theorem z_words_eq (ad : z_T → Nat) (st : List z_v) : ((st.map (z_cv ad)).map fun v => v.category).sum = z_words st := by
  rw [z_words, List.map_map]
  congr 1
  exact List.map_congr_left fun v _ => z_cat ad v
theorem z_obj {idx : Nat} {t : z_T} (h : z_H X cc own d) (hd : decode cc pc = .ok (.invokespecial idx, 3)) (hl : Cond.methodLink own idx objectInit ∈ z_F) (hi : Cond.instanceMethod objectInit ∈ z_F) (hc : Cond.code objectInit ⟨#[0xb1]⟩ 1 none ∈ z_F) (hst : z_words st ≤ 8) (kk : z_V X kC kS w (pc + 3) L st) : z_V X kC kS w pc L (vr t :: st) := fun ad ts H locs ls cells slots ⟨h1, h2, h3, h4, h5, h6, h7, h8⟩ => by
  have hb := h.2.2.2.2.1
  refine W.objInit h.1 h.2.1 h.2.2.1 (h.ts _ hl) (h.ts _ hi) (h.ts _ hc) rfl (h7.1.trans h.2.2.2.2.2.2.symm) rfl hd (by omega) ?_ (kk ad ts H locs ls cells slots ⟨h1, h2, h3, h4, h5, h6.2, h7, h8⟩)
  have := z_words_eq ad st
  show 2 * 0 + _ + 12 ≤ _
  omega
theorem z_max {idx : Nat} {x y : Int32} (h : z_H X cc own d) (hd : decode cc pc = .ok (.invokestatic idx, 3)) (hl : Cond.methodLink own idx Lib.Math.max.name ∈ z_F) (hs : Cond.static Lib.Math.max.name ∈ z_F) (hi : Cond.initialized "java/lang/Math" ∈ z_F) (hc : Cond.code Lib.Math.max.name Lib.Math.max.code 2 (some .int) ∈ z_F) (hst : z_words st ≤ 8) (kk : z_V X kC kS w (pc + 3) L (vi (if x < y then y else x) :: st)) : z_V X kC kS w pc L (vi y :: vi x :: st) := fun ad ts H locs ls cells slots ⟨h1, h2, h3, h4, h5, h6, h7, h8, h9⟩ => by
  have hb := h.2.2.2.2.1
  have := z_words_eq ad st
  exact va_mmax h.1 h.2.1 (h.2.2.2.2.2.2.trans h7.1.symm) h.2.2.1 (h.ts _ hl) (h.ts _ hs) (h.ts _ hi) (h.ts _ hc) (by omega) (by omega) (by omega) (by omega) hd (kk ad ts H locs ls cells slots ⟨h1, h2, h3, h4, h5, ⟨trivial, h6.2.2⟩, h7, h8, h9⟩)
theorem z_min {idx : Nat} {x y : Int32} (h : z_H X cc own d) (hd : decode cc pc = .ok (.invokestatic idx, 3)) (hl : Cond.methodLink own idx Lib.Math.min.name ∈ z_F) (hs : Cond.static Lib.Math.min.name ∈ z_F) (hi : Cond.initialized "java/lang/Math" ∈ z_F) (hc : Cond.code Lib.Math.min.name Lib.Math.min.code 2 (some .int) ∈ z_F) (hst : z_words st ≤ 8) (kk : z_V X kC kS w (pc + 3) L (vi (if y < x then y else x) :: st)) : z_V X kC kS w pc L (vi y :: vi x :: st) := fun ad ts H locs ls cells slots ⟨h1, h2, h3, h4, h5, h6, h7, h8, h9⟩ => by
  have hb := h.2.2.2.2.1
  have := z_words_eq ad st
  exact va_mmin h.1 h.2.1 (h.2.2.2.2.2.2.trans h7.1.symm) h.2.2.1 (h.ts _ hl) (h.ts _ hs) (h.ts _ hi) (h.ts _ hc) (by omega) (by omega) (by omega) (by omega) hd (kk ad ts H locs ls cells slots ⟨h1, h2, h3, h4, h5, ⟨trivial, h6.2.2⟩, h7, h8, h9⟩)
/-- System.arraycopy of ints, from a cell to another -/
theorem z_copy {idx : Nat} {t u : z_T} {n0 n1 sp dp n : Nat} {f g : Nat → Int32} (h : z_H X cc own d) (hd : decode cc pc = .ok (.invokestatic idx, 3)) (hl : Cond.methodLink own idx arraycopyName ∈ z_F) (hna : Cond.native arraycopyName ∈ z_F) (hs : Cond.static arraycopyName ∈ z_F) (hi : Cond.initialized "java/lang/System" ∈ z_F) (ht : w t = some (z_ia n0 f)) (hu : w u = some (z_ia n1 g)) (h0 : n0 < 2 ^ 31 ∧ n1 < 2 ^ 31 ∧ sp + n ≤ n0 ∧ dp + n ≤ n1) (hst : z_words st ≤ 8) (kk : z_V X kC kS (z_set w u (z_ia n1 (va_cpy f g sp dp n))) (pc + 3) L st) : z_V X kC kS w pc L (vi (nI n) :: vi (nI dp) :: vr u :: vi (nI sp) :: vr t :: st) := fun ad ts H locs ls cells slots hh => by
  have hb := h.2.2.2.2.1
  have := z_words_eq ad st
  obtain ⟨q, hq, he⟩ := hh.2.1.find ht
  obtain ⟨q2, hq2, he2⟩ := hh.2.1.find hu
  have e1 : (nI sp).toNatClampNeg = sp := nI_clamp (by omega)
  have e2 : (nI dp).toNatClampNeg = dp := nI_clamp (by omega)
  have e3 : (nI n).toNatClampNeg = n := nI_clamp (by omega)
  refine va_copyi h.1 h.2.1 (h.2.2.2.2.2.2.trans hh.2.2.2.2.2.2.1.1.symm) h.2.2.1 (h.ts _ hl) (h.ts _ hna) (h.ts _ hs) (h.ts _ hi) h.2.2.2.1.1 hh.2.1.2.2.1 hh.2.1.2.2.2.1 hh.2.2.1 q q2 0 0 he he2 (z_tys_at (k := 0) (by omega)) (z_tys_at (k := 0) (by omega)) rfl (nI_pos (by omega)) (nI_pos (by omega)) (nI_pos (by omega)) (by omega) (by omega) (fun _ _ => rfl) (by omega) ?_ hd (fun H1 locs1 hP hD hS => ?_)
  · have e9 : nativeFrameWords "java/lang/System" "arraycopy" 5 + 11 ≤ 60 := by decide
    omega
  · rw [e1, e2, e3] at hP hD
    obtain ⟨h1, h2, h3, h4, h5, h6, h7, h8⟩ := hh
    have hm : ∀ q, w q ≠ none → z_set w u (z_ia n1 (va_cpy f g sp dp n)) q ≠ none := fun _ hq => z_set_some hq
    exact kk ad ts H1 locs1 ls cells slots ⟨h1, h2.put (c := z_ia n1 (va_cpy f g sp dp n)) hq2 trivial hP hD, hS, fun q hq => (h4 q hq).imp (hm q) id, z_okl_mono hm h5, z_oks_mono hm h6.2.2.2.2.2, h7, h8⟩
end ZC
