/-! worlds by a table of shapes and three functions of contents -/
abbrev r_sh : Type := Nat ⊕ (Nat ⊕ (Nat ⊕ ((Nat × Nat) ⊕ (Nat × List (Option z_T)))))
abbrev s_i (n : Nat) : r_sh := .inl n
abbrev s_z (n : Nat) : r_sh := .inr (.inl n)
abbrev s_l (n : Nat) : r_sh := .inr (.inr (.inl n))
abbrev s_r (k n : Nat) : r_sh := .inr (.inr (.inr (.inl (k, n))))
abbrev s_o (ci : Nat) (sp : List (Option z_T)) : r_sh := .inr (.inr (.inr (.inr (ci, sp))))
abbrev r_c : Type := z_T → Nat → Int32
abbrev r_l : Type := z_T → Nat → Int64
abbrev r_r : Type := z_T → Nat → Option z_T
def r_row (f : Nat → Int32) : Nat → List (Option z_T) → List z_v
  | _, [] => []
  | k, none :: r => vi (f k) :: r_row f (k + 1) r
  | k, some t :: r => vr t :: r_row f (k + 1) r
def r_mk : r_sh → (Nat → Int32) → (Nat → Int64) → (Nat → Option z_T) → z_c
  | .inl n, f, _, _ => z_ia n f
  | .inr (.inl n), f, _, _ => z_za n f
  | .inr (.inr (.inl n)), _, g, _ => z_la n g
  | .inr (.inr (.inr (.inl (k, n)))), _, _, h => z_ra k n h
  | .inr (.inr (.inr (.inr (ci, sp)))), f, _, _ => z_ob ci (r_row f 0 sp)
/-- within dom the world is as the table and the contents say; without, as w0 -/
def r_p (dom : z_T → Prop) (T : z_T → Option r_sh) (w0 : z_w) (c : r_c) (l : r_l) (r : r_r) (w : z_w) : Prop :=
  (∀ t, dom t → w t = (T t).map (fun s => r_mk s (c t) (l t) (r t))) ∧ ∀ t, ¬ dom t → w t = w0 t
/-- another row of contents at a tag -/
def r_cf {α : Type} (c : z_T → α) (t : z_T) (f : α) : z_T → α := fun q => bif z_eq q t then f else c q
abbrev r_cs (c : r_c) (t : z_T) (k : Nat) (v : Int32) : r_c := r_cf c t (upd (c t) k v)
theorem r_cf_self {α : Type} (c : z_T → α) (t : z_T) (f : α) : r_cf c t f t = f := by simp [r_cf, z_eq_self]
theorem r_cf_ne {α : Type} {c : z_T → α} {t q : z_T} {f : α} (h : q ≠ t) : r_cf c t f q = c q := by simp [r_cf, z_eq_ne h]
theorem r_cf_cf {α : Type} (c : z_T → α) (t : z_T) (f g : α) : r_cf (r_cf c t f) t g = r_cf c t g := by
  funext q
  by_cases e : q = t
  · subst e; rw [r_cf_self, r_cf_self]
  · rw [r_cf_ne e, r_cf_ne e, r_cf_ne e]
theorem r_cf_same {α : Type} (c : z_T → α) (t : z_T) : r_cf c t (c t) = c := by
  funext q
  by_cases e : q = t
  · subst e; rw [r_cf_self]
  · rw [r_cf_ne e]
theorem r_cf_comm {α : Type} {c : z_T → α} {t u : z_T} {f g : α} (h : z_eq t u = false) : r_cf (r_cf c t f) u g = r_cf (r_cf c u g) t f := by
  have hne : t ≠ u := fun e => by subst e; rw [z_eq_self] at h; cases h
  funext q
  by_cases e : q = t
  · subst e; rw [r_cf_self, r_cf_ne hne, r_cf_self]
  · by_cases e2 : q = u
    · subst e2; rw [r_cf_self, r_cf_ne e, r_cf_self]
    · rw [r_cf_ne e2, r_cf_ne e, r_cf_ne e, r_cf_ne e2]
theorem r_row_get {f : Nat → Int32} : ∀ {sp : List (Option z_T)} {j k : Nat}, sp[k]? = some none → (r_row f j sp)[k]? = some (vi (f (j + k)))
  | [], j, k, h => by simp at h
  | none :: r, j, 0, h => rfl
  | some t :: r, j, 0, h => by simp at h
  | none :: r, j, k + 1, h => by
    have := r_row_get (f := f) (sp := r) (j := j + 1) (k := k) h
    rw [show j + 1 + k = j + (k + 1) by omega] at this
    exact this
  | some t :: r, j, k + 1, h => by
    have := r_row_get (f := f) (sp := r) (j := j + 1) (k := k) h
    rw [show j + 1 + k = j + (k + 1) by omega] at this
    exact this
theorem r_row_ref {f : Nat → Int32} {t : z_T} : ∀ {sp : List (Option z_T)} {j k : Nat}, sp[k]? = some (some t) → (r_row f j sp)[k]? = some (vr t)
  | [], j, k, h => by simp at h
  | none :: r, j, 0, h => by simp at h
  | some u :: r, j, 0, h => by
    have e : u = t := by simpa using h
    subst e
    rfl
  | none :: r, j, k + 1, h => r_row_ref (sp := r) (j := j + 1) (k := k) h
  | some u :: r, j, k + 1, h => r_row_ref (sp := r) (j := j + 1) (k := k) h
theorem r_row_lt {f : Nat → Int32} {x : Int32} : ∀ {sp : List (Option z_T)} {j k : Nat}, k < j → r_row (upd f k x) j sp = r_row f j sp
  | [], _, _, _ => rfl
  | none :: r, j, k, h => by
    show vi (upd f k x j) :: r_row (upd f k x) (j + 1) r = vi (f j) :: r_row f (j + 1) r
    rw [r_row_lt (show k < j + 1 by omega), pk_un (show j ≠ k by omega)]
  | some t :: r, j, k, h => by
    show vr t :: r_row (upd f k x) (j + 1) r = vr t :: r_row f (j + 1) r
    rw [r_row_lt (show k < j + 1 by omega)]
theorem r_row_set {f : Nat → Int32} {x : Int32} : ∀ {sp : List (Option z_T)} {j k : Nat}, sp[k]? = some none → (r_row f j sp).set k (vi x) = r_row (upd f (j + k) x) j sp
  | [], j, k, h => by simp at h
  | none :: r, j, 0, h => by
    show vi x :: r_row f (j + 1) r = vi (upd f j x j) :: r_row (upd f j x) (j + 1) r
    rw [r_row_lt (show j < j + 1 by omega), pk_us]
  | some t :: r, j, 0, h => by simp at h
  | none :: r, j, k + 1, h => by
    have := r_row_set (f := f) (x := x) (sp := r) (j := j + 1) (k := k) h
    show vi (f j) :: (r_row f (j + 1) r).set k (vi x) = vi (upd f (j + (k + 1)) x j) :: r_row (upd f (j + (k + 1)) x) (j + 1) r
    rw [this, show j + 1 + k = j + (k + 1) by omega, pk_un (show j ≠ j + (k + 1) by omega)]
  | some t :: r, j, k + 1, h => by
    have := r_row_set (f := f) (x := x) (sp := r) (j := j + 1) (k := k) h
    show vr t :: (r_row f (j + 1) r).set k (vi x) = vr t :: r_row (upd f (j + (k + 1)) x) (j + 1) r
    rw [this, show j + 1 + k = j + (k + 1) by omega]
theorem r_row_len {f : Nat → Int32} : ∀ {sp : List (Option z_T)} {j : Nat}, (r_row f j sp).length = sp.length
  | [], _ => rfl
  | none :: r, j => congrArg (· + 1) (r_row_len (sp := r) (j := j + 1))
  | some t :: r, j => congrArg (· + 1) (r_row_len (sp := r) (j := j + 1))
section RP
variable {dom : z_T → Prop} {T : z_T → Option r_sh} {w0 w : z_w} {c : r_c} {l : r_l} {r : r_r}
theorem r_p.at (h : r_p dom T w0 c l r w) {t : z_T} {s : r_sh} (hd : dom t) (hT : T t = some s) : w t = some (r_mk s (c t) (l t) (r t)) := by rw [h.1 t hd, hT]; rfl
theorem r_p.ob (h : r_p dom T w0 c l r w) {t : z_T} {ci : Nat} {sp : List (Option z_T)} (hd : dom t) (hT : T t = some (s_o ci sp)) : w t = some (z_ob ci (r_row (c t) 0 sp)) := h.at hd hT
theorem r_p.ia (h : r_p dom T w0 c l r w) {t : z_T} {n : Nat} (hd : dom t) (hT : T t = some (s_i n)) : w t = some (z_ia n (c t)) := h.at hd hT
theorem r_p.free (h : r_p dom T w0 c l r w) {t : z_T} (hd : dom t) (hT : T t = none) : w t = none := by rw [h.1 t hd, hT]; rfl
theorem r_p.out (h : r_p dom T w0 c l r w) {t : z_T} (hd : ¬ dom t) : w t = w0 t := h.2 t hd
/-- another row at a tag -/
theorem r_p.setf (h : r_p dom T w0 c l r w) {t : z_T} {s : r_sh} (hd : dom t) (hT : T t = some s) (f : Nat → Int32) (g : Nat → Int64) (k : Nat → Option z_T) : r_p dom T w0 (r_cf c t f) (r_cf l t g) (r_cf r t k) (z_set w t (r_mk s f g k)) := by
  refine ⟨fun q hq => ?_, fun q hq => ?_⟩
  · by_cases e : q = t
    · subst e; rw [z_set_self, hT, r_cf_self, r_cf_self, r_cf_self]; rfl
    · rw [z_set_ne e, h.1 q hq, r_cf_ne e, r_cf_ne e, r_cf_ne e]
  · rw [z_set_ne (fun e : q = t => hq (by rw [e]; exact hd)), h.2 q hq]
theorem r_p.seti (h : r_p dom T w0 c l r w) {t : z_T} {n : Nat} (hd : dom t) (hT : T t = some (s_i n)) (f : Nat → Int32) : r_p dom T w0 (r_cf c t f) l r (z_set w t (z_ia n f)) := by
  have := h.setf hd hT f (l t) (r t)
  rw [r_cf_same, r_cf_same] at this
  exact this
theorem r_p.setz (h : r_p dom T w0 c l r w) {t : z_T} {n : Nat} (hd : dom t) (hT : T t = some (s_z n)) (f : Nat → Int32) : r_p dom T w0 (r_cf c t f) l r (z_set w t (z_za n f)) := by
  have := h.setf hd hT f (l t) (r t)
  rw [r_cf_same, r_cf_same] at this
  exact this
theorem r_p.setl (h : r_p dom T w0 c l r w) {t : z_T} {n : Nat} (hd : dom t) (hT : T t = some (s_l n)) (g : Nat → Int64) : r_p dom T w0 c (r_cf l t g) r (z_set w t (z_la n g)) := by
  have := h.setf hd hT (c t) g (r t)
  rw [r_cf_same, r_cf_same] at this
  exact this
theorem r_p.setr (h : r_p dom T w0 c l r w) {t : z_T} {k n : Nat} (hd : dom t) (hT : T t = some (s_r k n)) (g : Nat → Option z_T) : r_p dom T w0 c l (r_cf r t g) (z_set w t (z_ra k n g)) := by
  have := h.setf hd hT (c t) (l t) g
  rw [r_cf_same, r_cf_same] at this
  exact this
theorem r_p.seto (h : r_p dom T w0 c l r w) {t : z_T} {ci : Nat} {sp : List (Option z_T)} (hd : dom t) (hT : T t = some (s_o ci sp)) {k : Nat} (hk : sp[k]? = some none) (x : Int32) : r_p dom T w0 (r_cs c t k x) l r (z_set w t (z_ob ci ((r_row (c t) 0 sp).set k (vi x)))) := by
  have := h.setf hd hT (upd (c t) k x) (l t) (r t)
  rw [r_cf_same, r_cf_same] at this
  rw [r_row_set hk, Nat.zero_add]
  exact this
/-- a new cell -/
def r_ts (T : z_T → Option r_sh) (t : z_T) (s : r_sh) : z_T → Option r_sh := fun q => bif z_eq q t then some s else T q
theorem r_ts_self (T : z_T → Option r_sh) (t : z_T) (s : r_sh) : r_ts T t s t = some s := by simp [r_ts, z_eq_self]
theorem r_ts_ne {T : z_T → Option r_sh} {t q : z_T} {s : r_sh} (h : q ≠ t) : r_ts T t s q = T q := by simp [r_ts, z_eq_ne h]
theorem r_p.new (h : r_p dom T w0 c l r w) {t : z_T} (hd : dom t) (s : r_sh) (f : Nat → Int32) (g : Nat → Int64) (k : Nat → Option z_T) : r_p dom (r_ts T t s) w0 (r_cf c t f) (r_cf l t g) (r_cf r t k) (z_set w t (r_mk s f g k)) := by
  refine ⟨fun q hq => ?_, fun q hq => ?_⟩
  · by_cases e : q = t
    · subst e; rw [z_set_self, r_ts_self, r_cf_self, r_cf_self, r_cf_self]; rfl
    · rw [z_set_ne e, h.1 q hq, r_cf_ne e, r_cf_ne e, r_cf_ne e, r_ts_ne e]
  · rw [z_set_ne (fun e : q = t => hq (by rw [e]; exact hd)), h.2 q hq]
/-- the same world, other names for what isn't seen -/
theorem r_p.alike (h : r_p dom T w0 c l r w) {T' : z_T → Option r_sh} {c' : r_c} {l' : r_l} {r' : r_r} (he : ∀ t, dom t → (T t).map (fun s => r_mk s (c t) (l t) (r t)) = (T' t).map (fun s => r_mk s (c' t) (l' t) (r' t))) : r_p dom T' w0 c' l' r' w := ⟨fun t ht => (h.1 t ht).trans (he t ht), h.2⟩
end RP
section RR
variable {X : z_X} {cc : ByteArray} {own : String} {d kC kS : Nat} {w : z_w} {pc : Nat} {L : List (Nat × z_v)} {st : List z_v}
variable {dom : z_T → Prop} {T : z_T → Option r_sh} {w0 : z_w} {c : r_c} {l : r_l} {r : r_r} {t u : z_T} {n j : Nat} {i : Int32}
theorem y_geti {idx ci k : Nat} {ty : FieldType} {fin : Nat} {sp : List (Option z_T)} (h : z_H X cc own d) (hd : decode cc pc = .ok (.getfield idx, 3)) (hR : r_p dom T w0 c l r w) (hf : z_FL own idx ci k ty fin) (hD : dom t) (hT : T t = some (s_o ci sp)) (hk : sp[k]? = some none) (kk : z_V X kC kS w (pc + 3) L (vi (c t k) :: st)) : z_V X kC kS w pc L (vr t :: st) :=
  z_get h hd hf (fs := r_row (c t) 0 sp) (hR.at hD hT) (v := vi (c t k)) (by have := r_row_get (f := c t) (j := 0) hk; rw [Nat.zero_add] at this; exact this) kk
theorem y_getr {idx ci k : Nat} {ty : FieldType} {fin : Nat} {sp : List (Option z_T)} (h : z_H X cc own d) (hd : decode cc pc = .ok (.getfield idx, 3)) (hR : r_p dom T w0 c l r w) (hf : z_FL own idx ci k ty fin) (hD : dom t) (hT : T t = some (s_o ci sp)) (hk : sp[k]? = some (some u)) (kk : z_V X kC kS w (pc + 3) L (vr u :: st)) : z_V X kC kS w pc L (vr t :: st) :=
  z_get h hd hf (fs := r_row (c t) 0 sp) (hR.at hD hT) (v := vr u) (r_row_ref hk) kk
theorem y_put {idx ci k : Nat} {ty : FieldType} {sp : List (Option z_T)} {x : Int32} (h : z_H X cc own d) (hd : decode cc pc = .ok (.putfield idx, 3)) (he0 : ∀ t, ¬ x_E0 X t) (hR : r_p dom T w0 c l r w) (hf : z_FL own idx ci k ty 0) (hty : ty = .int) (hD : dom t) (hT : T t = some (s_o ci sp)) (hk : sp[k]? = some none) (kk : ∀ w', r_p dom T w0 (r_cs c t k x) l r w' → z_V X kC kS w' (pc + 3) L st) : z_V X kC kS w pc L (vi x :: vr t :: st) := by
  subst hty
  refine z_put h hd he0 hf (fs := r_row (c t) 0 sp) (hR.at hD hT) ?_ (z_fit_i x) (kk _ (hR.seto hD hT hk x))
  rw [r_row_len]
  exact (List.getElem?_eq_some_iff.mp hk).1
theorem y_alen {k : Nat} {f : z_ar} (h : z_H X cc own d) (hd : decode cc pc = .ok (.arraylength, 1)) (hw : w t = some (.inl (k, n, f))) (hk : k ≤ 5) (kk : z_V X kC kS w (pc + 1) L (vi (nI n) :: st)) : z_V X kC kS w pc L (vr t :: st) := z_alen h hd hw hk kk
def r_len : r_sh → Option Nat
  | .inl n => some n
  | .inr (.inl n) => some n
  | .inr (.inr (.inl n)) => some n
  | .inr (.inr (.inr (.inl (k, n)))) => bif Nat.ble k 5 then some n else none
  | _ => none
theorem y_len {s : r_sh} (h : z_H X cc own d) (hd : decode cc pc = .ok (.arraylength, 1)) (hR : r_p dom T w0 c l r w) (hD : dom t) (hT : T t = some s) (hn : r_len s = some n) (kk : z_V X kC kS w (pc + 1) L (vi (nI n) :: st)) : z_V X kC kS w pc L (vr t :: st) := by
  have hw := hR.at hD hT
  match s, hn, hw with
  | .inl m, hn, hw => cases hn; exact z_alen h hd hw (by decide) kk
  | .inr (.inl m), hn, hw => cases hn; exact z_alen h hd hw (by decide) kk
  | .inr (.inr (.inl m)), hn, hw => cases hn; exact z_alen h hd hw (by decide) kk
  | .inr (.inr (.inr (.inl (k, m)))), hn, hw =>
    have hk : Nat.ble k 5 = true := by
      cases e : Nat.ble k 5 with
      | true => rfl
      | false => simp [r_len, e] at hn
    have : m = n := by simpa [r_len, hk] using hn
    subst this
    exact z_alen h hd hw (Nat.le_of_ble_eq_true hk) kk
theorem y_leni (h : z_H X cc own d) (hd : decode cc pc = .ok (.arraylength, 1)) (hR : r_p dom T w0 c l r w) (hD : dom t) (hT : T t = some (s_i n)) (kk : z_V X kC kS w (pc + 1) L (vi (nI n) :: st)) : z_V X kC kS w pc L (vr t :: st) := z_alen h hd (hR.at hD hT) (by decide) kk
theorem y_lenr {k : Nat} (h : z_H X cc own d) (hd : decode cc pc = .ok (.arraylength, 1)) (hR : r_p dom T w0 c l r w) (hD : dom t) (hT : T t = some (s_r k n)) (hk : k ≤ 5) (kk : z_V X kC kS w (pc + 1) L (vi (nI n) :: st)) : z_V X kC kS w pc L (vr t :: st) := z_alen h hd (hR.at hD hT) hk kk
theorem y_iald (h : z_H X cc own d) (hd : decode cc pc = .ok (.iaload, 1)) (hR : r_p dom T w0 c l r w) (hD : dom t) (hT : T t = some (s_i n)) (hi : z_ix i j n) (kk : z_V X kC kS w (pc + 1) L (vi (c t j) :: st)) : z_V X kC kS w pc L (vi i :: vr t :: st) := z_iald h hd (f := c t) (hR.at hD hT) hi kk
theorem y_zald (h : z_H X cc own d) (hd : decode cc pc = .ok (.baload, 1)) (hR : r_p dom T w0 c l r w) (hD : dom t) (hT : T t = some (s_z n)) (hi : z_ix i j n) (kk : z_V X kC kS w (pc + 1) L (vi (c t j) :: st)) : z_V X kC kS w pc L (vi i :: vr t :: st) := z_zald h hd (f := c t) (hR.at hD hT) hi kk
theorem y_lald (h : z_H X cc own d) (hd : decode cc pc = .ok (.laload, 1)) (hR : r_p dom T w0 c l r w) (hD : dom t) (hT : T t = some (s_l n)) (hi : z_ix i j n) (kk : z_V X kC kS w (pc + 1) L (vl (l t j) :: st)) : z_V X kC kS w pc L (vi i :: vr t :: st) := z_lald h hd (f := l t) (hR.at hD hT) hi kk
theorem y_aald {k : Nat} {C : String} (h : z_H X cc own d) (hd : decode cc pc = .ok (.aaload, 1)) (hR : r_p dom T w0 c l r w) (hD : dom t) (hT : T t = some (s_r k n)) (hk : z_ob? k = some C) (hi : z_ix i j n) (hu : r t j = some u) (kk : z_V X kC kS w (pc + 1) L (vr u :: st)) : z_V X kC kS w pc L (vi i :: vr t :: st) := z_aald h hd hk (f := r t) (hR.at hD hT) hi hu kk
theorem y_aaldN {k : Nat} {C : String} (h : z_H X cc own d) (hd : decode cc pc = .ok (.aaload, 1)) (hR : r_p dom T w0 c l r w) (hD : dom t) (hT : T t = some (s_r k n)) (hk : z_ob? k = some C) (hi : z_ix i j n) (hu : r t j = none) (kk : z_V X kC kS w (pc + 1) L (vn :: st)) : z_V X kC kS w pc L (vi i :: vr t :: st) := z_aaldN h hd hk (f := r t) (hR.at hD hT) hi hu kk
theorem y_iast {x : Int32} (h : z_H X cc own d) (hd : decode cc pc = .ok (.iastore, 1)) (hR : r_p dom T w0 c l r w) (hD : dom t) (hT : T t = some (s_i n)) (hi : z_ix i j n) (kk : ∀ w', r_p dom T w0 (r_cs c t j x) l r w' → z_V X kC kS w' (pc + 1) L st) : z_V X kC kS w pc L (vi x :: vi i :: vr t :: st) := z_iast h hd (f := c t) (hR.at hD hT) hi (kk _ (hR.seti hD hT _))
theorem y_zast {x : Int32} (h : z_H X cc own d) (hd : decode cc pc = .ok (.bastore, 1)) (hR : r_p dom T w0 c l r w) (hD : dom t) (hT : T t = some (s_z n)) (hi : z_ix i j n) (hx : vp_nar .boolean x = x) (kk : ∀ w', r_p dom T w0 (r_cs c t j x) l r w' → z_V X kC kS w' (pc + 1) L st) : z_V X kC kS w pc L (vi x :: vi i :: vr t :: st) := z_zast h hd (f := c t) (hR.at hD hT) hi hx (kk _ (hR.setz hD hT _))
theorem y_last {x : Int64} (h : z_H X cc own d) (hd : decode cc pc = .ok (.lastore, 1)) (hR : r_p dom T w0 c l r w) (hD : dom t) (hT : T t = some (s_l n)) (hi : z_ix i j n) (kk : ∀ w', r_p dom T w0 c (r_cf l t (vp_updL (l t) j x)) r w' → z_V X kC kS w' (pc + 1) L st) : z_V X kC kS w pc L (vl x :: vi i :: vr t :: st) := z_last h hd (f := l t) (hR.at hD hT) hi (kk _ (hR.setl hD hT _))
theorem y_aast {k ci : Nat} {q : vw_C} {sp : List (Option z_T)} (h : z_H X cc own d) (hd : decode cc pc = .ok (.aastore, 1)) (hR : r_p dom T w0 c l r w) (hD : dom t) (hT : T t = some (s_r k n)) (hk : z_ob? k = some q.1) (hc : vwCl[ci]? = some q) (hi : z_ix i j n) (hDu : dom u) (hTu : T u = some (s_o ci sp)) (kk : ∀ w', r_p dom T w0 c l (r_cf r t (va_up (r t) j (some u))) w' → z_V X kC kS w' (pc + 1) L st) : z_V X kC kS w pc L (vr u :: vi i :: vr t :: st) := z_aast h hd hk hc (f := r t) (hR.at hD hT) hi (hR.at hDu hTu) (kk _ (hR.setr hD hT _))
/-- other contents that the world can't tell -/
theorem y_cong {f : Nat → Int32} (hR : r_p dom T w0 c l r w) (hD : dom t) (hT : T t = some (s_i n)) (hf : ∀ j, j < n → c t j = f j) (kk : ∀ w', r_p dom T w0 (r_cf c t f) l r w' → z_V X kC kS w' pc L st) : z_V X kC kS w pc L st := z_cong (f := c t) (g := f) (hR.at hD hT) hf (kk _ (hR.seti hD hT _))
theorem y_congz {f : Nat → Int32} (hR : r_p dom T w0 c l r w) (hD : dom t) (hT : T t = some (s_z n)) (hf : ∀ j, j < n → c t j = f j) (kk : ∀ w', r_p dom T w0 (r_cf c t f) l r w' → z_V X kC kS w' pc L st) : z_V X kC kS w pc L st := z_cong (f := c t) (g := f) (hR.at hD hT) hf (kk _ (hR.setz hD hT _))
theorem y_congl {f : Nat → Int64} (hR : r_p dom T w0 c l r w) (hD : dom t) (hT : T t = some (s_l n)) (hf : ∀ j, j < n → l t j = f j) (kk : ∀ w', r_p dom T w0 c (r_cf l t f) r w' → z_V X kC kS w' pc L st) : z_V X kC kS w pc L st := z_congL (f := l t) (g := f) (hR.at hD hT) hf (kk _ (hR.setl hD hT _))
/-- a new cell -/
theorem y_new {idx ci m : Nat} {sp : List (Option z_T)} {f : Nat → Int32} (h : z_H X cc own d) (hd : decode cc pc = .ok (.new idx, 3)) (he0 : ∀ t, ¬ x_E0 X t) (hR : r_p dom T w0 c l r w) {fs : List z_v} (hn : z_NW own idx ci m fs) (t : z_T) (hD : dom t) (hT : T t = none) (kk : ∀ w', w' = z_set w t (z_ob ci fs) → z_V X kC kS w' (pc + 3) L (vr t :: st)) : z_V X (kC + 1) (kS + m) w pc L st := z_new h hd he0 hn t (hR.free hD hT) (kk _ rfl)
end RR
/-! the two tables -/
def dX : z_T → Prop := fun t => t.1 < 100
def dM : z_T → Prop := fun t => 100 ≤ t.1
abbrev ints (n : Nat) : List (Option z_T) := List.replicate n none
def XL : List r_sh := [
  s_o 11 [none, some (1, 0), none, some (3, 0), some (6, 0), some (8, 0), some (13, 0), some (17, 0), none, none, some (21, 0), some (26, 0), none, some (29, 0), some (35, 0), some (44, 0), some (47, 0)],
  s_r 3 12, s_i 0, s_o 10 [some (4, 0), some (5, 0)], s_i 12, s_i 8,
  s_o 9 [some (7, 0), none], s_i 200, s_o 2 [some (9, 0), some (10, 0), some (11, 0), some (12, 0), none], s_i 40, s_i 40, s_i 40, s_i 40,
  s_o 3 [some (14, 0), some (15, 0), some (16, 0), none, none, none, none, none, none, none, none, none, none, none], s_i 12, s_i 12, s_i 8,
  s_r 4 100, s_i 0, s_i 0, s_i 0, s_o 8 [some (22, 0), some (23, 0), some (24, 0), some (25, 0), none], s_i 100, s_i 100, s_i 100, s_i 100,
  s_r 5 60, s_i 0, s_i 0, s_i 0, s_i 0, s_i 0, s_i 0, s_i 0, s_i 8,
  s_o 5 [some (36, 0), some (37, 0), some (38, 0), none, some (39, 0), some (40, 0), some (41, 0), some (42, 0), some (43, 0), none], s_i 8, s_i 8, s_i 8, s_i 100, s_i 100, s_z 100, s_i 100, s_i 8,
  s_o 6 [some (45, 0), some (46, 0)], s_i 12, s_l 12, s_i 8]
def TX (nb na np g : Nat) : z_T → Option r_sh := fun t =>
  bif Nat.beq t.1 2 then bif Nat.blt t.2 nb then some (s_o 1 [none, none, none, none, none, none]) else none
  else bif Nat.beq t.1 18 then bif Nat.blt t.2 na then some (s_o 0 [some (19, t.2), some (20, t.2), none, none, none, none, none]) else none
  else bif Nat.beq t.1 19 then bif Nat.blt t.2 na then some (s_i 12) else none
  else bif Nat.beq t.1 20 then bif Nat.blt t.2 na then some (s_i 8) else none
  else bif Nat.beq t.1 27 then bif Nat.blt t.2 np then some (s_o 7 [none, none, none, some (28, t.2)]) else none
  else bif Nat.beq t.1 28 then bif Nat.blt t.2 np then some (s_i 8) else none
  else bif Nat.ble 30 t.1 && Nat.ble t.1 33 then bif Nat.ble t.2 g then some (s_i (64 * 2 ^ t.2)) else none
  else bif Nat.beq t.1 29 then bif Nat.beq t.2 0 then some (s_o 4 [some (30, g), some (31, g), some (32, g), some (33, g), some (34, 0), none]) else none
  else bif Nat.beq t.2 0 then XL[t.1]? else none
def ML : List r_sh := [
  s_i 12, s_i 12, s_i 12, s_i 12, s_i 12, s_i 12, s_i 12, s_i 8, s_l 12, s_i 12, s_z 12, s_i 12, s_i 8, s_i 12,
  s_i 0, s_i 0, s_i 0, s_i 0, s_i 0, s_i 0, s_i 0, s_i 0, s_i 0, s_i 220, s_i 0, s_i 0, s_i 0, s_i 0, s_i 60, s_i 60, s_i 60, s_i 60, s_i 60, s_i 60, s_i 60, s_i 60,
  s_i 1200, s_i 800, s_i 100, s_i 100, s_i 100, s_i 100, s_i 100, s_i 100, s_i 100, s_i 100, s_i 100, s_i 60, s_i 60, s_i 60, s_i 480, s_i 8, s_i 0, s_i 0, s_i 0, s_i 0, s_i 8, s_i 8, s_i 8, s_i 100, s_z 100]
/-- the model's object: its ints, its rows -/
def MO (g : Nat) : List (Option z_T) := [none, none, none, none, none, none, none, none,
  some (108, 0), some (109, 0), some (110, 0), some (111, 0), some (112, 0), some (113, 0), some (114, 0), some (115, 0), some (116, 0), some (117, 0), some (118, 0), some (119, 0), some (120, 0), some (121, 0),
  none, none, none, none, none, none, none, none, none, some (131, 0), none, none, none, none, some (136, 0), some (137, 0), some (138, 0), some (139, 0), some (140, 0), some (141, 0), some (142, 0), some (143, 0),
  some (144, 0), some (145, 0), some (146, 0), some (147, 0), some (148, 0), some (149, 0), some (150, 0), some (151, 0), some (152, 0), some (153, 0), some (154, 0), some (155, 0), some (156, 0), some (157, 0), some (158, 0), some (159, 0),
  some (160, g), some (161, g), some (162, g), some (163, g), some (164, 0), some (165, 0), some (166, 0), some (167, 0), some (168, 0)]
def mo_int (k : Nat) : Bool := Nat.blt k 22 || Nat.beq k 32 || (Nat.ble 24 k && Nat.blt k 31) || Nat.beq k 33
def TM (g : Nat) : z_T → Option r_sh := fun t =>
  bif Nat.beq t.1 100 then bif Nat.beq t.2 0 then some (s_o 12 (MO g)) else none
  else bif Nat.ble 160 t.1 && Nat.ble t.1 163 then bif Nat.ble t.2 g then some (s_i (256 * 2 ^ t.2)) else none
  else bif Nat.ble 108 t.1 && Nat.beq t.2 0 && !(Nat.ble 122 t.1 && Nat.ble t.1 130) && !(Nat.ble 132 t.1 && Nat.ble t.1 135) then ML[t.1 - 108]? else none
theorem tx_2 {nb na np g i : Nat} (h : i < nb) : TX nb na np g (2, i) = some (s_o 1 [none, none, none, none, none, none]) := by
  show (bif Nat.blt i nb then _ else _) = _
  rw [show Nat.blt i nb = true from Nat.ble_eq_true_of_le h]; rfl
theorem tx_18 {nb na np g i : Nat} (h : i < na) : TX nb na np g (18, i) = some (s_o 0 [some (19, i), some (20, i), none, none, none, none, none]) := by
  show (bif Nat.blt i na then _ else _) = _
  rw [show Nat.blt i na = true from Nat.ble_eq_true_of_le h]; rfl
theorem tx_19 {nb na np g i : Nat} (h : i < na) : TX nb na np g (19, i) = some (s_i 12) := by
  show (bif Nat.blt i na then _ else _) = _
  rw [show Nat.blt i na = true from Nat.ble_eq_true_of_le h]; rfl
theorem tx_20 {nb na np g i : Nat} (h : i < na) : TX nb na np g (20, i) = some (s_i 8) := by
  show (bif Nat.blt i na then _ else _) = _
  rw [show Nat.blt i na = true from Nat.ble_eq_true_of_le h]; rfl
theorem tx_27 {nb na np g i : Nat} (h : i < np) : TX nb na np g (27, i) = some (s_o 7 [none, none, none, some (28, i)]) := by
  show (bif Nat.blt i np then _ else _) = _
  rw [show Nat.blt i np = true from Nat.ble_eq_true_of_le h]; rfl
theorem tx_28 {nb na np g i : Nat} (h : i < np) : TX nb na np g (28, i) = some (s_i 8) := by
  show (bif Nat.blt i np then _ else _) = _
  rw [show Nat.blt i np = true from Nat.ble_eq_true_of_le h]; rfl
theorem blt_false {i n : Nat} (h : n ≤ i) : Nat.blt i n = false := by
  cases e : Nat.blt i n with
  | false => rfl
  | true => have := Nat.le_of_ble_eq_true e; omega
theorem ble_false {i n : Nat} (h : n < i) : Nat.ble i n = false := by
  cases e : Nat.ble i n with
  | false => rfl
  | true => have := Nat.le_of_ble_eq_true e; omega
theorem tx_30 {nb na np g i : Nat} (h : i ≤ g) : TX nb na np g (30, i) = some (s_i (64 * 2 ^ i)) := by
  show (bif Nat.ble i g then _ else _) = _
  rw [show Nat.ble i g = true from Nat.ble_eq_true_of_le h]; rfl
theorem tm_160 {g i : Nat} (h : i ≤ g) : TM g (160, i) = some (s_i (256 * 2 ^ i)) := by
  show (bif Nat.ble i g then _ else _) = _
  rw [show Nat.ble i g = true from Nat.ble_eq_true_of_le h]; rfl
theorem tx_31 {nb na np g i : Nat} (h : i ≤ g) : TX nb na np g (31, i) = some (s_i (64 * 2 ^ i)) := by
  show (bif Nat.ble i g then _ else _) = _
  rw [show Nat.ble i g = true from Nat.ble_eq_true_of_le h]; rfl
theorem tm_161 {g i : Nat} (h : i ≤ g) : TM g (161, i) = some (s_i (256 * 2 ^ i)) := by
  show (bif Nat.ble i g then _ else _) = _
  rw [show Nat.ble i g = true from Nat.ble_eq_true_of_le h]; rfl
theorem tx_32 {nb na np g i : Nat} (h : i ≤ g) : TX nb na np g (32, i) = some (s_i (64 * 2 ^ i)) := by
  show (bif Nat.ble i g then _ else _) = _
  rw [show Nat.ble i g = true from Nat.ble_eq_true_of_le h]; rfl
theorem tm_162 {g i : Nat} (h : i ≤ g) : TM g (162, i) = some (s_i (256 * 2 ^ i)) := by
  show (bif Nat.ble i g then _ else _) = _
  rw [show Nat.ble i g = true from Nat.ble_eq_true_of_le h]; rfl
theorem tx_33 {nb na np g i : Nat} (h : i ≤ g) : TX nb na np g (33, i) = some (s_i (64 * 2 ^ i)) := by
  show (bif Nat.ble i g then _ else _) = _
  rw [show Nat.ble i g = true from Nat.ble_eq_true_of_le h]; rfl
theorem tm_163 {g i : Nat} (h : i ≤ g) : TM g (163, i) = some (s_i (256 * 2 ^ i)) := by
  show (bif Nat.ble i g then _ else _) = _
  rw [show Nat.ble i g = true from Nat.ble_eq_true_of_le h]; rfl
theorem tt_1 : TX 3 2 1 0 (13, 0) = some (s_o 3 [some (14, 0), some (15, 0), some (16, 0), none, none, none, none, none, none, none, none, none, none, none]) := rfl
theorem tt_2 (g : Nat) : TM g (108, 0) = some (s_i 12) := rfl
theorem tt_3 (g : Nat) : TM g (168, 0) = some (s_z 100) := rfl
theorem tt_4 (g : Nat) : TM g (144, 0) = some (s_i 1200) := rfl
theorem tt_5 (g : Nat) : TM g (116, 0) = some (s_l 12) := rfl
theorem tt_6 : dX (18, 5) := Nat.le_of_ble_eq_true rfl
theorem tt_7 (i : Nat) : dX (18, i) := Nat.le_of_ble_eq_true rfl
theorem tt_8 (nb na np g : Nat) : TX nb na np g (47, 0) = some (s_i 8) := rfl
theorem tt_9 (g : Nat) : (MO g).length = 69 := rfl
theorem tt_10 : XL.length = 48 ∧ ML.length = 61 := ⟨rfl, rfl⟩
section RN
variable {X : z_X} {cc : ByteArray} {own : String} {d kC kS : Nat} {w : z_w} {pc : Nat} {L : List (Nat × z_v)} {st : List z_v}
variable {dom : z_T → Prop} {T : z_T → Option r_sh} {w0 : z_w} {c : r_c} {l : r_l} {r : r_r}
theorem y_newo {idx ci m : Nat} {fs : List z_v} {sp : List (Option z_T)} (h : z_H X cc own d) (hd : decode cc pc = .ok (.new idx, 3)) (he0 : ∀ t, ¬ x_E0 X t) (hR : r_p dom T w0 c l r w) (hn : z_NW own idx ci m fs) (hfs : fs = r_row (fun _ => 0) 0 sp) (t : z_T) (hD : dom t) (hT : T t = none) (kk : ∀ w', r_p dom (r_ts T t (s_o ci sp)) w0 (r_cf c t (fun _ => 0)) l r w' → z_V X kC kS w' (pc + 3) L (vr t :: st)) : z_V X (kC + 1) (kS + m) w pc L st := by
  refine z_new h hd he0 hn t (hR.free hD hT) (kk _ ?_)
  have := hR.new hD (s_o ci sp) (fun _ => 0) (l t) (r t)
  rw [r_cf_same, r_cf_same] at this
  rw [hfs]
  exact this
theorem tx_nb {nb na np g : Nat} : r_ts (TX nb na np g) (2, nb) (s_o 1 [none, none, none, none, none, none]) = TX (nb + 1) na np g := by
  funext q
  by_cases e : q = (2, nb)
  · subst e; rw [r_ts_self, tx_2 (by omega)]
  · rw [r_ts_ne e]
    obtain ⟨k, i⟩ := q
    by_cases e2 : k = 2
    · subst e2
      have hi : i ≠ nb := fun z => e (by rw [z])
      show (bif Nat.blt i nb then _ else _) = (bif Nat.blt i (nb + 1) then _ else _)
      by_cases hl : i < nb
      · rw [show Nat.blt i nb = true from Nat.ble_eq_true_of_le hl, show Nat.blt i (nb + 1) = true from Nat.ble_eq_true_of_le (show i + 1 ≤ nb + 1 by omega)]
      · rw [blt_false (show nb ≤ i by omega), blt_false (show nb + 1 ≤ i by omega)]
    · have hb : Nat.beq k 2 = false := by rw [z_beq]; simpa using e2
      unfold TX
      simp only [hb]
      rfl
theorem tx_2n {nb na np g i : Nat} (h : nb ≤ i) : TX nb na np g (2, i) = none := by
  show (bif Nat.blt i nb then _ else _) = _
  rw [blt_false h]; rfl
end RN
theorem z_bt {p : Prop} [Decidable p] (h : ¬ z_b p = 0) : p := by
  by_cases q : p
  · exact q
  · exact absurd (z_b0 q) h
theorem z_bf {p : Prop} [Decidable p] (h : z_b p = 0) : ¬ p := z_b_iff0.mp h
abbrev ix_ok (x : Int32) (n : Nat) : Prop := ¬ x < 0 ∧ ¬ nI n ≤ x
theorem ix_lt {x : Int32} {n : Nat} (h : ix_ok x n) (hn : n < 2 ^ 31) : x.toNatClampNeg < n := z_ixlt h.1 h.2 hn
theorem ix_eq {x : Int32} {n : Nat} (h : ix_ok x n) : x = nI x.toNatClampNeg := z_eqnI h.1
theorem ix_of {j n : Nat} (h : j < n) (hn : n < 2 ^ 31) : ix_ok (nI j) n := ⟨nI_pos (by omega), fun q => by have := (nI_leI hn (by omega)).mp q; omega⟩
theorem ix_in {x : Int32} {n : Nat} (hn : n < 2 ^ 30) : (0 ≤ x ∧ x ≤ nI n - 1) ↔ ix_ok x n := by
  have h0 : (0 : Int32).toInt = 0 := by decide
  have h1 : (nI n - 1).toInt = (n : Int) - 1 := by
    rw [show (1 : Int32) = nI 1 from rfl, pk_sub_toInt hn (by decide)]
    rfl
  rw [z_le, z_le, h1, h0]
  show _ ↔ ¬ x < 0 ∧ ¬ nI n ≤ x
  rw [z_lt, z_le, h0, nI_toInt (by omega)]
  omega
theorem z_rng {x : Int32} (a b : Nat) (h : nI a ≤ x ∧ x ≤ nI b) (ha : a < 2 ^ 31) (hb : b < 2 ^ 31) : x = nI x.toNatClampNeg ∧ a ≤ x.toNatClampNeg ∧ x.toNatClampNeg ≤ b := by
  have h0 : ¬ x < 0 := by
    have h1 := h.1
    rw [z_le, nI_toInt ha] at h1
    rw [z_lt, show (0 : Int32).toInt = 0 from by decide]
    omega
  obtain ⟨j, hj, rfl⟩ := nI_of h0
  rw [nI_clamp hj]
  exact ⟨rfl, (nI_leI ha hj).mp h.1, (nI_leI hj hb).mp h.2⟩
section RC
variable {X : z_X} {cc : ByteArray} {own : String} {d kC kS : Nat} {w : z_w} {pc : Nat} {L : List (Nat × z_v)} {st : List z_v}
variable {dom : z_T → Prop} {T : z_T → Option r_sh} {w0 : z_w} {c : r_c} {l : r_l} {r : r_r} {t u : z_T}
theorem y_copy {idx n0 n1 sp dp n : Nat} (h : z_H X cc own d) (hd : decode cc pc = .ok (.invokestatic idx, 3)) (hR : r_p dom T w0 c l r w) (hl : Cond.methodLink own idx arraycopyName ∈ z_F) (hna : Cond.native arraycopyName ∈ z_F) (hs : Cond.static arraycopyName ∈ z_F) (hi : Cond.initialized "java/lang/System" ∈ z_F) (ht : dom t ∧ T t = some (s_i n0)) (hu : dom u ∧ T u = some (s_i n1)) (h0 : n0 < 2 ^ 31 ∧ n1 < 2 ^ 31 ∧ sp + n ≤ n0 ∧ dp + n ≤ n1) (hst : z_words st ≤ 8) (kk : ∀ w', r_p dom T w0 (r_cf c u (va_cpy (c t) (c u) sp dp n)) l r w' → z_V X kC kS w' (pc + 3) L st) : z_V X kC kS w pc L (vi (nI n) :: vi (nI dp) :: vr u :: vi (nI sp) :: vr t :: st) :=
  z_copy h hd hl hna hs hi (f := c t) (g := c u) (hR.ia ht.1 ht.2) (hR.ia hu.1 hu.2) h0 hst (kk _ (hR.seti hu.1 hu.2 _))
end RC
