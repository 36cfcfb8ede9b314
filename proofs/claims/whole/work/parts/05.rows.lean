/-! the judgement z_V, its context, the contract z_M -/
abbrev z_G : Type := Launch × va_G × (Nat → ClassId)
abbrev z_X := Program × Launch × Env × Room × State × MethodId × Array Value × List Frame × Method × Code × (State → Prop) × va_G × (Nat → ClassId) × (Nat → Prop) × Heap × (z_T → Prop) × (z_T → Prop) × (z_T → Nat) × Nat × Nat × Nat
abbrev x_p (X : z_X) := X.1
abbrev x_l (X : z_X) := X.2.1
abbrev x_e (X : z_X) := X.2.2.1
abbrev x_R (X : z_X) := X.2.2.2.1
abbrev x_s (X : z_X) := X.2.2.2.2.1
abbrev x_m (X : z_X) := X.2.2.2.2.2.1
abbrev x_a (X : z_X) := X.2.2.2.2.2.2.1
abbrev x_b (X : z_X) := X.2.2.2.2.2.2.2.1
abbrev x_me (X : z_X) := X.2.2.2.2.2.2.2.2.1
abbrev x_c (X : z_X) := X.2.2.2.2.2.2.2.2.2.1
abbrev x_Q (X : z_X) := X.2.2.2.2.2.2.2.2.2.2.1
abbrev x_D (X : z_X) := X.2.2.2.2.2.2.2.2.2.2.2.1
abbrev x_dA (X : z_X) := X.2.2.2.2.2.2.2.2.2.2.2.2.1
abbrev x_A (X : z_X) := X.2.2.2.2.2.2.2.2.2.2.2.2.2.1
abbrev x_H0 (X : z_X) := X.2.2.2.2.2.2.2.2.2.2.2.2.2.2.1
abbrev x_P0 (X : z_X) := X.2.2.2.2.2.2.2.2.2.2.2.2.2.2.2.1
abbrev x_E0 (X : z_X) := X.2.2.2.2.2.2.2.2.2.2.2.2.2.2.2.2.1
abbrev x_ad (X : z_X) := X.2.2.2.2.2.2.2.2.2.2.2.2.2.2.2.2.2.1
abbrev x_n (X : z_X) := X.2.2.2.2.2.2.2.2.2.2.2.2.2.2.2.2.2.2.1
abbrev x_mc (X : z_X) := X.2.2.2.2.2.2.2.2.2.2.2.2.2.2.2.2.2.2.2.1
abbrev x_ms (X : z_X) := X.2.2.2.2.2.2.2.2.2.2.2.2.2.2.2.2.2.2.2.2
abbrev x_G (X : z_X) : z_G := (x_l X, x_D X, x_dA X)
def z_W (X : z_X) (H : Heap) (locs : List Loc) (cells slots pc : Nat) (ls : Array Slot) (st : List Value) : Prop := W (x_p X) (x_l X) (x_e X) (x_R X) (x_s X) (x_m X) (x_a X) (x_b X) (x_me X) (x_c X) H locs cells slots (x_Q X) (F0 (x_m X) pc ls st)
def z_at (X : z_X) (ad : z_T → Nat) (ts : List z_T) (H : Heap) (locs : List Loc) (ls : Array Slot) (cells slots kC kS : Nat) (w : z_w) (L : List (Nat × z_v)) (st : List z_v) : Prop :=
  (∀ t, x_P0 X t → ad t = x_ad X t) ∧ z_St (x_D X) (x_dA X) (x_A X) ad w ts H ∧ va_S (x_A X) (x_H0 X) H locs ∧ (∀ t, x_P0 X t → w t ≠ none ∨ x_E0 X t) ∧ z_okl (x_E0 X) w L ∧ z_oks (x_E0 X) w st ∧ lv_has ls (x_n X) (L.map (fun q => (q.1, z_cv ad q.2))) ∧ cells + kC ≤ x_mc X ∧ slots + kS ≤ x_ms X
def z_V (X : z_X) (kC kS : Nat) (w : z_w) (pc : Nat) (L : List (Nat × z_v)) (st : List z_v) : Prop :=
  ∀ (ad : z_T → Nat) (ts : List z_T) (H : Heap) (locs : List Loc) (ls : Array Slot) (cells slots : Nat), z_at X ad ts H locs ls cells slots kC kS w L st → z_W X H locs cells slots pc ls (st.map (z_cv ad))
def z_nest : Cond → Bool
  | .fieldLinkNest .. => true
  | .methodLinkNest .. => true
  | .arrayOver (.object _) => true
  | _ => false
def z_tys (dA : Nat → ClassId) : List (ClassId × FieldType) := [(dA 0, z_kt 0), (dA 1, z_kt 1), (dA 2, z_kt 2), (dA 3, z_kt 3), (dA 4, z_kt 4), (dA 5, z_kt 5)]
/-- what the tables say, and which class has which number -/
def z_K (D : va_G) (dA : Nat → ClassId) (U : State) : Prop := va_K D vwCl (z_tys dA) U ∧ (∀ w ∈ lw_tbl, goodWord w = true → ∀ a, w.before a U = true) ∧ ∀ w ∈ lw_tbl, z_nest w = true → w.before #[] U = true
theorem z_nest_moved {w : Cond} (hn : z_nest w = true) {s U : State} (hW : s.WarmedH U.vm) (h : w.before #[] s = true) : w.before #[] U = true := by
  match w, hn, h with
  | .fieldLinkNest a i b n d hh, _, h => exact va_Nw.warmF hW h
  | .methodLinkNest a i x hh, _, h => exact va_Nw.warmM hW h
  | .arrayOver (.object C), _, h => exact va_AO.moved (u := s) hW.alike h
theorem z_K.moved {D : va_G} {dA : Nat → ClassId} {s U : State} (hW : s.WarmedH U.vm) (h : z_K D dA s) : z_K D dA U :=
  ⟨va_K.moved hW.alike h.1, fun w hw hg a => word_at hW (good_of_word hg) (h.2.1 w hw hg #[]), fun w hw hn => z_nest_moved hn hW (h.2.2 w hw hn)⟩
theorem z_K.same {D : va_G} {dA : Nat → ClassId} {s U : State} (hvm : U.vm = s.vm) (h : z_K D dA s) : z_K D dA U := z_K.moved (by rw [hvm]; exact State.WarmedH.refl s) h
def z_rm (d mc ms : Nat) : Room := { frames := d, cells := mc, slots := ms, locals := 100 * d }
/-- the cells that a method may write: its world's, and those that it makes -/
def z_fre (w : z_w) (ad : z_T → Nat) (sz : Nat) : Addr → Prop := fun q => (∃ t, w t ≠ none ∧ ad t = q) ∨ sz ≤ q
def z_Qc (D : va_G) (dA : Nat → ClassId) (ad : z_T → Nat) (w : z_w) (sz : Nat) (Po : Option z_v → z_w → Prop) : Array Value → State → Outcome → State → Prop := fun _ st o t =>
  (∃ (r : Option z_v) (w' : z_w) (ad' : z_T → Nat) (ts' : List z_T), o = .returned (r.map (z_cv ad')) ∧ Po r w' ∧ z_oks (fun _ => False) w' r.toList ∧ z_St D dA (z_fre w ad sz) ad' w' ts' t.heap ∧ ∀ q, w q ≠ none → w' q ≠ none ∧ ad' q = ad q) ∧ va_F (z_fre w ad sz) st t
/-- a method's contract: from the world w, with these arguments, it comes to an answer and a world with Po; it makes at most mc cells of ms slots -/
def z_M (G : z_G) (y : MethodName) (cc : ByteArray) (nL : Nat) (ret : Option FieldType) (d mc ms : Nat) (args : List z_v) (w : z_w) (Po : Option z_v → z_w → Prop) : Prop :=
  ∀ (ad : z_T → Nat) (ts : List z_T) (sz : Nat), Met G.1 y [.code y cc nL ret] (z_rm d mc ms) (va_Pc (args.map (z_cv ad)) (fun U => U.heap.size = sz ∧ z_oks (fun _ => False) w args ∧ z_St G.2.1 G.2.2 (fun _ => True) ad w ts U.heap ∧ z_K G.2.1 G.2.2 U)) (z_Qc G.2.1 G.2.2 ad w sz Po) mc ms (z_fre w ad sz)
theorem z_M.imp {G : z_G} {y : MethodName} {cc : ByteArray} {nL : Nat} {ret : Option FieldType} {d mc ms : Nat} {args : List z_v} {w : z_w} {Po Po' : Option z_v → z_w → Prop} (h : z_M G y cc nL ret d mc ms args w Po) (hi : ∀ r w', Po r w' → Po' r w') : z_M G y cc nL ret d mc ms args w Po' := by
  intro ad ts sz p e ha hc hk s m a below hf happ hpre hb
  obtain ⟨k, o, h1, h2, h3, ⟨⟨r, w', ad', ts', e1, e2, e3⟩, e4⟩, h5⟩ := h ad ts sz p e ha hc hk s m a below hf happ hpre hb
  exact ⟨k, o, h1, h2, h3, ⟨⟨r, w', ad', ts', e1, hi _ _ e2, e3⟩, e4⟩, h5⟩
/-- what every row needs of the context -/
def z_H (X : z_X) (cc : ByteArray) (own : String) (d : Nat) : Prop :=
  (x_p X).tables.exec = Jvm.exec ∧ (x_c X).code = cc ∧ (x_s X).vm.findClass own = some (x_m X).cls ∧ z_K (x_D X) (x_dA X) (x_s X) ∧ ((x_R X).cells = x_mc X ∧ (x_R X).slots = x_ms X ∧ d ≤ (x_R X).frames ∧ 100 * d ≤ (x_R X).locals ∧ 1 ≤ d) ∧ (∀ q, (x_H0 X).size ≤ q → x_A X q) ∧ (x_c X).maxLocals = x_n X
section ZR
variable {X : z_X} {cc : ByteArray} {own : String} {d kC kS : Nat} {w : z_w} {pc : Nat} {L : List (Nat × z_v)} {st : List z_v}
theorem z_H.ts (h : z_H X cc own d) : ∀ w ∈ lw_tbl.filter goodWord, w.before (x_a X) (x_s X) = true := fun w hw => h.2.2.2.1.2.1 w (List.mem_filter.mp hw).1 (List.mem_filter.mp hw).2 _
theorem z_H.word (h : z_H X cc own d) {w : Cond} (hw : w ∈ lw_tbl) (hg : goodWord w = true) : w.before (x_a X) (x_s X) = true := h.2.2.2.1.2.1 w hw hg _
/-- fewer is needed further on -/
theorem z_less {kC' kS' : Nat} (h1 : kC' ≤ kC) (h2 : kS' ≤ kS) (k : z_V X kC' kS' w pc L st) : z_V X kC kS w pc L st := fun ad ts H locs ls cells slots ⟨a1, a2, a3, a4, a5, a6, a7, a8, a9⟩ => k ad ts H locs ls cells slots ⟨a1, a2, a3, a4, a5, a6, a7, Nat.le_trans (Nat.add_le_add_left h1 _) a8, Nat.le_trans (Nat.add_le_add_left h2 _) a9⟩
theorem z_beq (a b : Nat) : Nat.beq a b = decide (a = b) := by
  by_cases h : a = b
  · subst h; simp
  · rw [decide_eq_false h]
    cases e : Nat.beq a b with
    | false => rfl
    | true => exact absurd (Nat.eq_of_beq_eq_true e) h
def z_lk : List (Nat × z_v) → Nat → Option z_v
  | [], _ => none
  | q :: r, i => bif Nat.beq q.1 i then some q.2 else z_lk r i
def z_c2 : z_v → Bool
  | .inr (.inl _) => true
  | _ => false
def z_rm1 (i : Nat) (L : List (Nat × z_v)) : List (Nat × z_v) := L.filter (fun q => !(Nat.beq q.1 i) && !(Nat.beq (q.1 + 1) i && z_c2 q.2))
def z_rm2 (i : Nat) (L : List (Nat × z_v)) : List (Nat × z_v) := L.filter (fun q => !(Nat.beq q.1 i) && (!(Nat.beq q.1 (i + 1)) && !(Nat.beq (q.1 + 1) i && z_c2 q.2)))
theorem z_lk_mem : ∀ {L : List (Nat × z_v)} {i : Nat} {v : z_v}, z_lk L i = some v → (i, v) ∈ L
  | [], _, _, h => by cases h
  | q :: r, i, v, h => by
    by_cases e : q.1 = i
    · subst e
      have : z_lk (q :: r) q.1 = some q.2 := by simp [z_lk]
      rw [this] at h
      cases h
      exact List.mem_cons_self
    · have : z_lk (q :: r) i = z_lk r i := by simp [z_lk, z_beq, e]
      rw [this] at h
      exact List.mem_cons_of_mem _ (z_lk_mem h)
theorem z_cat (ad : z_T → Nat) (v : z_v) : (z_cv ad v).category = if z_c2 v = true then 2 else 1 := by
  match v with
  | .inl _ => rfl
  | .inr (.inl _) => rfl
  | .inr (.inr none) => rfl
  | .inr (.inr (some t)) => rfl
theorem lv_has_sub {ls : Array Slot} {n : Nat} {l l' : List (Nat × Value)} (h : lv_has ls n l) (hs : ∀ q ∈ l', q ∈ l) : lv_has ls n l' := ⟨h.1, h.2.1, fun q hq => h.2.2 q (hs q hq)⟩
theorem z_mapmem {ad : z_T → Nat} {i : Nat} {v : z_v} (h : (i, v) ∈ L) : (i, z_cv ad v) ∈ L.map (fun q => (q.1, z_cv ad q.2)) := List.mem_map.mpr ⟨(i, v), h, rfl⟩
theorem z_put1 {ad : z_T → Nat} {ls : Array Slot} {i : Nat} {v : z_v} (h : lv_has ls (x_n X) ((i, z_cv ad v) :: (L.map (fun q => (q.1, z_cv ad q.2))).filter (fun q => !(q.1 == i) && !(q.1 + 1 == i && q.2.category == 2)))) : lv_has ls (x_n X) (((i, v) :: z_rm1 i L).map (fun q => (q.1, z_cv ad q.2))) := by
  refine lv_has_sub h fun q hq => ?_
  obtain ⟨r, hr, rfl⟩ := List.mem_map.mp hq
  rcases List.mem_cons.mp hr with rfl | hr
  · exact List.mem_cons_self
  · refine List.mem_cons_of_mem _ (List.mem_filter.mpr ⟨List.mem_map.mpr ⟨r, (List.mem_filter.mp hr).1, rfl⟩, ?_⟩)
    have := (List.mem_filter.mp hr).2
    simp only [z_beq] at this
    simp only [z_cat]
    by_cases hc : z_c2 r.2 = true <;> simp_all
theorem z_put2 {ad : z_T → Nat} {ls : Array Slot} {i : Nat} {v : z_v} (h : lv_has ls (x_n X) ((i, z_cv ad v) :: (L.map (fun q => (q.1, z_cv ad q.2))).filter (fun q => !(q.1 == i) && (!(q.1 == i + 1) && !(q.1 + 1 == i && q.2.category == 2))))) : lv_has ls (x_n X) (((i, v) :: z_rm2 i L).map (fun q => (q.1, z_cv ad q.2))) := by
  refine lv_has_sub h fun q hq => ?_
  obtain ⟨r, hr, rfl⟩ := List.mem_map.mp hq
  rcases List.mem_cons.mp hr with rfl | hr
  · exact List.mem_cons_self
  · refine List.mem_cons_of_mem _ (List.mem_filter.mpr ⟨List.mem_map.mpr ⟨r, (List.mem_filter.mp hr).1, rfl⟩, ?_⟩)
    have := (List.mem_filter.mp hr).2
    simp only [z_beq] at this
    simp only [z_cat]
    by_cases hc : z_c2 r.2 = true <;> simp_all
theorem z_okl_put {E0 : z_T → Prop} {i : Nat} {v : z_v} {f : Nat × z_v → Bool} (h : z_okl E0 w L) (hv : z_okv E0 w v) : z_okl E0 w ((i, v) :: L.filter f) := fun q hq => by
  rcases List.mem_cons.mp hq with rfl | hq
  · exact hv
  · exact h q (List.mem_filter.mp hq).1
/-- other locals: those that are there under these numbers -/
def z_subl (L : List (Nat × z_v)) : List (Nat × z_v) → Prop
  | [] => True
  | q :: r => z_lk L q.1 = some q.2 ∧ z_subl L r
theorem z_subl_mem {L : List (Nat × z_v)} : ∀ {L' : List (Nat × z_v)}, z_subl L L' → ∀ q ∈ L', q ∈ L
  | [], _, q, h => by cases h
  | a :: r, h, q, hq => by
    rcases List.mem_cons.mp hq with rfl | hq
    · exact z_lk_mem h.1
    · exact z_subl_mem h.2 q hq
theorem z_loc (L' : List (Nat × z_v)) (hs : z_subl L L') (k : z_V X kC kS w pc L' st) : z_V X kC kS w pc L st := fun ad ts H locs ls cells slots ⟨h1, h2, h3, h4, h5, h6, h7, h8⟩ =>
  k ad ts H locs ls cells slots ⟨h1, h2, h3, h4, fun q hq => h5 q (z_subl_mem hs q hq), h6, lv_has_sub h7 (fun q hq => by obtain ⟨r, hr, rfl⟩ := List.mem_map.mp hq; exact List.mem_map.mpr ⟨r, z_subl_mem hs r hr, rfl⟩), h8⟩
/-- the world by an equal one -/
theorem z_weq {w' : z_w} (e : w = w') (k : z_V X kC kS w' pc L st) : z_V X kC kS w pc L st := e ▸ k
theorem z_pc {pc' : Nat} (e : pc = pc') (k : z_V X kC kS w pc' L st) : z_V X kC kS w pc L st := e ▸ k
theorem z_iconst {n : Int} {v : Int32} (h : z_H X cc own d) (hd : decode cc pc = .ok (.iconst n, 1)) (hv : Int32.ofInt n = v) (k : z_V X kC kS w (pc + 1) L (vi v :: st)) : z_V X kC kS w pc L (st) := fun ad ts H locs ls cells slots ⟨h1, h2, h3, h4, h5, h6, h7, h8⟩ =>
  lv_iconst h.1 h.2.1 hd hv (k ad ts H locs ls cells slots ⟨h1, h2, h3, h4, h5, ⟨trivial, h6⟩, h7, h8⟩)
theorem z_bipush {n : Int} {v : Int32} (h : z_H X cc own d) (hd : decode cc pc = .ok (.bipush n, 2)) (hv : (Int8.ofInt n).toInt32 = v) (k : z_V X kC kS w (pc + 2) L (vi v :: st)) : z_V X kC kS w pc L (st) := fun ad ts H locs ls cells slots ⟨h1, h2, h3, h4, h5, h6, h7, h8⟩ =>
  lv_bipush h.1 h.2.1 hd hv (k ad ts H locs ls cells slots ⟨h1, h2, h3, h4, h5, ⟨trivial, h6⟩, h7, h8⟩)
theorem z_sipush {n : Int} {v : Int32} (h : z_H X cc own d) (hd : decode cc pc = .ok (.sipush n, 3)) (hv : (Int16.ofInt n).toInt32 = v) (k : z_V X kC kS w (pc + 3) L (vi v :: st)) : z_V X kC kS w pc L (st) := fun ad ts H locs ls cells slots ⟨h1, h2, h3, h4, h5, h6, h7, h8⟩ =>
  lv_sipush h.1 h.2.1 hd hv (k ad ts H locs ls cells slots ⟨h1, h2, h3, h4, h5, ⟨trivial, h6⟩, h7, h8⟩)
theorem z_lconst {n : Fin 2} {v : Int64} (h : z_H X cc own d) (hd : decode cc pc = .ok (.lconst n, 1)) (hv : Int64.ofNat (n : Nat) = v) (k : z_V X kC kS w (pc + 1) L (vl v :: st)) : z_V X kC kS w pc L (st) := fun ad ts H locs ls cells slots ⟨h1, h2, h3, h4, h5, h6, h7, h8⟩ =>
  lv_lconst h.1 h.2.1 hd hv (k ad ts H locs ls cells slots ⟨h1, h2, h3, h4, h5, ⟨trivial, h6⟩, h7, h8⟩)
theorem z_null (h : z_H X cc own d) (hd : decode cc pc = .ok (.aconst_null, 1)) (k : z_V X kC kS w (pc + 1) L (vn :: st)) : z_V X kC kS w pc L (st) := fun ad ts H locs ls cells slots ⟨h1, h2, h3, h4, h5, h6, h7, h8⟩ =>
  lv_null h.1 h.2.1 hd (k ad ts H locs ls cells slots ⟨h1, h2, h3, h4, h5, ⟨trivial, h6⟩, h7, h8⟩)
theorem z_iload_n {j : Fin 4} {x : Int32} (h : z_H X cc own d) (hd : decode cc pc = .ok (.iload_n j, 1)) (hl : z_lk L (j : Nat) = some (vi x)) (k : z_V X kC kS w (pc + 1) L (vi x :: st)) : z_V X kC kS w pc L (st) := fun ad ts H locs ls cells slots ⟨h1, h2, h3, h4, h5, h6, h7, h8⟩ =>
  lv_iload_n h.1 h.2.1 hd rfl (h7.2.2 _ (z_mapmem (z_lk_mem hl))) (k ad ts H locs ls cells slots ⟨h1, h2, h3, h4, h5, ⟨trivial, h6⟩, h7, h8⟩)
theorem z_iload {j : Nat} {x : Int32} (h : z_H X cc own d) (hd : decode cc pc = .ok (.iload j, 2)) (hl : z_lk L j = some (vi x)) (k : z_V X kC kS w (pc + 2) L (vi x :: st)) : z_V X kC kS w pc L (st) := fun ad ts H locs ls cells slots ⟨h1, h2, h3, h4, h5, h6, h7, h8⟩ =>
  lv_iload h.1 h.2.1 hd (h7.2.2 _ (z_mapmem (z_lk_mem hl))) (k ad ts H locs ls cells slots ⟨h1, h2, h3, h4, h5, ⟨trivial, h6⟩, h7, h8⟩)
theorem z_lload_n {j : Fin 4} {x : Int64} (h : z_H X cc own d) (hd : decode cc pc = .ok (.lload_n j, 1)) (hl : z_lk L (j : Nat) = some (vl x)) (k : z_V X kC kS w (pc + 1) L (vl x :: st)) : z_V X kC kS w pc L (st) := fun ad ts H locs ls cells slots ⟨h1, h2, h3, h4, h5, h6, h7, h8⟩ =>
  lv_lload_n h.1 h.2.1 hd rfl (h7.2.2 _ (z_mapmem (z_lk_mem hl))) (k ad ts H locs ls cells slots ⟨h1, h2, h3, h4, h5, ⟨trivial, h6⟩, h7, h8⟩)
theorem z_lload {j : Nat} {x : Int64} (h : z_H X cc own d) (hd : decode cc pc = .ok (.lload j, 2)) (hl : z_lk L j = some (vl x)) (k : z_V X kC kS w (pc + 2) L (vl x :: st)) : z_V X kC kS w pc L (st) := fun ad ts H locs ls cells slots ⟨h1, h2, h3, h4, h5, h6, h7, h8⟩ =>
  lv_lload h.1 h.2.1 hd (h7.2.2 _ (z_mapmem (z_lk_mem hl))) (k ad ts H locs ls cells slots ⟨h1, h2, h3, h4, h5, ⟨trivial, h6⟩, h7, h8⟩)
theorem z_aload_n {j : Fin 4} {t : z_T} (h : z_H X cc own d) (hd : decode cc pc = .ok (.aload_n j, 1)) (hl : z_lk L (j : Nat) = some (vr t)) (k : z_V X kC kS w (pc + 1) L (vr t :: st)) : z_V X kC kS w pc L (st) := fun ad ts H locs ls cells slots ⟨h1, h2, h3, h4, h5, h6, h7, h8⟩ =>
  lv_aload_n h.1 h.2.1 hd rfl (h7.2.2 _ (z_mapmem (z_lk_mem hl))) (k ad ts H locs ls cells slots ⟨h1, h2, h3, h4, h5, ⟨h5 _ (z_lk_mem hl), h6⟩, h7, h8⟩)
theorem z_aload {j : Nat} {t : z_T} (h : z_H X cc own d) (hd : decode cc pc = .ok (.aload j, 2)) (hl : z_lk L j = some (vr t)) (k : z_V X kC kS w (pc + 2) L (vr t :: st)) : z_V X kC kS w pc L (st) := fun ad ts H locs ls cells slots ⟨h1, h2, h3, h4, h5, h6, h7, h8⟩ =>
  lv_aload h.1 h.2.1 hd (h7.2.2 _ (z_mapmem (z_lk_mem hl))) (k ad ts H locs ls cells slots ⟨h1, h2, h3, h4, h5, ⟨h5 _ (z_lk_mem hl), h6⟩, h7, h8⟩)
theorem z_aload_nN {j : Fin 4} (h : z_H X cc own d) (hd : decode cc pc = .ok (.aload_n j, 1)) (hl : z_lk L (j : Nat) = some vn) (k : z_V X kC kS w (pc + 1) L (vn :: st)) : z_V X kC kS w pc L (st) := fun ad ts H locs ls cells slots ⟨h1, h2, h3, h4, h5, h6, h7, h8⟩ =>
  lv_aload_nN h.1 h.2.1 hd rfl (h7.2.2 _ (z_mapmem (z_lk_mem hl))) (k ad ts H locs ls cells slots ⟨h1, h2, h3, h4, h5, ⟨trivial, h6⟩, h7, h8⟩)
theorem z_aloadN {j : Nat} (h : z_H X cc own d) (hd : decode cc pc = .ok (.aload j, 2)) (hl : z_lk L j = some vn) (k : z_V X kC kS w (pc + 2) L (vn :: st)) : z_V X kC kS w pc L (st) := fun ad ts H locs ls cells slots ⟨h1, h2, h3, h4, h5, h6, h7, h8⟩ =>
  lv_aloadN h.1 h.2.1 hd (h7.2.2 _ (z_mapmem (z_lk_mem hl))) (k ad ts H locs ls cells slots ⟨h1, h2, h3, h4, h5, ⟨trivial, h6⟩, h7, h8⟩)
theorem z_istore_n {j : Fin 4} {x : Int32} (h : z_H X cc own d) (hd : decode cc pc = .ok (.istore_n j, 1)) (hn : (j : Nat) < x_n X) (k : z_V X kC kS w (pc + 1) (((j : Nat), vi x) :: z_rm1 (j : Nat) L) st) : z_V X kC kS w pc L (vi x :: st) := fun ad ts H locs ls cells slots ⟨h1, h2, h3, h4, h5, h6, h7, h8⟩ =>
  lv_istore_n h.1 h.2.1 hd rfl h7 hn rfl (fun ls' h' => k ad ts H locs ls' cells slots ⟨h1, h2, h3, h4, z_okl_put h5 h6.1, h6.2, z_put1 h', h8⟩)
theorem z_istore {j : Nat} {x : Int32} (h : z_H X cc own d) (hd : decode cc pc = .ok (.istore j, 2)) (hn : j < x_n X) (k : z_V X kC kS w (pc + 2) ((j, vi x) :: z_rm1 j L) st) : z_V X kC kS w pc L (vi x :: st) := fun ad ts H locs ls cells slots ⟨h1, h2, h3, h4, h5, h6, h7, h8⟩ =>
  lv_istore h.1 h.2.1 hd h7 hn rfl (fun ls' h' => k ad ts H locs ls' cells slots ⟨h1, h2, h3, h4, z_okl_put h5 h6.1, h6.2, z_put1 h', h8⟩)
theorem z_lstore_n {j : Fin 4} {x : Int64} (h : z_H X cc own d) (hd : decode cc pc = .ok (.lstore_n j, 1)) (hn : (j : Nat) + 1 < x_n X) (k : z_V X kC kS w (pc + 1) (((j : Nat), vl x) :: z_rm2 (j : Nat) L) st) : z_V X kC kS w pc L (vl x :: st) := fun ad ts H locs ls cells slots ⟨h1, h2, h3, h4, h5, h6, h7, h8⟩ =>
  lv_lstore_n h.1 h.2.1 hd rfl h7 hn rfl (fun ls' h' => k ad ts H locs ls' cells slots ⟨h1, h2, h3, h4, z_okl_put h5 h6.1, h6.2, z_put2 h', h8⟩)
theorem z_lstore {j : Nat} {x : Int64} (h : z_H X cc own d) (hd : decode cc pc = .ok (.lstore j, 2)) (hn : j + 1 < x_n X) (k : z_V X kC kS w (pc + 2) ((j, vl x) :: z_rm2 j L) st) : z_V X kC kS w pc L (vl x :: st) := fun ad ts H locs ls cells slots ⟨h1, h2, h3, h4, h5, h6, h7, h8⟩ =>
  lv_lstore h.1 h.2.1 hd h7 hn rfl (fun ls' h' => k ad ts H locs ls' cells slots ⟨h1, h2, h3, h4, z_okl_put h5 h6.1, h6.2, z_put2 h', h8⟩)
theorem z_astore_n {j : Fin 4} {t : z_T} (h : z_H X cc own d) (hd : decode cc pc = .ok (.astore_n j, 1)) (hn : (j : Nat) < x_n X) (k : z_V X kC kS w (pc + 1) (((j : Nat), vr t) :: z_rm1 (j : Nat) L) st) : z_V X kC kS w pc L (vr t :: st) := fun ad ts H locs ls cells slots ⟨h1, h2, h3, h4, h5, h6, h7, h8⟩ =>
  lv_astore_n h.1 h.2.1 hd rfl h7 hn rfl (fun ls' h' => k ad ts H locs ls' cells slots ⟨h1, h2, h3, h4, z_okl_put h5 h6.1, h6.2, z_put1 h', h8⟩)
theorem z_astore {j : Nat} {t : z_T} (h : z_H X cc own d) (hd : decode cc pc = .ok (.astore j, 2)) (hn : j < x_n X) (k : z_V X kC kS w (pc + 2) ((j, vr t) :: z_rm1 j L) st) : z_V X kC kS w pc L (vr t :: st) := fun ad ts H locs ls cells slots ⟨h1, h2, h3, h4, h5, h6, h7, h8⟩ =>
  lv_astore h.1 h.2.1 hd h7 hn rfl (fun ls' h' => k ad ts H locs ls' cells slots ⟨h1, h2, h3, h4, z_okl_put h5 h6.1, h6.2, z_put1 h', h8⟩)
theorem z_astore_nN {j : Fin 4} (h : z_H X cc own d) (hd : decode cc pc = .ok (.astore_n j, 1)) (hn : (j : Nat) < x_n X) (k : z_V X kC kS w (pc + 1) (((j : Nat), vn) :: z_rm1 (j : Nat) L) st) : z_V X kC kS w pc L (vn :: st) := fun ad ts H locs ls cells slots ⟨h1, h2, h3, h4, h5, h6, h7, h8⟩ =>
  lv_astore_nN h.1 h.2.1 hd rfl h7 hn rfl (fun ls' h' => k ad ts H locs ls' cells slots ⟨h1, h2, h3, h4, z_okl_put h5 h6.1, h6.2, z_put1 h', h8⟩)
theorem z_astoreN {j : Nat} (h : z_H X cc own d) (hd : decode cc pc = .ok (.astore j, 2)) (hn : j < x_n X) (k : z_V X kC kS w (pc + 2) ((j, vn) :: z_rm1 j L) st) : z_V X kC kS w pc L (vn :: st) := fun ad ts H locs ls cells slots ⟨h1, h2, h3, h4, h5, h6, h7, h8⟩ =>
  lv_astoreN h.1 h.2.1 hd h7 hn rfl (fun ls' h' => k ad ts H locs ls' cells slots ⟨h1, h2, h3, h4, z_okl_put h5 h6.1, h6.2, z_put1 h', h8⟩)
theorem z_iinc {j : Nat} {n : Int} {x v : Int32} (h : z_H X cc own d) (hd : decode cc pc = .ok (.iinc j n, 3)) (hl : z_lk L j = some (vi x)) (hv : Int32.ofInt n = v) (hn : j < x_n X) (k : z_V X kC kS w (pc + 3) ((j, vi (x + v)) :: z_rm1 j L) st) : z_V X kC kS w pc L st := fun ad ts H locs ls cells slots ⟨h1, h2, h3, h4, h5, h6, h7, h8⟩ => by
  obtain ⟨i, hi⟩ := List.getElem?_of_mem (z_mapmem (ad := ad) (z_lk_mem hl))
  exact lv_iinc h.1 h.2.1 hd h7 hi (by rw [hv]) hn rfl (fun ls' h' => k ad ts H locs ls' cells slots ⟨h1, h2, h3, h4, z_okl_put h5 trivial, h6, z_put1 h', h8⟩)
theorem z_iadd {x y : Int32} (h : z_H X cc own d) (hd : decode cc pc = .ok (.iadd, 1)) (k : z_V X kC kS w (pc + 1) L (vi (x + y) :: st)) : z_V X kC kS w pc L (vi y :: vi x :: st) := fun ad ts H locs ls cells slots ⟨h1, h2, h3, h4, h5, h6, h7, h8⟩ =>
  lv_iadd h.1 h.2.1 hd (k ad ts H locs ls cells slots ⟨h1, h2, h3, h4, h5, ⟨trivial, h6.2.2⟩, h7, h8⟩)
theorem z_isub {x y : Int32} (h : z_H X cc own d) (hd : decode cc pc = .ok (.isub, 1)) (k : z_V X kC kS w (pc + 1) L (vi (x - y) :: st)) : z_V X kC kS w pc L (vi y :: vi x :: st) := fun ad ts H locs ls cells slots ⟨h1, h2, h3, h4, h5, h6, h7, h8⟩ =>
  lv_isub h.1 h.2.1 hd (k ad ts H locs ls cells slots ⟨h1, h2, h3, h4, h5, ⟨trivial, h6.2.2⟩, h7, h8⟩)
theorem z_imul {x y : Int32} (h : z_H X cc own d) (hd : decode cc pc = .ok (.imul, 1)) (k : z_V X kC kS w (pc + 1) L (vi (x * y) :: st)) : z_V X kC kS w pc L (vi y :: vi x :: st) := fun ad ts H locs ls cells slots ⟨h1, h2, h3, h4, h5, h6, h7, h8⟩ =>
  lv_imul h.1 h.2.1 hd (k ad ts H locs ls cells slots ⟨h1, h2, h3, h4, h5, ⟨trivial, h6.2.2⟩, h7, h8⟩)
theorem z_iand {x y : Int32} (h : z_H X cc own d) (hd : decode cc pc = .ok (.iand, 1)) (k : z_V X kC kS w (pc + 1) L (vi (x &&& y) :: st)) : z_V X kC kS w pc L (vi y :: vi x :: st) := fun ad ts H locs ls cells slots ⟨h1, h2, h3, h4, h5, h6, h7, h8⟩ =>
  lv_iand h.1 h.2.1 hd (k ad ts H locs ls cells slots ⟨h1, h2, h3, h4, h5, ⟨trivial, h6.2.2⟩, h7, h8⟩)
theorem z_ior {x y : Int32} (h : z_H X cc own d) (hd : decode cc pc = .ok (.ior, 1)) (k : z_V X kC kS w (pc + 1) L (vi (x ||| y) :: st)) : z_V X kC kS w pc L (vi y :: vi x :: st) := fun ad ts H locs ls cells slots ⟨h1, h2, h3, h4, h5, h6, h7, h8⟩ =>
  lv_ior h.1 h.2.1 hd (k ad ts H locs ls cells slots ⟨h1, h2, h3, h4, h5, ⟨trivial, h6.2.2⟩, h7, h8⟩)
theorem z_ixor {x y : Int32} (h : z_H X cc own d) (hd : decode cc pc = .ok (.ixor, 1)) (k : z_V X kC kS w (pc + 1) L (vi (x ^^^ y) :: st)) : z_V X kC kS w pc L (vi y :: vi x :: st) := fun ad ts H locs ls cells slots ⟨h1, h2, h3, h4, h5, h6, h7, h8⟩ =>
  lv_ixor h.1 h.2.1 hd (k ad ts H locs ls cells slots ⟨h1, h2, h3, h4, h5, ⟨trivial, h6.2.2⟩, h7, h8⟩)
theorem z_ladd {x y : Int64} (h : z_H X cc own d) (hd : decode cc pc = .ok (.ladd, 1)) (k : z_V X kC kS w (pc + 1) L (vl (x + y) :: st)) : z_V X kC kS w pc L (vl y :: vl x :: st) := fun ad ts H locs ls cells slots ⟨h1, h2, h3, h4, h5, h6, h7, h8⟩ =>
  lv_ladd h.1 h.2.1 hd (k ad ts H locs ls cells slots ⟨h1, h2, h3, h4, h5, ⟨trivial, h6.2.2⟩, h7, h8⟩)
theorem z_lsub {x y : Int64} (h : z_H X cc own d) (hd : decode cc pc = .ok (.lsub, 1)) (k : z_V X kC kS w (pc + 1) L (vl (x - y) :: st)) : z_V X kC kS w pc L (vl y :: vl x :: st) := fun ad ts H locs ls cells slots ⟨h1, h2, h3, h4, h5, h6, h7, h8⟩ =>
  lv_lsub h.1 h.2.1 hd (k ad ts H locs ls cells slots ⟨h1, h2, h3, h4, h5, ⟨trivial, h6.2.2⟩, h7, h8⟩)
theorem z_lmul {x y : Int64} (h : z_H X cc own d) (hd : decode cc pc = .ok (.lmul, 1)) (k : z_V X kC kS w (pc + 1) L (vl (x * y) :: st)) : z_V X kC kS w pc L (vl y :: vl x :: st) := fun ad ts H locs ls cells slots ⟨h1, h2, h3, h4, h5, h6, h7, h8⟩ =>
  lv_lmul h.1 h.2.1 hd (k ad ts H locs ls cells slots ⟨h1, h2, h3, h4, h5, ⟨trivial, h6.2.2⟩, h7, h8⟩)
theorem z_idiv {x y : Int32} (h : z_H X cc own d) (hd : decode cc pc = .ok (.idiv, 1)) (hne : ¬ y = 0) (k : z_V X kC kS w (pc + 1) L (vi (x / y) :: st)) : z_V X kC kS w pc L (vi y :: vi x :: st) := fun ad ts H locs ls cells slots ⟨h1, h2, h3, h4, h5, h6, h7, h8⟩ =>
  lv_idiv h.1 h.2.1 hd hne (k ad ts H locs ls cells slots ⟨h1, h2, h3, h4, h5, ⟨trivial, h6.2.2⟩, h7, h8⟩)
theorem z_irem {x y : Int32} (h : z_H X cc own d) (hd : decode cc pc = .ok (.irem, 1)) (hne : ¬ y = 0) (k : z_V X kC kS w (pc + 1) L (vi (x - x / y * y) :: st)) : z_V X kC kS w pc L (vi y :: vi x :: st) := fun ad ts H locs ls cells slots ⟨h1, h2, h3, h4, h5, h6, h7, h8⟩ =>
  lv_irem h.1 h.2.1 hd hne (k ad ts H locs ls cells slots ⟨h1, h2, h3, h4, h5, ⟨trivial, h6.2.2⟩, h7, h8⟩)
theorem z_ldiv {x y : Int64} (h : z_H X cc own d) (hd : decode cc pc = .ok (.ldiv, 1)) (hne : ¬ y = 0) (k : z_V X kC kS w (pc + 1) L (vl (x / y) :: st)) : z_V X kC kS w pc L (vl y :: vl x :: st) := fun ad ts H locs ls cells slots ⟨h1, h2, h3, h4, h5, h6, h7, h8⟩ =>
  lv_ldiv h.1 h.2.1 hd hne (k ad ts H locs ls cells slots ⟨h1, h2, h3, h4, h5, ⟨trivial, h6.2.2⟩, h7, h8⟩)
theorem z_lrem {x y : Int64} (h : z_H X cc own d) (hd : decode cc pc = .ok (.lrem, 1)) (hne : ¬ y = 0) (k : z_V X kC kS w (pc + 1) L (vl (x - x / y * y) :: st)) : z_V X kC kS w pc L (vl y :: vl x :: st) := fun ad ts H locs ls cells slots ⟨h1, h2, h3, h4, h5, h6, h7, h8⟩ =>
  lv_lrem h.1 h.2.1 hd hne (k ad ts H locs ls cells slots ⟨h1, h2, h3, h4, h5, ⟨trivial, h6.2.2⟩, h7, h8⟩)
theorem z_ineg {x : Int32} (h : z_H X cc own d) (hd : decode cc pc = .ok (.ineg, 1)) (k : z_V X kC kS w (pc + 1) L (vi (-x) :: st)) : z_V X kC kS w pc L (vi x :: st) := fun ad ts H locs ls cells slots ⟨h1, h2, h3, h4, h5, h6, h7, h8⟩ =>
  lv_ineg h.1 h.2.1 hd (k ad ts H locs ls cells slots ⟨h1, h2, h3, h4, h5, ⟨trivial, h6.2⟩, h7, h8⟩)
theorem z_ishl {x y : Int32} (h : z_H X cc own d) (hd : decode cc pc = .ok (.ishl, 1)) (k : z_V X kC kS w (pc + 1) L (vi (x <<< (y &&& 31)) :: st)) : z_V X kC kS w pc L (vi y :: vi x :: st) := fun ad ts H locs ls cells slots ⟨h1, h2, h3, h4, h5, h6, h7, h8⟩ =>
  lv_ishl h.1 h.2.1 hd (k ad ts H locs ls cells slots ⟨h1, h2, h3, h4, h5, ⟨trivial, h6.2.2⟩, h7, h8⟩)
theorem z_ishr {x y : Int32} (h : z_H X cc own d) (hd : decode cc pc = .ok (.ishr, 1)) (k : z_V X kC kS w (pc + 1) L (vi (x >>> (y &&& 31)) :: st)) : z_V X kC kS w pc L (vi y :: vi x :: st) := fun ad ts H locs ls cells slots ⟨h1, h2, h3, h4, h5, h6, h7, h8⟩ =>
  lv_ishr h.1 h.2.1 hd (k ad ts H locs ls cells slots ⟨h1, h2, h3, h4, h5, ⟨trivial, h6.2.2⟩, h7, h8⟩)
theorem z_iushr {x y v : Int32} (h : z_H X cc own d) (hd : decode cc pc = .ok (.iushr, 1)) (hv : (x.toUInt32 >>> (y.toUInt32 &&& Int32.toUInt32 31)).toInt32 = v) (k : z_V X kC kS w (pc + 1) L (vi v :: st)) : z_V X kC kS w pc L (vi y :: vi x :: st) := fun ad ts H locs ls cells slots ⟨h1, h2, h3, h4, h5, h6, h7, h8⟩ =>
  lv_iushr h.1 h.2.1 hd hv (k ad ts H locs ls cells slots ⟨h1, h2, h3, h4, h5, ⟨trivial, h6.2.2⟩, h7, h8⟩)
theorem z_i2l {x : Int32} (h : z_H X cc own d) (hd : decode cc pc = .ok (.i2l, 1)) (k : z_V X kC kS w (pc + 1) L (vl x.toInt64 :: st)) : z_V X kC kS w pc L (vi x :: st) := fun ad ts H locs ls cells slots ⟨h1, h2, h3, h4, h5, h6, h7, h8⟩ =>
  lv_i2l h.1 h.2.1 hd rfl (k ad ts H locs ls cells slots ⟨h1, h2, h3, h4, h5, ⟨trivial, h6.2⟩, h7, h8⟩)
theorem z_l2i {x : Int64} (h : z_H X cc own d) (hd : decode cc pc = .ok (.l2i, 1)) (k : z_V X kC kS w (pc + 1) L (vi x.toInt32 :: st)) : z_V X kC kS w pc L (vl x :: st) := fun ad ts H locs ls cells slots ⟨h1, h2, h3, h4, h5, h6, h7, h8⟩ =>
  lv_l2i h.1 h.2.1 hd rfl (k ad ts H locs ls cells slots ⟨h1, h2, h3, h4, h5, ⟨trivial, h6.2⟩, h7, h8⟩)
theorem z_lcmp {x y : Int64} (h : z_H X cc own d) (hd : decode cc pc = .ok (.lcmp, 1)) (k : z_V X kC kS w (pc + 1) L (vi (lg_cmp x y) :: st)) : z_V X kC kS w pc L (vl y :: vl x :: st) := fun ad ts H locs ls cells slots ⟨h1, h2, h3, h4, h5, h6, h7, h8⟩ =>
  W.lcmp h.1 h.2.1 hd (k ad ts H locs ls cells slots ⟨h1, h2, h3, h4, h5, ⟨trivial, h6.2.2⟩, h7, h8⟩)
theorem z_pop_i {x : Int32} (h : z_H X cc own d) (hd : decode cc pc = .ok (.pop, 1)) (k : z_V X kC kS w (pc + 1) L (st)) : z_V X kC kS w pc L (vi x :: st) := fun ad ts H locs ls cells slots ⟨h1, h2, h3, h4, h5, h6, h7, h8⟩ =>
  lv_pop h.1 h.2.1 hd rfl (k ad ts H locs ls cells slots ⟨h1, h2, h3, h4, h5, h6.2, h7, h8⟩)
theorem z_dup_i {x : Int32} (h : z_H X cc own d) (hd : decode cc pc = .ok (.dup, 1)) (k : z_V X kC kS w (pc + 1) L (vi x :: vi x :: st)) : z_V X kC kS w pc L (vi x :: st) := fun ad ts H locs ls cells slots ⟨h1, h2, h3, h4, h5, h6, h7, h8⟩ =>
  lv_dup h.1 h.2.1 hd rfl (k ad ts H locs ls cells slots ⟨h1, h2, h3, h4, h5, ⟨trivial, trivial, h6.2⟩, h7, h8⟩)
theorem z_dup_r {t : z_T} (h : z_H X cc own d) (hd : decode cc pc = .ok (.dup, 1)) (k : z_V X kC kS w (pc + 1) L (vr t :: vr t :: st)) : z_V X kC kS w pc L (vr t :: st) := fun ad ts H locs ls cells slots ⟨h1, h2, h3, h4, h5, h6, h7, h8⟩ =>
  lv_dup h.1 h.2.1 hd rfl (k ad ts H locs ls cells slots ⟨h1, h2, h3, h4, h5, ⟨h6.1, h6.1, h6.2⟩, h7, h8⟩)
theorem z_dup_x1 {t : z_T} {x : Int32} (h : z_H X cc own d) (hd : decode cc pc = .ok (.dup_x1, 1)) (k : z_V X kC kS w (pc + 1) L (vi x :: vr t :: vi x :: st)) : z_V X kC kS w pc L (vi x :: vr t :: st) := fun ad ts H locs ls cells slots ⟨h1, h2, h3, h4, h5, h6, h7, h8⟩ =>
  lv_dup_x1 h.1 h.2.1 hd rfl rfl (k ad ts H locs ls cells slots ⟨h1, h2, h3, h4, h5, ⟨trivial, h6.2.1, trivial, h6.2.2⟩, h7, h8⟩)
theorem z_dup_x2 {t : z_T} {x y : Int32} (h : z_H X cc own d) (hd : decode cc pc = .ok (.dup_x2, 1)) (k : z_V X kC kS w (pc + 1) L (vi x :: vi y :: vr t :: vi x :: st)) : z_V X kC kS w pc L (vi x :: vi y :: vr t :: st) := fun ad ts H locs ls cells slots ⟨h1, h2, h3, h4, h5, h6, h7, h8⟩ =>
  lv_dup_x2 h.1 h.2.1 hd rfl rfl rfl (k ad ts H locs ls cells slots ⟨h1, h2, h3, h4, h5, ⟨trivial, trivial, h6.2.2.1, trivial, h6.2.2.2⟩, h7, h8⟩)
theorem z_dup2_ir {t : z_T} {x : Int32} (h : z_H X cc own d) (hd : decode cc pc = .ok (.dup2, 1)) (k : z_V X kC kS w (pc + 1) L (vi x :: vr t :: vi x :: vr t :: st)) : z_V X kC kS w pc L (vi x :: vr t :: st) := fun ad ts H locs ls cells slots ⟨h1, h2, h3, h4, h5, h6, h7, h8⟩ =>
  lv_dup2_11 h.1 h.2.1 hd rfl rfl (k ad ts H locs ls cells slots ⟨h1, h2, h3, h4, h5, ⟨trivial, h6.2.1, trivial, h6.2.1, h6.2.2⟩, h7, h8⟩)
theorem z_dup2_l {x : Int64} (h : z_H X cc own d) (hd : decode cc pc = .ok (.dup2, 1)) (k : z_V X kC kS w (pc + 1) L (vl x :: vl x :: st)) : z_V X kC kS w pc L (vl x :: st) := fun ad ts H locs ls cells slots ⟨h1, h2, h3, h4, h5, h6, h7, h8⟩ =>
  lv_dup2_2 h.1 h.2.1 hd rfl (k ad ts H locs ls cells slots ⟨h1, h2, h3, h4, h5, ⟨trivial, trivial, h6.2⟩, h7, h8⟩)
theorem z_if_eq {x : Int32} {off : Int} (h : z_H X cc own d) (hd : decode cc pc = .ok (.ifCond .eq off, 3)) (tgt : Nat) (ht : (pc : Int) + off = (tgt : Int)) (kt : x = 0 → z_V X kC kS w tgt L st) (kf : ¬ x = 0 → z_V X kC kS w (pc + 3) L st) : z_V X kC kS w pc L (vi x :: st) := fun ad ts H locs ls cells slots ⟨h1, h2, h3, h4, h5, h6, h7, h8⟩ =>
  lv_if_eq h.1 h.2.1 hd ht (fun q => kt q ad ts H locs ls cells slots ⟨h1, h2, h3, h4, h5, h6.2, h7, h8⟩) (fun q => kf q ad ts H locs ls cells slots ⟨h1, h2, h3, h4, h5, h6.2, h7, h8⟩)
theorem z_icmp_eq {x y : Int32} {off : Int} (h : z_H X cc own d) (hd : decode cc pc = .ok (.if_icmp .eq off, 3)) (tgt : Nat) (ht : (pc : Int) + off = (tgt : Int)) (kt : x = y → z_V X kC kS w tgt L st) (kf : ¬ x = y → z_V X kC kS w (pc + 3) L st) : z_V X kC kS w pc L (vi y :: vi x :: st) := fun ad ts H locs ls cells slots ⟨h1, h2, h3, h4, h5, h6, h7, h8⟩ =>
  lv_icmp_eq h.1 h.2.1 hd ht (fun q => kt q ad ts H locs ls cells slots ⟨h1, h2, h3, h4, h5, h6.2.2, h7, h8⟩) (fun q => kf q ad ts H locs ls cells slots ⟨h1, h2, h3, h4, h5, h6.2.2, h7, h8⟩)
theorem z_if_ne {x : Int32} {off : Int} (h : z_H X cc own d) (hd : decode cc pc = .ok (.ifCond .ne off, 3)) (tgt : Nat) (ht : (pc : Int) + off = (tgt : Int)) (kt : ¬ x = 0 → z_V X kC kS w tgt L st) (kf : x = 0 → z_V X kC kS w (pc + 3) L st) : z_V X kC kS w pc L (vi x :: st) := fun ad ts H locs ls cells slots ⟨h1, h2, h3, h4, h5, h6, h7, h8⟩ =>
  lv_if_ne h.1 h.2.1 hd ht (fun q => kt q ad ts H locs ls cells slots ⟨h1, h2, h3, h4, h5, h6.2, h7, h8⟩) (fun q => kf q ad ts H locs ls cells slots ⟨h1, h2, h3, h4, h5, h6.2, h7, h8⟩)
theorem z_icmp_ne {x y : Int32} {off : Int} (h : z_H X cc own d) (hd : decode cc pc = .ok (.if_icmp .ne off, 3)) (tgt : Nat) (ht : (pc : Int) + off = (tgt : Int)) (kt : ¬ x = y → z_V X kC kS w tgt L st) (kf : x = y → z_V X kC kS w (pc + 3) L st) : z_V X kC kS w pc L (vi y :: vi x :: st) := fun ad ts H locs ls cells slots ⟨h1, h2, h3, h4, h5, h6, h7, h8⟩ =>
  lv_icmp_ne h.1 h.2.1 hd ht (fun q => kt q ad ts H locs ls cells slots ⟨h1, h2, h3, h4, h5, h6.2.2, h7, h8⟩) (fun q => kf q ad ts H locs ls cells slots ⟨h1, h2, h3, h4, h5, h6.2.2, h7, h8⟩)
theorem z_if_lt {x : Int32} {off : Int} (h : z_H X cc own d) (hd : decode cc pc = .ok (.ifCond .lt off, 3)) (tgt : Nat) (ht : (pc : Int) + off = (tgt : Int)) (kt : x < 0 → z_V X kC kS w tgt L st) (kf : ¬ x < 0 → z_V X kC kS w (pc + 3) L st) : z_V X kC kS w pc L (vi x :: st) := fun ad ts H locs ls cells slots ⟨h1, h2, h3, h4, h5, h6, h7, h8⟩ =>
  lv_if_lt h.1 h.2.1 hd ht (fun q => kt q ad ts H locs ls cells slots ⟨h1, h2, h3, h4, h5, h6.2, h7, h8⟩) (fun q => kf q ad ts H locs ls cells slots ⟨h1, h2, h3, h4, h5, h6.2, h7, h8⟩)
theorem z_icmp_lt {x y : Int32} {off : Int} (h : z_H X cc own d) (hd : decode cc pc = .ok (.if_icmp .lt off, 3)) (tgt : Nat) (ht : (pc : Int) + off = (tgt : Int)) (kt : x < y → z_V X kC kS w tgt L st) (kf : ¬ x < y → z_V X kC kS w (pc + 3) L st) : z_V X kC kS w pc L (vi y :: vi x :: st) := fun ad ts H locs ls cells slots ⟨h1, h2, h3, h4, h5, h6, h7, h8⟩ =>
  lv_icmp_lt h.1 h.2.1 hd ht (fun q => kt q ad ts H locs ls cells slots ⟨h1, h2, h3, h4, h5, h6.2.2, h7, h8⟩) (fun q => kf q ad ts H locs ls cells slots ⟨h1, h2, h3, h4, h5, h6.2.2, h7, h8⟩)
theorem z_if_ge {x : Int32} {off : Int} (h : z_H X cc own d) (hd : decode cc pc = .ok (.ifCond .ge off, 3)) (tgt : Nat) (ht : (pc : Int) + off = (tgt : Int)) (kt : 0 ≤ x → z_V X kC kS w tgt L st) (kf : ¬ 0 ≤ x → z_V X kC kS w (pc + 3) L st) : z_V X kC kS w pc L (vi x :: st) := fun ad ts H locs ls cells slots ⟨h1, h2, h3, h4, h5, h6, h7, h8⟩ =>
  lv_if_ge h.1 h.2.1 hd ht (fun q => kt q ad ts H locs ls cells slots ⟨h1, h2, h3, h4, h5, h6.2, h7, h8⟩) (fun q => kf q ad ts H locs ls cells slots ⟨h1, h2, h3, h4, h5, h6.2, h7, h8⟩)
theorem z_icmp_ge {x y : Int32} {off : Int} (h : z_H X cc own d) (hd : decode cc pc = .ok (.if_icmp .ge off, 3)) (tgt : Nat) (ht : (pc : Int) + off = (tgt : Int)) (kt : y ≤ x → z_V X kC kS w tgt L st) (kf : ¬ y ≤ x → z_V X kC kS w (pc + 3) L st) : z_V X kC kS w pc L (vi y :: vi x :: st) := fun ad ts H locs ls cells slots ⟨h1, h2, h3, h4, h5, h6, h7, h8⟩ =>
  lv_icmp_ge h.1 h.2.1 hd ht (fun q => kt q ad ts H locs ls cells slots ⟨h1, h2, h3, h4, h5, h6.2.2, h7, h8⟩) (fun q => kf q ad ts H locs ls cells slots ⟨h1, h2, h3, h4, h5, h6.2.2, h7, h8⟩)
theorem z_if_gt {x : Int32} {off : Int} (h : z_H X cc own d) (hd : decode cc pc = .ok (.ifCond .gt off, 3)) (tgt : Nat) (ht : (pc : Int) + off = (tgt : Int)) (kt : 0 < x → z_V X kC kS w tgt L st) (kf : ¬ 0 < x → z_V X kC kS w (pc + 3) L st) : z_V X kC kS w pc L (vi x :: st) := fun ad ts H locs ls cells slots ⟨h1, h2, h3, h4, h5, h6, h7, h8⟩ =>
  lv_if_gt h.1 h.2.1 hd ht (fun q => kt q ad ts H locs ls cells slots ⟨h1, h2, h3, h4, h5, h6.2, h7, h8⟩) (fun q => kf q ad ts H locs ls cells slots ⟨h1, h2, h3, h4, h5, h6.2, h7, h8⟩)
theorem z_icmp_gt {x y : Int32} {off : Int} (h : z_H X cc own d) (hd : decode cc pc = .ok (.if_icmp .gt off, 3)) (tgt : Nat) (ht : (pc : Int) + off = (tgt : Int)) (kt : y < x → z_V X kC kS w tgt L st) (kf : ¬ y < x → z_V X kC kS w (pc + 3) L st) : z_V X kC kS w pc L (vi y :: vi x :: st) := fun ad ts H locs ls cells slots ⟨h1, h2, h3, h4, h5, h6, h7, h8⟩ =>
  lv_icmp_gt h.1 h.2.1 hd ht (fun q => kt q ad ts H locs ls cells slots ⟨h1, h2, h3, h4, h5, h6.2.2, h7, h8⟩) (fun q => kf q ad ts H locs ls cells slots ⟨h1, h2, h3, h4, h5, h6.2.2, h7, h8⟩)
theorem z_if_le {x : Int32} {off : Int} (h : z_H X cc own d) (hd : decode cc pc = .ok (.ifCond .le off, 3)) (tgt : Nat) (ht : (pc : Int) + off = (tgt : Int)) (kt : x ≤ 0 → z_V X kC kS w tgt L st) (kf : ¬ x ≤ 0 → z_V X kC kS w (pc + 3) L st) : z_V X kC kS w pc L (vi x :: st) := fun ad ts H locs ls cells slots ⟨h1, h2, h3, h4, h5, h6, h7, h8⟩ =>
  lv_if_le h.1 h.2.1 hd ht (fun q => kt q ad ts H locs ls cells slots ⟨h1, h2, h3, h4, h5, h6.2, h7, h8⟩) (fun q => kf q ad ts H locs ls cells slots ⟨h1, h2, h3, h4, h5, h6.2, h7, h8⟩)
theorem z_icmp_le {x y : Int32} {off : Int} (h : z_H X cc own d) (hd : decode cc pc = .ok (.if_icmp .le off, 3)) (tgt : Nat) (ht : (pc : Int) + off = (tgt : Int)) (kt : x ≤ y → z_V X kC kS w tgt L st) (kf : ¬ x ≤ y → z_V X kC kS w (pc + 3) L st) : z_V X kC kS w pc L (vi y :: vi x :: st) := fun ad ts H locs ls cells slots ⟨h1, h2, h3, h4, h5, h6, h7, h8⟩ =>
  lv_icmp_le h.1 h.2.1 hd ht (fun q => kt q ad ts H locs ls cells slots ⟨h1, h2, h3, h4, h5, h6.2.2, h7, h8⟩) (fun q => kf q ad ts H locs ls cells slots ⟨h1, h2, h3, h4, h5, h6.2.2, h7, h8⟩)
theorem z_goto {off : Int} (h : z_H X cc own d) (hd : decode cc pc = .ok (.goto off, 3)) (tgt : Nat) (ht : (pc : Int) + off = (tgt : Int)) (k : z_V X kC kS w tgt L st) : z_V X kC kS w pc L st := fun ad ts H locs ls cells slots hh => lv_goto h.1 h.2.1 hd ht (k ad ts H locs ls cells slots hh)
theorem z_ifnull {t : z_T} {off : Int} (h : z_H X cc own d) (hd : decode cc pc = .ok (.ifnull off, 3)) (k : z_V X kC kS w (pc + 3) L st) : z_V X kC kS w pc L (vr t :: st) := fun ad ts H locs ls cells slots ⟨h1, h2, h3, h4, h5, h6, h7, h8⟩ =>
  lv_ifnull h.1 h.2.1 hd (k ad ts H locs ls cells slots ⟨h1, h2, h3, h4, h5, h6.2, h7, h8⟩)
theorem z_ifnonnull {t : z_T} {off : Int} (h : z_H X cc own d) (hd : decode cc pc = .ok (.ifnonnull off, 3)) (tgt : Nat) (ht : (pc : Int) + off = (tgt : Int)) (k : z_V X kC kS w tgt L st) : z_V X kC kS w pc L (vr t :: st) := fun ad ts H locs ls cells slots ⟨h1, h2, h3, h4, h5, h6, h7, h8⟩ =>
  lv_ifnonnull h.1 h.2.1 hd ht (k ad ts H locs ls cells slots ⟨h1, h2, h3, h4, h5, h6.2, h7, h8⟩)
theorem z_ifnullN {off : Int} (h : z_H X cc own d) (hd : decode cc pc = .ok (.ifnull off, 3)) (tgt : Nat) (ht : (pc : Int) + off = (tgt : Int)) (k : z_V X kC kS w tgt L st) : z_V X kC kS w pc L (vn :: st) := fun ad ts H locs ls cells slots ⟨h1, h2, h3, h4, h5, h6, h7, h8⟩ =>
  lv_ifnullN h.1 h.2.1 hd ht (k ad ts H locs ls cells slots ⟨h1, h2, h3, h4, h5, h6.2, h7, h8⟩)
theorem z_ifnonnullN {off : Int} (h : z_H X cc own d) (hd : decode cc pc = .ok (.ifnonnull off, 3)) (k : z_V X kC kS w (pc + 3) L st) : z_V X kC kS w pc L (vn :: st) := fun ad ts H locs ls cells slots ⟨h1, h2, h3, h4, h5, h6, h7, h8⟩ =>
  lv_ifnonnullN h.1 h.2.1 hd (k ad ts H locs ls cells slots ⟨h1, h2, h3, h4, h5, h6.2, h7, h8⟩)
theorem z_tblOut {dflt lo hi : Int} {offs : Array Int} {len : Nat} {x : Int32} (h : z_H X cc own d) (hd : decode cc pc = .ok (.tableswitch dflt lo hi offs, len)) (tgt : Nat) (ho : x.toInt < lo ∨ hi < x.toInt) (ht : (pc : Int) + dflt = (tgt : Int)) (k : z_V X kC kS w tgt L st) : z_V X kC kS w pc L (vi x :: st) := fun ad ts H locs ls cells slots ⟨h1, h2, h3, h4, h5, h6, h7, h8⟩ =>
  lv_tableOut h.1 h.2.1 hd ho ht (k ad ts H locs ls cells slots ⟨h1, h2, h3, h4, h5, h6.2, h7, h8⟩)
theorem z_tblIn {dflt lo hi : Int} {offs : Array Int} {len : Nat} {x : Int32} {off : Int} (h : z_H X cc own d) (hd : decode cc pc = .ok (.tableswitch dflt lo hi offs, len)) (tgt : Nat) (h9 : ¬ x.toInt < lo) (h10 : ¬ hi < x.toInt) (ho : offs[(x.toInt - lo).toNat]? = some off) (ht : (pc : Int) + off = (tgt : Int)) (k : z_V X kC kS w tgt L st) : z_V X kC kS w pc L (vi x :: st) := fun ad ts H locs ls cells slots ⟨h1, h2, h3, h4, h5, h6, h7, h8⟩ =>
  lv_tableIn h.1 h.2.1 hd h9 h10 ho ht (k ad ts H locs ls cells slots ⟨h1, h2, h3, h4, h5, h6.2, h7, h8⟩)
theorem z_lookup {dflt : Int} {ps : Array (Int × Int)} {len : Nat} {x : Int32} {off : Int} (h : z_H X cc own d) (hd : decode cc pc = .ok (.lookupswitch dflt ps, len)) (tgt : Nat) (hp : (ps.toList.zip (ps.toList.drop 1)).all (fun (a, next) => a.1 < next.1) = true) (ho : Op.lookupswitch.offset ps.toList dflt x.toInt = off) (ht : (pc : Int) + off = (tgt : Int)) (k : z_V X kC kS w tgt L st) : z_V X kC kS w pc L (vi x :: st) := fun ad ts H locs ls cells slots ⟨h1, h2, h3, h4, h5, h6, h7, h8⟩ =>
  lv_lookup h.1 h.2.1 hd hp ho ht (k ad ts H locs ls cells slots ⟨h1, h2, h3, h4, h5, h6.2, h7, h8⟩)
theorem z_ldc {idx : Nat} {v : Int32} (h : z_H X cc own d) (hd : decode cc pc = .ok (.ldc idx, 2)) (hc : Cond.constant own idx v ∈ lw_tbl) (k : z_V X kC kS w (pc + 2) L (vi v :: st)) : z_V X kC kS w pc L st := fun ad ts H locs ls cells slots ⟨h1, h2, h3, h4, h5, h6, h7, h8⟩ =>
  lv_ldc h.1 h.2.1 h.2.2.1 (h.word hc rfl) hd (k ad ts H locs ls cells slots ⟨h1, h2, h3, h4, h5, ⟨trivial, h6⟩, h7, h8⟩)
theorem z_ldcw {idx : Nat} {v : Int32} (h : z_H X cc own d) (hd : decode cc pc = .ok (.ldc_w idx, 3)) (hc : Cond.constant own idx v ∈ lw_tbl) (k : z_V X kC kS w (pc + 3) L (vi v :: st)) : z_V X kC kS w pc L st := fun ad ts H locs ls cells slots ⟨h1, h2, h3, h4, h5, h6, h7, h8⟩ =>
  lv_ldcw h.1 h.2.1 h.2.2.1 (h.word hc rfl) hd (k ad ts H locs ls cells slots ⟨h1, h2, h3, h4, h5, ⟨trivial, h6⟩, h7, h8⟩)
theorem z_ldc2 {idx : Nat} {v : Int64} (h : z_H X cc own d) (hd : decode cc pc = .ok (.ldc2_w idx, 3)) (hc : Cond.constantLong own idx v ∈ lw_tbl) (k : z_V X kC kS w (pc + 3) L (vl v :: st)) : z_V X kC kS w pc L st := fun ad ts H locs ls cells slots ⟨h1, h2, h3, h4, h5, h6, h7, h8⟩ =>
  lv_ldc2 h.1 h.2.1 h.2.2.1 (h.word hc rfl) hd (k ad ts H locs ls cells slots ⟨h1, h2, h3, h4, h5, ⟨trivial, h6⟩, h7, h8⟩)
/-- a number, a name for it -/
theorem z_topi {x : Int32} (k : ∀ y : Int32, y = x → z_V X kC kS w pc L (vi y :: st)) : z_V X kC kS w pc L (vi x :: st) := k x rfl
theorem z_topl {x : Int64} (k : ∀ y : Int64, y = x → z_V X kC kS w pc L (vl y :: st)) : z_V X kC kS w pc L (vl x :: st) := k x rfl
/-- the top of the stack by an equal number -/
theorem z_toe {x y : Int32} (e : x = y) (k : z_V X kC kS w pc L (vi y :: st)) : z_V X kC kS w pc L (vi x :: st) := e ▸ k
theorem z_tole {x y : Int64} (e : x = y) (k : z_V X kC kS w pc L (vl y :: st)) : z_V X kC kS w pc L (vl x :: st) := e ▸ k
end ZR
