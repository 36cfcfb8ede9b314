/-! calls and returns -/
section ZK
variable {X : z_X} {cc : ByteArray} {own : String} {d kC kS : Nat} {w : z_w} {pc : Nat} {L : List (Nat × z_v)} {st : List z_v}
theorem z_St.readdr {D : va_G} {dA : Nat → ClassId} {A : Nat → Prop} {ad ad' : z_T → Nat} {w : z_w} {ts : List z_T} {H : Heap} (h : z_St D dA A ad w ts H) (he : ∀ t, w t ≠ none → ad' t = ad t) : z_St D dA A ad' w ts H := by
  have e : z_ls dA ad' w ts = z_ls dA ad w ts := by
    refine List.map_congr_left fun t ht => ?_
    have hw := (h.1 t).mpr ht
    rw [he t hw]
    cases hc : w t with
    | none => rfl
    | some c =>
      show (ad t, z_ce dA ad' c) = (ad t, z_ce dA ad c)
      rw [z_ce_eq (E0 := fun _ => False) (fun q hq => hq.elim (he q) False.elim) (h.2.2.2.2 t c hc)]
  exact ⟨h.1, h.2.1, by rw [e]; exact h.2.2.1, by rw [e]; exact h.2.2.2.1, h.2.2.2.2⟩
theorem z_St.weaken {D : va_G} {dA : Nat → ClassId} {A B : Nat → Prop} {ad : z_T → Nat} {w : z_w} {ts : List z_T} {H : Heap} (h : z_St D dA A ad w ts H) (hAB : ∀ q, A q → B q) : z_St D dA B ad w ts H := ⟨h.1, h.2.1, h.2.2.1, h.2.2.2.1.weaken (fun _ q _ => hAB q.1), h.2.2.2.2⟩
/-- what a contract asks of the start, and that frames don't matter to it -/
def z_Pc (D : va_G) (dA : Nat → ClassId) (ad : z_T → Nat) (ts : List z_T) (sz : Nat) (args : List z_v) (w : z_w) : Array Value → State → Prop := va_Pc (args.map (z_cv ad)) (fun U => U.heap.size = sz ∧ z_oks (fun _ => False) w args ∧ z_St D dA (fun _ => True) ad w ts U.heap ∧ z_K D dA U)
theorem z_Pc_blind {D : va_G} {dA : Nat → ClassId} {ad : z_T → Nat} {ts : List z_T} {sz : Nat} {args : List z_v} {w : z_w} : FrameBlind (z_Pc D dA ad ts sz args w) := fun a U g mk ⟨q1, q2, q3, q4, q5⟩ => ⟨q1, q2, q3, q4, z_K.same (s := U) (U := U.calling g mk a) rfl q5⟩
theorem z_Pc_of {D : va_G} {dA : Nat → ClassId} {A : Nat → Prop} {ad : z_T → Nat} {ts : List z_T} {args : List z_v} {w : z_w} {s U : State} {H : Heap} (hk : z_K D dA s) (hs : z_St D dA A ad w ts H) (ho : z_oks (fun _ => False) w args) (hU : U.heap = H) (hW : s.WarmedH U.vm) : z_Pc D dA ad ts H.size args w (args.map (z_cv ad)).toArray U := ⟨rfl, by rw [hU], ho, by rw [hU]; exact hs.weaken (fun _ _ => trivial), hk.moved hW⟩
/-- behind a call's run -/
theorem z_back (h : z_H X cc own d) {args : List z_v} {mc ms : Nat} {Po : Option z_v → z_w → Prop} {stk rest : List z_v} {a : Array Value}
    (hy : ∀ r w', Po r w' → ∀ t, x_E0 X t → w' t = none)
    (hso : ∀ w' : z_w, z_oks (x_E0 X) w' stk → z_oks (x_E0 X) w' rest)
    (hrun : ∀ (ad : z_T → Nat) (ts : List z_T) (H : Heap) (locs : List Loc) (ls : Array Slot) (cells slots : Nat), z_at X ad ts H locs ls cells slots (kC + mc) (kS + ms) w L stk → va_Run (x_p X) (x_l X) (x_e X) (x_R X) (x_s X) (x_m X) (x_a X) (x_b X) (x_me X) (x_c X) H locs cells slots mc ms (F0 (x_m X) pc ls (stk.map (z_cv ad))) (rest.map (z_cv ad)) (z_Qc (x_D X) (x_dA X) ad w H.size Po a) (z_fre w ad H.size))
    (kk : ∀ (r : Option z_v) (w' : z_w), Po r w' → z_V X kC kS w' (pc + 3) L (r.toList ++ rest)) : z_V X (kC + mc) (kS + ms) w pc L stk := fun ad ts H locs ls cells slots hh => by
  intro T hT XX
  obtain ⟨v, st₀, t, T', L', h0, X', hL, e1, e2, ⟨⟨r, w', ad', ts', e3, hp, ho, hs', hag⟩, hz, hk⟩, st'⟩ := hrun ad ts H locs ls cells slots hh T hT XX
  cases e3
  obtain ⟨h1, h2, h3, h4, h5, h6, h7, h8, h9⟩ := hh
  rw [h0] at hz hk
  have hfA : ∀ q, z_fre w ad H.size q → x_A X q := fun q hq => by
    rcases hq with ⟨u, hu, rfl⟩ | hq
    · cases hc : w u with
      | none => exact absurd hc hu
      | some c =>
        obtain ⟨i, -, hi⟩ := h2.find hc
        exact h2.2.2.2.1.2 i _ hi
    · exact h.2.2.2.2.2.1 q (Nat.le_trans h3.1 hq)
  have hd1 : ∀ q, w q ≠ none ∨ x_E0 X q → (fun q => if w' q ≠ none then ad' q else ad q) q = ad q := fun q hq => by
    show (if w' q ≠ none then ad' q else ad q) = ad q
    rcases hq with hq | hq
    · rw [if_pos (hag q hq).1, (hag q hq).2]
    · rw [if_neg (by rw [hy r w' hp q hq]; simp)]
  have hd2 : ∀ q, w' q ≠ none → (fun q => if w' q ≠ none then ad' q else ad q) q = ad' q := fun q hq => if_pos hq
  have hmono : ∀ q, w q ≠ none → w' q ≠ none := fun q hq => (hag q hq).1
  have hS' : va_S (x_A X) (x_H0 X) t.heap (locs ++ L') := ⟨Nat.le_trans h3.1 hz, fun q z1 z2 => by rw [hk q (Nat.lt_of_lt_of_le z1 h3.1) (fun z => z2 (hfA q z))]; exact h3.2.1 q z1 z2, fun q hq => by
    rcases List.mem_append.mp hq with z | z
    · exact h3.2.2 q z
    · exact hfA _ (hL q z)⟩
  have hat : z_at X (fun q => if w' q ≠ none then ad' q else ad q) ts' t.heap (locs ++ L') ls (cells + mc) (slots + ms) kC kS w' L (r.toList ++ rest) := by
    refine ⟨fun q hq => ?_, (hs'.readdr hd2).weaken hfA, hS', fun q hq => (h4 q hq).imp (hmono q) id, z_okl_mono hmono h5, ?_, ?_, by omega, by omega⟩
    · rw [hd1 q (h4 q hq)]
      exact h1 q hq
    · have q1 := z_oks_mono hmono (hso _ h6)
      cases r with
      | none => exact q1
      | some r => exact ⟨z_okv_up ho.1, q1⟩
    · rw [z_mapl_eq hd1 h5]
      exact h7
  obtain ⟨t2, a1, b1⟩ := kk r w' hp _ _ _ _ _ _ _ hat T' e1 X'
  refine ⟨t2, st' t2 ?_, b1⟩
  have e5 : (r.toList ++ rest).map (z_cv (fun q => if w' q ≠ none then ad' q else ad q)) = (r.map (z_cv ad')).toList ++ rest.map (z_cv ad) := by
    rw [List.map_append, z_map_eq hd1 (hso _ h6)]
    congr 1
    cases r with
    | none => rfl
    | some r => exact congrArg (fun z => [z]) (z_cv_eq (E0 := fun _ => False) (fun q hq => hq.elim (hd2 q) False.elim) ho.1)
  rw [e5] at a1
  exact a1
/-- a method, as calls need it -/
def z_ym (y : MethodName) (cc : ByteArray) (nL : Nat) (ret : Option FieldType) (n : Nat) : Prop := Cond.code y cc nL ret ∈ z_F ∧ Cond.initialized y.cls ∈ z_F ∧ y.cls ≠ "java/lang/invoke/MethodHandle" ∧ y.cls ≠ "java/lang/invoke/VarHandle" ∧ (parseMethodDescriptor y.desc).map (fun d => d.parameters.length) = some n ∧ plainName y.cls = true ∧ nL ≤ 80
theorem z_good_ws {y : MethodName} {cc : ByteArray} {nL : Nat} {ret : Option FieldType} {n : Nat} (hy : z_ym y cc nL ret n) : GoodIn z_F [.code y cc nL ret] := fun w hw => by
  rw [List.mem_singleton.mp hw]
  exact ⟨hy.1, good_of_word (List.mem_filter.mp hy.1).2⟩
theorem z_goodF {ws : List Cond} (h : ∀ w ∈ ws, w ∈ z_F) : GoodIn z_F ws := fun w hw => ⟨h w hw, good_of_word (List.mem_filter.mp (h w hw)).2⟩
theorem z_len {n : Nat} {As : List z_v} (ad : z_T → Nat) (h : As.length = n) : (As.map (z_cv ad)).length = n := by rw [List.length_map]; exact h
theorem z_stk {As rest : List z_v} (ad : z_T → Nat) : (As.reverse ++ rest).map (z_cv ad) = (As.map (z_cv ad)).reverse ++ rest.map (z_cv ad) := by rw [List.map_append, List.map_reverse]
theorem z_oks_app {E0 : z_T → Prop} {w : z_w} {a b : List z_v} : z_oks E0 w (a ++ b) ↔ z_oks E0 w a ∧ z_oks E0 w b := by
  rw [z_oks_mem, z_oks_mem, z_oks_mem]
  exact ⟨fun h => ⟨fun v hv => h v (List.mem_append_left _ hv), fun v hv => h v (List.mem_append_right _ hv)⟩, fun h v hv => (List.mem_append.mp hv).elim (h.1 v) (h.2 v)⟩
theorem z_oks_rev {E0 : z_T → Prop} {w : z_w} {a : List z_v} : z_oks E0 w a.reverse ↔ z_oks E0 w a := by
  rw [z_oks_mem, z_oks_mem]
  exact ⟨fun h v hv => h v (List.mem_reverse.mpr hv), fun h v hv => h v (List.mem_reverse.mp hv)⟩
theorem z_reach (h : z_H X cc own d) {d' nL : Nat} (hdd : d' + 1 ≤ d) (hnl : nL ≤ 80) (mc ms : Nat) : (z_rm d' mc ms).frames + 1 ≤ (x_R X).frames ∧ 8 + (nL + 11) + (z_rm d' mc ms).locals ≤ (x_R X).locals := by
  have hb := h.2.2.2.2.1
  refine ⟨by show d' + 1 ≤ _; omega, ?_⟩
  show 8 + (nL + 11) + 100 * d' ≤ _
  omega
theorem z_words_room {ls : Array Slot} {stk : List Value} (ad : z_T → Nat) {rest : List z_v} (h : z_words rest ≤ 8) : 2 * (F0 (x_m X) pc ls stk).monitorRoom + ((rest.map (z_cv ad)).map fun v => v.category).sum ≤ 8 := by
  have := z_words_eq ad rest
  show 2 * 0 + _ ≤ 8
  omega
theorem z_bud {ad : z_T → Nat} {ts : List z_T} {H : Heap} {locs : List Loc} {ls : Array Slot} {cells slots mc ms : Nat} {stk : List z_v} (h : z_H X cc own d) (hh : z_at X ad ts H locs ls cells slots (kC + mc) (kS + ms) w L stk) : cells + mc ≤ (x_R X).cells ∧ slots + ms ≤ (x_R X).slots := by
  obtain ⟨-, -, -, -, -, -, -, q1, q2⟩ := hh
  have hb := h.2.2.2.2.1
  omega
variable {y : MethodName} {b : ByteArray} {nL n : Nat} {ret : Option FieldType} {d' mc ms : Nat} {Po : Option z_v → z_w → Prop} {idx : Nat} {As : List z_v} {t : z_T}
/-- invokevirtual, of an object of class number ci -/
theorem z_callV {ci : Nat} {C : String} {T : u_T} {N : Nat} {fs : List z_v} (h : z_H X cc own d) (hd : decode cc pc = .ok (.invokevirtual idx, 3)) (hx : ∀ q ∈ As, z_okv (x_E0 X) w q → z_okv (fun _ => False) w q) (hy0 : ∀ r w', Po r w' → ∀ t, x_E0 X t → w' t = none) (hM : z_M (x_G X) y b nL ret d' mc ms (vr t :: As) w Po) (hy : z_ym y b nL ret n) (hl : Cond.methodLink own idx y ∈ z_F) (hi : Cond.instanceMethod y ∈ z_F) (hc : vwCl[ci]? = some (C, T, N)) (hse : Cond.selects C y y ∈ z_F) (hic : Cond.initialized C ∈ z_F) (hyc : y.cls = C) (hw : w t = some (z_ob ci fs)) (hn : As.length = n) (hdd : d' + 1 ≤ d) (hst : z_words st ≤ 8) (kk : ∀ r w', Po r w' → z_V X kC kS w' (pc + 3) L (r.toList ++ st)) : z_V X (kC + mc) (kS + ms) w pc L (As.reverse ++ vr t :: st) := by
  refine z_back (args := vr t :: As) (a := ((vr t :: As).map (z_cv (fun _ => 0))).toArray) h hy0 (fun w' q => (z_oks_app.mp q).2.2) (fun ad ts H locs ls cells slots hh => ?_) kk
  obtain ⟨h1, h2, h3, h4, h5, h6, h7, h8⟩ := id hh
  have hoa : z_oks (fun _ => False) w (vr t :: As) := ⟨Or.inl (by rw [hw]; simp), z_oks_mem.mpr fun q hq => hx q hq (z_oks_mem.mp (z_oks_rev.mp (z_oks_app.mp h6).1) q hq)⟩
  have ws : ∀ v ∈ ([.methodLink own idx y, .instanceMethod y, .selects C y y, .initialized C] : List Cond), v ∈ z_F := fun v hv => by
    rcases List.mem_cons.mp hv with rfl | hv; · exact hl
    rcases List.mem_cons.mp hv with rfl | hv; · exact hi
    rcases List.mem_cons.mp hv with rfl | hv; · exact hse
    rcases List.mem_cons.mp hv with rfl | hv; · exact hic
    cases hv
  have hG : GoodIn z_F (wsV own idx C y [.code y b nL ret]) := fun v hv => by
    rcases List.mem_append.mp hv with hv | hv
    · exact z_goodF ws v hv
    · exact z_good_ws hy v hv
  obtain ⟨i, -, hi2⟩ := h2.find hw
  rw [z_stk]
  exact va_runV (As := As.map (z_cv ad)) (rest := st.map (z_cv ad)) ⟨h.1, h.2.1, h.2.2.2.2.2.2, h.2.2.1, h.ts⟩ (hM ad ts H.size) (cwV n h.ts hG rfl rfl rfl ⟨hyc, hy.2.2.1, hy.2.2.2.1, hy.2.2.2.2.1⟩ (z_reach h hdd hy.2.2.2.2.2.2 mc ms)) ⟨z_Pc_blind, va_recv h.2.2.2.1.1 h2.2.2.1 hc hi2, fun U hU hW => z_Pc_of h.2.2.2.1 h2 hoa hU hW⟩ rfl (z_len ad hn) h7.1 rfl (z_words_room ad hst) hd (z_bud h hh)
theorem z_callS (h : z_H X cc own d) (hd : decode cc pc = .ok (.invokestatic idx, 3)) (hx : ∀ q ∈ As, z_okv (x_E0 X) w q → z_okv (fun _ => False) w q) (hy0 : ∀ r w', Po r w' → ∀ t, x_E0 X t → w' t = none) (hM : z_M (x_G X) y b nL ret d' mc ms As w Po) (hy : z_ym y b nL ret n) (hl : Cond.methodLink own idx y ∈ z_F) (hs : Cond.static y ∈ z_F) (hn : As.length = n) (hdd : d' + 1 ≤ d) (hst : z_words st ≤ 8) (kk : ∀ r w', Po r w' → z_V X kC kS w' (pc + 3) L (r.toList ++ st)) : z_V X (kC + mc) (kS + ms) w pc L (As.reverse ++ st) := by
  refine z_back (args := As) (a := (As.map (z_cv (fun _ => 0))).toArray) h hy0 (fun w' q => (z_oks_app.mp q).2) (fun ad ts H locs ls cells slots hh => ?_) kk
  obtain ⟨h1, h2, h3, h4, h5, h6, h7, h8⟩ := id hh
  have hoa : z_oks (fun _ => False) w As := z_oks_mem.mpr fun q hq => hx q hq (z_oks_mem.mp (z_oks_rev.mp (z_oks_app.mp h6).1) q hq)
  rw [z_stk]
  exact va_runS (As := As.map (z_cv ad)) (rest := st.map (z_cv ad)) ⟨h.1, h.2.1, h.2.2.2.2.2.2, h.2.2.1, h.ts⟩ (hM ad ts H.size) ⟨callB_of n h.ts (z_good_ws hy) rfl rfl rfl (h.ts _ hy.2.1) (h.ts _ hl) ⟨hy.2.2.1, hy.2.2.2.1, hy.2.2.2.2.1⟩ (z_reach h hdd hy.2.2.2.2.2.2 mc ms), h.ts _ hs⟩ ⟨z_Pc_blind, fun U hU hW => z_Pc_of h.2.2.2.1 h2 hoa hU hW⟩ rfl (z_len ad hn) h7.1 rfl (z_words_room ad hst) hd (z_bud h hh)
theorem z_callI (h : z_H X cc own d) (hd : decode cc pc = .ok (.invokespecial idx, 3)) (hx : ∀ q ∈ As, z_okv (x_E0 X) w q → z_okv (fun _ => False) w q) (hy0 : ∀ r w', Po r w' → ∀ t, x_E0 X t → w' t = none) (hM : z_M (x_G X) y b nL none d' mc ms (vr t :: As) w Po) (hy : z_ym y b nL none n) (hl : Cond.methodLink own idx y ∈ z_F) (hi : Cond.instanceMethod y ∈ z_F) (hy1 : y.name = "<init>") (ht : w t ≠ none) (hn : As.length = n) (hdd : d' + 1 ≤ d) (hst : z_words st ≤ 8) (kk : ∀ r w', Po r w' → z_V X kC kS w' (pc + 3) L (r.toList ++ st)) : z_V X (kC + mc) (kS + ms) w pc L (As.reverse ++ vr t :: st) := by
  refine z_back (args := vr t :: As) (a := ((vr t :: As).map (z_cv (fun _ => 0))).toArray) h hy0 (fun w' q => (z_oks_app.mp q).2.2) (fun ad ts H locs ls cells slots hh => ?_) kk
  obtain ⟨h1, h2, h3, h4, h5, h6, h7, h8⟩ := id hh
  have hoa : z_oks (fun _ => False) w (vr t :: As) := ⟨Or.inl ht, z_oks_mem.mpr fun q hq => hx q hq (z_oks_mem.mp (z_oks_rev.mp (z_oks_app.mp h6).1) q hq)⟩
  rw [z_stk]
  exact va_runI (As := As.map (z_cv ad)) (rest := st.map (z_cv ad)) ⟨h.1, h.2.1, h.2.2.2.2.2.2, h.2.2.1, h.ts⟩ (hM ad ts H.size) (cwI n h.ts (z_good_ws hy) rfl rfl rfl (h.ts _ hy.2.1) (h.ts _ hl) (h.ts _ hi) hy1 ⟨hy.2.2.1, hy.2.2.2.1, hy.2.2.2.2.1⟩ (z_reach h hdd hy.2.2.2.2.2.2 mc ms)) ⟨z_Pc_blind, fun U hU hW => z_Pc_of h.2.2.2.1 h2 hoa hU hW⟩ rfl (z_len ad hn) h7.1 rfl (z_words_room ad hst) hd (z_bud h hh)
theorem z_callVN {host : String} {ci : Nat} {C : String} {T : u_T} {N : Nat} {fs : List z_v} (h : z_H X cc own d) (hd : decode cc pc = .ok (.invokevirtual idx, 3)) (hx : ∀ q ∈ As, z_okv (x_E0 X) w q → z_okv (fun _ => False) w q) (hy0 : ∀ r w', Po r w' → ∀ t, x_E0 X t → w' t = none) (hM : z_M (x_G X) y b nL ret d' mc ms (vr t :: As) w Po) (hy : z_ym y b nL ret n) (hl : Cond.methodLinkNest own idx y host ∈ lw_tbl) (hi : Cond.instanceMethod y ∈ z_F) (hc : vwCl[ci]? = some (C, T, N)) (hse : Cond.selects C y y ∈ z_F) (hw : w t = some (z_ob ci fs)) (hn : As.length = n) (hdd : d' + 1 ≤ d) (hst : z_words st ≤ 8) (kk : ∀ r w', Po r w' → z_V X kC kS w' (pc + 3) L (r.toList ++ st)) : z_V X (kC + mc) (kS + ms) w pc L (As.reverse ++ vr t :: st) := by
  refine z_back (args := vr t :: As) (a := ((vr t :: As).map (z_cv (fun _ => 0))).toArray) h hy0 (fun w' q => (z_oks_app.mp q).2.2) (fun ad ts H locs ls cells slots hh => ?_) kk
  obtain ⟨h1, h2, h3, h4, h5, h6, h7, h8⟩ := id hh
  have hoa : z_oks (fun _ => False) w (vr t :: As) := ⟨Or.inl (by rw [hw]; simp), z_oks_mem.mpr fun q hq => hx q hq (z_oks_mem.mp (z_oks_rev.mp (z_oks_app.mp h6).1) q hq)⟩
  obtain ⟨i, -, hi2⟩ := h2.find hw
  rw [z_stk]
  exact va_runVN (As := As.map (z_cv ad)) (rest := st.map (z_cv ad)) ⟨h.1, h.2.1, h.2.2.2.2.2.2, h.2.2.1, h.ts⟩ (hM ad ts H.size) ⟨va_cnB n h.ts (z_good_ws hy) rfl rfl rfl (h.2.2.2.1.2.2 _ hl rfl) (h.ts _ hy.2.1) ⟨hy.2.2.1, hy.2.2.2.1, hy.2.2.2.2.1⟩ (z_reach h hdd hy.2.2.2.2.2.2 mc ms), h.ts _ hi, h.ts _ hse⟩ ⟨z_Pc_blind, va_recv h.2.2.2.1.1 h2.2.2.1 hc hi2, fun U hU hW => z_Pc_of h.2.2.2.1 h2 hoa hU hW⟩ rfl (z_len ad hn) h7.1 rfl (z_words_room ad hst) hd (z_bud h hh)
theorem z_callSN {host : String} (h : z_H X cc own d) (hd : decode cc pc = .ok (.invokestatic idx, 3)) (hx : ∀ q ∈ As, z_okv (x_E0 X) w q → z_okv (fun _ => False) w q) (hy0 : ∀ r w', Po r w' → ∀ t, x_E0 X t → w' t = none) (hM : z_M (x_G X) y b nL ret d' mc ms As w Po) (hy : z_ym y b nL ret n) (hl : Cond.methodLinkNest own idx y host ∈ lw_tbl) (hs : Cond.static y ∈ z_F) (hn : As.length = n) (hdd : d' + 1 ≤ d) (hst : z_words st ≤ 8) (kk : ∀ r w', Po r w' → z_V X kC kS w' (pc + 3) L (r.toList ++ st)) : z_V X (kC + mc) (kS + ms) w pc L (As.reverse ++ st) := by
  refine z_back (args := As) (a := (As.map (z_cv (fun _ => 0))).toArray) h hy0 (fun w' q => (z_oks_app.mp q).2) (fun ad ts H locs ls cells slots hh => ?_) kk
  obtain ⟨h1, h2, h3, h4, h5, h6, h7, h8⟩ := id hh
  have hoa : z_oks (fun _ => False) w As := z_oks_mem.mpr fun q hq => hx q hq (z_oks_mem.mp (z_oks_rev.mp (z_oks_app.mp h6).1) q hq)
  rw [z_stk]
  exact va_runSN (As := As.map (z_cv ad)) (rest := st.map (z_cv ad)) ⟨h.1, h.2.1, h.2.2.2.2.2.2, h.2.2.1, h.ts⟩ (hM ad ts H.size) ⟨va_cnB n h.ts (z_good_ws hy) rfl rfl rfl (h.2.2.2.1.2.2 _ hl rfl) (h.ts _ hy.2.1) ⟨hy.2.2.1, hy.2.2.2.1, hy.2.2.2.2.1⟩ (z_reach h hdd hy.2.2.2.2.2.2 mc ms), h.ts _ hs, trivial⟩ ⟨z_Pc_blind, fun U hU hW => z_Pc_of h.2.2.2.1 h2 hoa hU hW⟩ rfl (z_len ad hn) h7.1 rfl (z_words_room ad hst) hd (z_bud h hh)
theorem z_callIN {host : String} (h : z_H X cc own d) (hd : decode cc pc = .ok (.invokespecial idx, 3)) (hx : ∀ q ∈ As, z_okv (x_E0 X) w q → z_okv (fun _ => False) w q) (hy0 : ∀ r w', Po r w' → ∀ t, x_E0 X t → w' t = none) (hM : z_M (x_G X) y b nL none d' mc ms (vr t :: As) w Po) (hy : z_ym y b nL none n) (hl : Cond.methodLinkNest own idx y host ∈ lw_tbl) (hi : Cond.instanceMethod y ∈ z_F) (hy1 : y.name = "<init>") (ht : w t ≠ none) (hn : As.length = n) (hdd : d' + 1 ≤ d) (hst : z_words st ≤ 8) (kk : ∀ r w', Po r w' → z_V X kC kS w' (pc + 3) L (r.toList ++ st)) : z_V X (kC + mc) (kS + ms) w pc L (As.reverse ++ vr t :: st) := by
  refine z_back (args := vr t :: As) (a := ((vr t :: As).map (z_cv (fun _ => 0))).toArray) h hy0 (fun w' q => (z_oks_app.mp q).2.2) (fun ad ts H locs ls cells slots hh => ?_) kk
  obtain ⟨h1, h2, h3, h4, h5, h6, h7, h8⟩ := id hh
  have hoa : z_oks (fun _ => False) w (vr t :: As) := ⟨Or.inl ht, z_oks_mem.mpr fun q hq => hx q hq (z_oks_mem.mp (z_oks_rev.mp (z_oks_app.mp h6).1) q hq)⟩
  rw [z_stk]
  exact va_runIN (As := As.map (z_cv ad)) (rest := st.map (z_cv ad)) ⟨h.1, h.2.1, h.2.2.2.2.2.2, h.2.2.1, h.ts⟩ (hM ad ts H.size) ⟨va_cnB n h.ts (z_good_ws hy) rfl rfl rfl (h.2.2.2.1.2.2 _ hl rfl) (h.ts _ hy.2.1) ⟨hy.2.2.1, hy.2.2.2.1, hy.2.2.2.2.1⟩ (z_reach h hdd hy.2.2.2.2.2.2 mc ms), hy1, h.ts _ hi⟩ ⟨z_Pc_blind, fun U hU hW => z_Pc_of h.2.2.2.1 h2 hoa hU hW⟩ rfl (z_len ad hn) h7.1 rfl (z_words_room ad hst) hd (z_bud h hh)
/-- where the context belongs to a method with contract Po from world w0 -/
def z_R (X : z_X) (w0 : z_w) (ret : Option FieldType) (Po : Option z_v → z_w → Prop) : Prop :=
  x_Q X = MQ (x_b X) (z_Qc (x_D X) (x_dA X) (x_ad X) w0 (x_H0 X).size Po) (x_a X) (x_s X) (x_mc X) (x_ms X) (z_fre w0 (x_ad X) (x_H0 X).size) ∧ x_A X = z_fre w0 (x_ad X) (x_H0 X).size ∧ x_P0 X = (fun t => w0 t ≠ none) ∧ x_H0 X = (x_s X).heap ∧ (x_me X).locks = false ∧ (∀ t, ¬ x_E0 X t) ∧ (x_me X).sig.returnType = ret
theorem z_end {w0 : z_w} {ret : Option FieldType} {Po : Option z_v → z_w → Prop} (hr : z_R X w0 ret Po) {r : Option z_v} {stk : List z_v} (hp : Po r w) {ad : z_T → Nat} {ts : List z_T} {H : Heap} {locs : List Loc} {ls : Array Slot} {cells slots : Nat} (hh : z_at X ad ts H locs ls cells slots kC kS w L stk) (hs : z_oks (x_E0 X) w stk → z_oks (x_E0 X) w r.toList) :
    (∀ t : State, t.heap = H → (x_s X).WarmedH t.vm → z_Qc (x_D X) (x_dA X) (x_ad X) w0 (x_H0 X).size Po (x_a X) (x_s X) (.returned (r.map (z_cv ad))) t) ∧ ∀ q ∈ locs, z_fre w0 (x_ad X) (x_H0 X).size q.base := by
  obtain ⟨r1, r2, r3, r4, r5, r6, r7⟩ := hr
  obtain ⟨h1, h2, h3, h4, h5, h6, h7, h8, h9⟩ := hh
  rw [r2] at h2 h3
  rw [r3] at h1 h4
  refine ⟨fun t ht hW => ⟨⟨r, w, ad, ts, rfl, hp, z_oks_no r6 (hs h6), by rw [ht]; exact h2, fun q hq => ⟨(h4 q hq).elim id (fun z => absurd z (r6 q)), h1 q hq⟩⟩, ?_⟩, h3.2.2⟩
  rw [r4] at h3 ⊢
  exact h3.F ht
theorem z_iret {w0 : z_w} {Po : Option z_v → z_w → Prop} {x : Int32} (h : z_H X cc own d) (hd : decode cc pc = .ok (.ireturn, 1)) (hr : z_R X w0 (some .int) Po) (hp : Po (some (vi x)) w) : z_V X kC kS w pc L [vi x] := fun ad ts H locs ls cells slots hh => by
  obtain ⟨e1, e2⟩ := z_end hr hp hh (fun q => q)
  refine W.widen (k := x_mc X) (n := x_ms X) (by have := hh.2.2.2.2.2.2.2.1; omega) (by have := hh.2.2.2.2.2.2.2.2; omega) ?_
  rw [hr.1]
  exact W.iret (v := x) h.1 h.2.1 hr.2.2.2.2.2.2 e1 e2 hd hr.2.2.2.2.1
/-- ireturn of a boolean that is 0 or 1 -/
theorem z_zret {w0 : z_w} {Po : Option z_v → z_w → Prop} {x : Int32} (h : z_H X cc own d) (hd : decode cc pc = .ok (.ireturn, 1)) (hr : z_R X w0 (some .boolean) Po) (hx : narrow .boolean (.int x) = .int x) (hp : Po (some (vi x)) w) : z_V X kC kS w pc L [vi x] := fun ad ts H locs ls cells slots hh => by
  obtain ⟨e1, e2⟩ := z_end hr hp hh (fun q => q)
  refine W.widen (k := x_mc X) (n := x_ms X) (by have := hh.2.2.2.2.2.2.2.1; omega) (by have := hh.2.2.2.2.2.2.2.2; omega) ?_
  rw [hr.1]
  exact W.zret (v := x) h.1 h.2.1 hr.2.2.2.2.2.2 hx e1 e2 hd hr.2.2.2.2.1
theorem z_lret {w0 : z_w} {Po : Option z_v → z_w → Prop} {x : Int64} (h : z_H X cc own d) (hd : decode cc pc = .ok (.lreturn, 1)) (hr : z_R X w0 (some .long) Po) (hp : Po (some (vl x)) w) : z_V X kC kS w pc L [vl x] := fun ad ts H locs ls cells slots hh => by
  obtain ⟨e1, e2⟩ := z_end hr hp hh (fun q => q)
  refine W.widen (k := x_mc X) (n := x_ms X) (by have := hh.2.2.2.2.2.2.2.1; omega) (by have := hh.2.2.2.2.2.2.2.2; omega) ?_
  rw [hr.1]
  exact W.lret (v := x) h.1 h.2.1 hr.2.2.2.2.2.2 e1 e2 hd hr.2.2.2.2.1
theorem z_vret {w0 : z_w} {Po : Option z_v → z_w → Prop} (h : z_H X cc own d) (hd : decode cc pc = .ok (.return_, 1)) (hr : z_R X w0 none Po) (hp : Po none w) : z_V X kC kS w pc L [] := fun ad ts H locs ls cells slots hh => by
  obtain ⟨e1, e2⟩ := z_end (r := none) hr hp hh (fun q => q)
  refine W.widen (k := x_mc X) (n := x_ms X) (by have := hh.2.2.2.2.2.2.2.1; omega) (by have := hh.2.2.2.2.2.2.2.2; omega) ?_
  rw [hr.1]
  exact W.vret h.1 h.2.1 hr.2.2.2.2.2.2 e1 e2 hd hr.2.2.2.2.1
theorem z_aret {w0 : z_w} {Po : Option z_v → z_w → Prop} {rt : FieldType} {o : Option z_T} (h : z_H X cc own d) (hd : decode cc pc = .ok (.areturn, 1)) (hr : z_R X w0 (some rt) Po) (hrt : (∃ n, rt = .object n) ∨ ∃ t, rt = .array t) (hp : Po (some (.inr (.inr o))) w) : z_V X kC kS w pc L [.inr (.inr o)] := fun ad ts H locs ls cells slots hh => by
  obtain ⟨e1, e2⟩ := z_end hr hp hh (fun q => q)
  refine W.widen (k := x_mc X) (n := x_ms X) (by have := hh.2.2.2.2.2.2.2.1; omega) (by have := hh.2.2.2.2.2.2.2.2; omega) ?_
  rw [hr.1]
  refine W.aret (v := z_cv ad (.inr (.inr o))) h.1 h.2.1 hr.2.2.2.2.2.2 hrt ?_ e1 e2 hd hr.2.2.2.2.1
  cases o with
  | none => exact Or.inl rfl
  | some t => exact Or.inr ⟨_, rfl⟩
def z_args : Nat → List z_v → List (Nat × z_v)
  | _, [] => []
  | i, v :: vs => (i, v) :: z_args (bif z_c2 v then i + 2 else i + 1) vs
theorem z_args_eq (ad : z_T → Nat) : ∀ (i : Nat) (vs : List z_v), (z_args i vs).map (fun q => (q.1, z_cv ad q.2)) = lv_args i (vs.map (z_cv ad))
  | _, [] => rfl
  | i, v :: vs => by
    show (i, z_cv ad v) :: _ = (i, z_cv ad v) :: lv_args (if (z_cv ad v).category = 2 then i + 2 else i + 1) (vs.map (z_cv ad))
    rw [z_args_eq ad _ vs, z_cat]
    by_cases hc : z_c2 v = true <;> simp [hc]
theorem z_args_ok {E0 : z_T → Prop} {w : z_w} : ∀ {i : Nat} {vs : List z_v}, z_oks E0 w vs → z_okl E0 w (z_args i vs)
  | _, [], _ => fun q h => by cases h
  | i, v :: vs, h => fun q hq => by
    rcases List.mem_cons.mp hq with rfl | hq
    · exact h.1
    · exact z_args_ok h.2 q hq
/-- a method is proved from its first instruction on, in any context -/
theorem z_met {G : z_G} {d mc ms : Nat} {args : List z_v} {w : z_w} {Po : Option z_v → z_w → Prop} {y : MethodName} {cc : ByteArray} {nL : Nat} {ret : Option FieldType} {n : Nat} (hy : z_ym y cc nL ret n) (hd1 : 1 ≤ d) (hlen : (z_args 0 args).length ≤ nL ∧ (args.map (fun v => if z_c2 v = true then 2 else 1)).sum ≤ nL)
    (body : ∀ X : z_X, x_G X = G → x_n X = nL → x_mc X = mc → x_ms X = ms → (x_me X).name = y.name → z_H X cc y.cls d → z_R X w ret Po → z_V X mc ms w 0 (z_args 0 args) []) : z_M G y cc nL ret d mc ms args w Po := by
  obtain ⟨l, D, dA⟩ := G
  intro ad ts sz
  refine Met.ofW (cc := cc) (maxL := nL) (ret := ret) hy.2.2.2.2.2.1 rfl ?_
  intro p e s m a below meth c s₁ B hml hv
  obtain ⟨rfl, hsz, ho, hS, hK⟩ := hv
  have hown : s.vm.findClass y.cls = some m.cls := findClass_of_methodNamed B.named
  have hnm : meth.name = y.name := (name_of_methodNamed B.named B.method).1
  subst hsz
  have hl0 : (lg_sl (args.map (z_cv ad))).length ≤ nL := by
    have e : (lg_sl (args.map (z_cv ad))).length = (args.map (fun v => if z_c2 v = true then 2 else 1)).sum := by
      rw [lg_sl, List.length_flatMap, List.map_map]
      congr 1
      refine List.map_congr_left fun v _ => ?_
      show (if (z_cv ad v).category = 2 then [Slot.val (z_cv ad v), .second] else [.val (z_cv ad v)]).length = _
      rw [z_cat]
      by_cases hc : z_c2 v = true <;> simp [hc]
    omega
  have hl := lv_entry (args.map (z_cv ad)) (n := nL) hl0
  rw [lg_entry_eq]
  generalize (lg_sl (args.map (z_cv ad)) ++ List.replicate (nL - (lg_sl (args.map (z_cv ad))).length) Slot.unset).toArray = ls at hl ⊢
  rw [← z_args_eq] at hl
  have hdom : ∀ t, w t ≠ none → ∃ c, w t = some c := fun t ht => by
    cases hc : w t with
    | none => exact absurd hc ht
    | some c => exact ⟨c, rfl⟩
  let X : z_X := (p, l, e, (headSpec [.code y cc nL ret] (z_rm d mc ms)).room, s, m, (args.map (z_cv ad)).toArray, below, meth, c, MQ below (z_Qc D dA ad w s.heap.size Po) (args.map (z_cv ad)).toArray s mc ms (z_fre w ad s.heap.size), D, dA, z_fre w ad s.heap.size, s.heap, (fun t => w t ≠ none), (fun _ => False), ad, nL, mc, ms)
  have hV : z_V X mc ms w 0 (z_args 0 args) [] := body X rfl rfl rfl rfl hnm ⟨B.exec, B.bytes, hown, hK, ⟨rfl, rfl, Nat.le_refl d, Nat.le_refl (100 * d), hd1⟩, fun q hq => Or.inr hq, hml⟩ ⟨rfl, rfl, rfl, rfl, B.notSynchronized, fun _ h => h, B.returns⟩
  refine hV ad ts s.heap [] ls 0 0 ⟨fun _ _ => rfl, ⟨hS.1, hS.2.1, hS.2.2.1, ⟨hS.2.2.2.1.1, fun k q hk => ?_⟩, hS.2.2.2.2⟩, va_S.rf, fun t ht => Or.inl ht, z_args_ok (z_oks_mem.mpr fun v hv => z_okv_up (z_oks_mem.mp ho v hv)), trivial, hl, by show 0 + mc ≤ mc; omega, by show 0 + ms ≤ ms; omega⟩
  rw [z_ls, List.getElem?_map] at hk
  cases ht : ts[k]? with
  | none => rw [ht] at hk; cases hk
  | some t =>
    rw [ht] at hk
    cases hk
    exact Or.inl ⟨t, (hS.1 t).mpr (List.mem_of_getElem? ht), rfl⟩
end ZK
