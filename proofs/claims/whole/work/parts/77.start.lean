/-! the law from its entry -/
/-- the tables' words at the law's start -/
theorem l_nest {s : State} {a : Array Value} {w : Cond} (hn : z_nest w = true) (h : w.before a s = true) : w.before #[] s = true := by
  match w, hn, h with
  | .fieldLinkNest _ _ _ _ _ _, _, h => exact h
  | .methodLinkNest _ _ _ _, _, h => exact h
  | .arrayOver (.object _), _, h => exact h
theorem l_arr {s : State} {a : Array Value} {ty : FieldType} (h : (Cond.arrayClass ty).before a s = true) (hp : ∀ C, ty ≠ .object C) : ∃ cA, ArrOfT s cA ty ∧ va_RA s cA ty := by
  obtain ⟨cA, kA, comp, f1, f2, f3⟩ := Cond.arrayClass_spec h
  refine ⟨cA, fun n z => ⟨fun k h => (by cases h), kA, f2, comp, f3⟩, ?_⟩
  cases ty with
  | object C => exact absurd rfl (hp C)
  | _ => exact f1
theorem l_over {s : State} {a : Array Value} {C : String} (h : (Cond.arrayOver (.object C)).before a s = true) : ∃ cA, ArrOfT s cA (.object C) ∧ va_RA s cA (.object C) := by
  obtain ⟨comp, c, k, h1, h2, h3, h4, h5⟩ := Cond.arrayOver_spec h
  exact ⟨c, fun n z => ⟨fun k h => (by cases h), k, h3, comp, h4⟩, k, comp, h3, h4, h1, h5⟩
theorem l_K {s : State} {a : Array Value} (hts : ∀ w ∈ lw_tbl, w.before a s = true) : ∃ (D : va_G) (dA : Nat → ClassId), z_K D dA s := by
  have hF : ∀ w ∈ z_F, w.before a s = true := fun w hw => hts w (List.mem_filter.mp hw).1
  obtain ⟨c0, i0, n0⟩ := u_known (C := RX0) (T := TX0) (N := 7) hF fcX0 (hF _ insX0)
  obtain ⟨c1, i1, n1⟩ := u_known (C := RX1) (T := TX1) (N := 6) hF fcX1 (hF _ insX1)
  obtain ⟨c2, i2, n2⟩ := u_known (C := RX2) (T := TX2) (N := 5) hF fcX2 (hF _ insX2)
  obtain ⟨c3, i3, n3⟩ := u_known (C := RX3) (T := TX3) (N := 14) hF fcX3 (hF _ insX3)
  obtain ⟨c4, i4, n4⟩ := u_known (C := RX4) (T := TX4) (N := 6) hF fcX4 (hF _ insX4)
  obtain ⟨c5, i5, n5⟩ := u_known (C := RX5) (T := TX5) (N := 10) hF fcX5 (hF _ insX5)
  obtain ⟨c6, i6, n6⟩ := u_known (C := RX6) (T := TX6) (N := 2) hF fcX6 (hF _ insX6)
  obtain ⟨c7, i7, n7⟩ := u_known (C := RX7) (T := TX7) (N := 4) hF fcX7 (hF _ insX7)
  obtain ⟨c8, i8, n8⟩ := u_known (C := RX8) (T := TX8) (N := 5) hF fcX8 (hF _ insX8)
  obtain ⟨c9, i9, n9⟩ := u_known (C := RX9) (T := TX9) (N := 2) hF fcX9 (hF _ insX9)
  obtain ⟨c10, i10, n10⟩ := u_known (C := RX10) (T := TX10) (N := 2) hF fcX10 (hF _ insX10)
  obtain ⟨c11, i11, n11⟩ := u_known (C := RX11) (T := TX11) (N := 17) hF fcX11 (hF _ insX11)
  obtain ⟨c12, i12, n12⟩ := u_known (C := RX12) (T := TX12) (N := 69) hF fcX12 (hF _ insX12)
  obtain ⟨a0, t0⟩ := l_arr (hts _ ac_int) (fun C e => by cases e)
  obtain ⟨a1, t1⟩ := l_arr (hts _ ac_long) (fun C e => by cases e)
  obtain ⟨a2, t2⟩ := l_arr (hts _ ac_boolean) (fun C e => by cases e)
  obtain ⟨a3, t3⟩ := l_over (hts _ aoX1)
  obtain ⟨a4, t4⟩ := l_over (hts _ aoX0)
  obtain ⟨a5, t5⟩ := l_over (hts _ aoX7)
  refine ⟨(fun k => match k with | 0 => c0 | 1 => c1 | 2 => c2 | 3 => c3 | 4 => c4 | 5 => c5 | 6 => c6 | 7 => c7 | 8 => c8 | 9 => c9 | 10 => c10 | 11 => c11 | _ => c12, fun k => match k with | 0 => i0 | 1 => i1 | 2 => i2 | 3 => i3 | 4 => i4 | 5 => i5 | 6 => i6 | 7 => i7 | 8 => i8 | 9 => i9 | 10 => i10 | 11 => i11 | _ => i12), (fun k => match k with | 0 => a0 | 1 => a1 | 2 => a2 | 3 => a3 | 4 => a4 | _ => a5), ⟨fun k q hq => ?_, fun k q hq => ?_⟩, fun w hw hg a' => word_at (State.WarmedH.refl s) (good_of_word hg) (hts w hw), fun w hw hn => l_nest hn (hts w hw)⟩
  · match k, hq with
    | 0, hq => cases hq; exact n0
    | 1, hq => cases hq; exact n1
    | 2, hq => cases hq; exact n2
    | 3, hq => cases hq; exact n3
    | 4, hq => cases hq; exact n4
    | 5, hq => cases hq; exact n5
    | 6, hq => cases hq; exact n6
    | 7, hq => cases hq; exact n7
    | 8, hq => cases hq; exact n8
    | 9, hq => cases hq; exact n9
    | 10, hq => cases hq; exact n10
    | 11, hq => cases hq; exact n11
    | 12, hq => cases hq; exact n12
    | k + 13, hq => cases hq
  · match k, hq with
    | 0, hq => cases hq; exact t0
    | 1, hq => cases hq; exact t1
    | 2, hq => cases hq; exact t2
    | 3, hq => cases hq; exact t3
    | 4, hq => cases hq; exact t4
    | 5, hq => cases hq; exact t5
    | k + 6, hq => cases hq
/-- the law's context -/
def l_X (p : Program) (l : Launch) (e : Env) (s : State) (m : MethodId) (below : List Frame) (meth : Method) (c : Code) (b : Nat) (D : va_G) (dA : Nat → ClassId) : z_X := (p, l, e, room_1, s, m, #[Value.ref b], below, meth, c, lw_Z below #[Value.ref b] s, D, dA, (fun q => s.heap.size ≤ q), s.heap, (fun t => t = sc), (fun t => t = sc), (fun _ => b), 4, 600000, 7302250)
theorem l_P {p : Program} {e : Env} {s : State} {m : MethodId} {below : List Frame} {meth : Method} {c : Code} (l : Launch) {b L : Nat} {xs : Nat → Int32} (hL : L ≤ 3072) (C0 : lw_At p s m meth c b L xs) {D : va_G} {dA : Nat → ClassId} (hK : z_K D dA s) : lx_P (l_X p l e s m below meth c b D dA) b L xs := by
  obtain ⟨hx, hb, hr, hml, hown, hts, hX, hbl, hlocks, hgv⟩ := id C0
  refine ⟨⟨hx, hb, hown, hK, ⟨rfl, rfl, Nat.le_of_ble_eq_true rfl, Nat.le_of_ble_eq_true rfl, Nat.le_of_ble_eq_true rfl⟩, fun _ h => h, hml⟩, ⟨hX, hbl, Nat.not_le.mpr hbl, rfl, rfl⟩, rfl, fun _ h => h, hL, fun pc kC kS w LLs hd ad ts H locs ls cells slots hh => ?_⟩
  obtain ⟨h1, h2, h3, h4, h5, h6, h7, h8, h9⟩ := hh
  have e8 : cells ≤ 600000 := Nat.le_trans (Nat.le_add_right _ _) h8
  have e9 : slots ≤ 7302250 := Nat.le_trans (Nat.le_add_right _ _) h9
  exact va_forget (fun q hq => h3.2.2 q hq) (W.widen e8 e9 (lw_ret hx hb hr hlocks hd))
theorem l_KS0 {w w1 w2 w3 : z_w} {l : r_l} {r : r_r} {lM : r_l} {rM : r_r} (h1 : r_p dX (TX 0 0 0 0) w cX0 l r w1) (h2 : ∀ t, dX t → w2 t = w1 t) (h3 : r_p dM (TM 0) w2 cM0 lM rM w3) : KS 0 0 0 w3 :=
  ⟨0, 0, 0, cX0, l, r, cM0, lM, rM, ⟨part_keep h1 (fun t ht => (h3.2 t (dM_X ht)).trans (h2 t ht)), by omega, by omega, by omega, by omega, rfl, rfl, rfl, fun i hi => by omega, fun i hi => by omega, fun i hi => by omega⟩, part_keep h3 (fun _ _ => rfl), CP_0⟩
set_option maxHeartbeats 4000000 in
set_option maxRecDepth 100000 in
theorem l_start {X : z_X} {b n : Nat} {xs : Nat → Int32} (hP : lx_P X b n xs) : z_V X 600000 7302250 (fun _ => none) 0 [(0, vr sc)] [] := by
  have h := hP.1
  have hn := hP.2.2.2.2.1
  have hx := hP.2.2.1
  have hE : ∀ t : z_T, z_eq t sc = false → ¬ x_E0 X t := fun t q z => by
    rw [hP.2.2.2.1 t z, z_eq_self] at q
    cases q
  refine z_less (kC' := lb_C 0 0 0 + 48 + 1 + 41 + 1) (kS' := lb_S 0 0 0 + 5676 + 69 + 1758 + 17) (by unfold lb_C; omega) (by unfold lb_S; exact Nat.le_of_ble_eq_true rfl) ?_
  refine z_newE (kC := lb_C 0 0 0 + 48 + 1 + 41) (kS := lb_S 0 0 0 + 5676 + 69 + 1758) (n := 17) h dL_law_0 (0, 0) (hE _ rfl) nwL_7 rfl ?_
  refine z_dup_r h dL_law_3 ?_
  refine z_callI (kC := lb_C 0 0 0 + 48 + 1) (kS := lb_S 0 0 0 + 5676 + 69) h dL_law_4 (l_hx rfl) (fun r w1 q t ht => ?_) (m_X11_init (x_G X) _ (z_set_self _ _ _) (fun t _ ht => z_set_ne ht)) ym_X11_init mlL_9 im_X11_init rfl (by rw [z_set_self]; simp) rfl (by decide) (Nat.le_of_ble_eq_true rfl) ?_
  · rw [hP.2.2.2.1 t ht, q.2.2 sc (show ¬ (999 < 100) by decide)]
    rfl
  rintro r1 w1 ⟨e1, h1⟩
  subst e1
  refine z_astore_n h dL_law_7 (by rw [hx]; decide) ?_
  have hno : ∀ t, dM t → w1 t = none := fun t ht => by
    rw [h1.2 t (fun z => dX_M ht z), z_set_ne (fun e => by rw [e] at ht; exact absurd ht (show ¬ (100 ≤ 0) by decide))]
  refine z_newE (kC := lb_C 0 0 0 + 48) (kS := lb_S 0 0 0 + 5676) (n := 69) h dL_law_8 (100, 0) (hE _ rfl) nwL_10 (hno _ (Nat.le_of_ble_eq_true rfl)) ?_
  refine z_dup_r h dL_law_11 ?_
  refine z_callI (kC := lb_C 0 0 0) (kS := lb_S 0 0 0) h dL_law_12 (l_hx rfl) (fun r w1 q t ht => ?_) (m_X12_init (x_G X) _ (z_set_self _ _ _) (fun t hd ht => (z_set_ne ht).trans (hno t hd))) ym_X12_init mlL_12 im_X12_init rfl (by rw [z_set_self]; simp) rfl (by decide) (Nat.le_of_ble_eq_true rfl) ?_
  · rw [hP.2.2.2.1 t ht, q.2.1 sc (Nat.le_of_ble_eq_true rfl)]
    rfl
  rintro r2 w3 ⟨e2, h3⟩
  subst e2
  refine z_astore_n h dL_law_15 (by rw [hx]; decide) ?_
  refine z_iconst (v := 0) h dL_law_16 (by decide) ?_
  refine z_istore_n h dL_law_17 (by rw [hx]; decide) ?_
  refine z_loc (LL 0) ⟨rfl, rfl, rfl, rfl, trivial⟩ ?_
  exact l_loop hP 512 0 rfl 0 0 _ (l_KS0 h1 (fun t ht => z_set_ne (fun e => by rw [e] at ht; exact absurd ht (show ¬ (100 < 100) by decide))) h3)
/-- the law, from its entry -/
theorem whole_start {p : Program} {e : Env} {s : State} {m : MethodId} {below : List Frame} {meth : Method} {c : Code} (l : Launch) (hflags : l.flags = flags0) {b L : Nat} {xs : Nat → Int32} (hL : L ≤ 3072) (C0 : lw_At p s m meth c b L xs) : W p l e room_1 s m #[Value.ref b] below meth c s.heap [] 0 0 (lw_Z below #[Value.ref b] s) (entryFrame m ([Value.ref b] : List Value).toArray 4) := by
  obtain ⟨hx, hb, hr, hml, hown, hts, hX, hbl, hlocks, hgv⟩ := id C0
  obtain ⟨D, dA, hK⟩ := l_K hts
  have hl := lv_entry ([.ref b]) (n := 4) (Nat.le_of_ble_eq_true rfl)
  rw [lg_entry_eq]
  generalize (lg_sl ([.ref b]) ++ List.replicate (4 - (lg_sl ([.ref b])).length) Slot.unset).toArray = ls at hl ⊢
  have hl : lv_has ls 4 [(0, .ref b)] := hl
  have hV := l_start (l_P (e := e) (below := below) l hL C0 hK)
  refine hV (fun _ => b) [] s.heap [] ls 0 0 ⟨fun _ _ => rfl, ⟨fun t => ⟨fun q => absurd rfl q, fun q => absurd q List.not_mem_nil⟩, List.nodup_nil, fun k q h => absurd h (by simp [z_ls]), ⟨fun i j p q h => absurd h (by simp [z_ls]), fun k q h => absurd h (by simp [z_ls])⟩, fun t c h => absurd h (by simp)⟩, va_S.rf, fun t ht => Or.inr ht, fun q hq => ?_, trivial, hl, Nat.le_of_ble_eq_true rfl, Nat.le_of_ble_eq_true rfl⟩
  rw [List.mem_singleton.mp hq]
  exact Or.inr rfl
-- ===== YOUR PART ENDS =====
set_option maxHeartbeats 4000000 in
theorem lw_walk (l : Launch) (hflags : l.flags = flags0) (b : Addr) (xs : List Int32) : MetFree l x (headSpec (Jvm.Cond.code x code maxLocals ret :: tables_1) room_1) (lw_P b xs) (fun _ _ _ _ _ => True) lw_Q := by
  refine MetFree.of_bodyS (code := code) (maxLocals := maxLocals) (ret := ret) (by decide) ?_ ?_
  · intro args s m h hn
    obtain ⟨meth, c, h1, h2, h3, h4, h5, h6, -, -⟩ := Cond.code_spec hn (atoms_spec (ws := Jvm.Cond.code x code maxLocals ret :: tables_1) h _ List.mem_cons_self)
    exact ⟨meth, c, h1, h2, h3, h4, h5, h6⟩
  · intro p e s m args below meth c s₁ B hml0 hP _
    obtain ⟨rfl, hx, hbd, hgv⟩ := hP
    obtain ⟨scr, harrAt, hlist, hof, hsmall⟩ := hx
    obtain ⟨hcb, hkn, -, -⟩ := State.arrayAt?_spec harrAt
    have hown : s.vm.findClass R_law = some m.cls := findClass_of_methodNamed B.named
    have hts0 : ∀ c ∈ (Jvm.Cond.code x code maxLocals ret :: tables_1), c.before #[Value.ref b] s = true := atoms_spec (ws := Jvm.Cond.code x code maxLocals ret :: tables_1) B.pre
    have hts : ∀ w ∈ lw_tbl, w.before #[Value.ref b] s = true := k2_hts_sels lw_privs (fun w hw => hts0 w (List.mem_cons_of_mem _ hw)) lw_privs_ok
    have hml : c.maxLocals = 4 := B.maxLocals_eq (hts0 _ List.mem_cons_self)
    have X₀ : Stand p l e room_1 s m #[Value.ref b] below meth c s₁ [] 0 0 := Stand.of_body B
    have hh0 : s₁.heap = s.heap := by rw [B.state]; rfl
    have hsz : scr.slots.size = xs.length := by rw [← Array.length_toList, hlist, List.length_map]
    have hval : ∀ j : Nat, j < xs.length → scr.slots[j]? = some (.int (xs.getD j 0)) := fun j hj => by
      rw [← Array.getElem?_toList, hlist]
      simp [hj]
    have hbl : b < s.heap.size := (Array.getElem?_eq_some_iff.mp hcb).1
    have hX : va_X b xs.length (fun j => xs.getD j 0) s s.heap := ⟨scr, hcb, hof, hkn, hsz, hval⟩
    have K : W p l e room_1 s m #[Value.ref b] below meth c s₁.heap [] 0 0 (lw_Z below #[Value.ref b] s) (entryFrame m ([Value.ref b] : List Value).toArray 4) := by
      rw [hh0]
      exact whole_start l hflags hbd ⟨B.exec, B.bytes, B.returns, hml, hown, hts, hX, hbl, B.notSynchronized, hgv⟩
    obtain ⟨t, a1, o, b1, b2, b3⟩ := K s₁ rfl X₀
    exact ⟨t, o, a1, b1, b2, b3⟩
theorem lw_pre_spec {args : Array Value} {s : State} (h : (Jvm.Cond.and given_1 narrow_1).before args s = true) (hr : rest_1_c.before args s = true) : ∃ (b : Addr) (xs : List Int32), lw_P b xs args s := by
  have hs := flat_of_before _ h
  have hq := flat_of_before _ hr
  have hc : (Cond.count 1).before args s = true := hs _ (by decide +kernel)
  have harr : (Cond.arrayOf (.arg 0) .int).before args s = true := hs _ (by decide +kernel)
  have hle : (Cond.le (.length (.arg 0)) (.int 3072)).before args s = true := hs _ (by decide +kernel)
  have hlen : (Cond.isInt (.length (.arg 0))).before args s = true := hq _ (by decide +kernel)
  have hall : (Cond.all (.arg 0) (.isInt (.elem (.arg 0) (.index 0)))).before args s = true := hq _ (by decide +kernel)
  obtain ⟨b, xs, hb, hx⟩ := State.ints_of_pre rfl harr hlen hall
  have hsm : xs.length < 2 ^ 31 := hx.choose_spec.2.2.2
  have hev : (Term.length (.arg 0)).eval args s none [] s = some (.int xs.length.toInt32) := hx.length_eval hb
  have hv := Cond.le_ints hev (show (Term.int 3072).eval args s none [] s = some (.int 3072) from rfl)
  have hd : xs.length.toInt32 ≤ 3072 := by
    simpa [Cond.before, Cond.holds, hv] using hle
  have hN : xs.length ≤ 3072 := (Int32.ofNat_le_ofNat hsm (by decide)).mp (show Int32.ofNat xs.length ≤ Int32.ofNat 3072 from hd)
  exact ⟨b, xs, Cond.one_arg hc (show args[0]? = some (.ref b) from hb), hx, hN, h⟩
theorem lw_comes (l : Launch) (hflags : l.flags = flags0) : Comes l x (Jvm.Cond.code x code maxLocals ret :: tables_1) room_1 (fun tb e args s => Calls_1 tb e args s ∧ rest_1 tb e args s ∧ Pre_1 tb e args s)
    (fun _ _ args s o t => lw_Q args s o t) := by
  intro p e ha hc hk s m args below hf hfit hheap happ hpre
  obtain ⟨b, xs, hP⟩ := lw_pre_spec hpre.2.2 hpre.2.1
  obtain ⟨k, o, h1, h2, h3, hQ⟩ := lw_walk l hflags b xs p e ha hc hk s m args below hf ((Spec.applies_iff_loose hf).mp happ).1 hP trivial
  exact ⟨k, o, h1, h2, h3, hQ⟩
theorem lw_frame {s t : State} {o : Outcome} {args : Array Value} (h : Framed s o t [] 600000 7302250) :
    Framed s o t (fieldLocs frame_1_writes args s ++ arrayLocs frame_1_arrays args s ++ staticLocs frame_1_statics s) 600000 7302250 := h
theorem lw_limb (L : Cond) (hL : ∀ (args : Array Value) (s t : State), L.after args s (.returned (some (.int 1))) t = true) :
    ArmFor flags0 classFile x code maxLocals ret World_1 tables_1 room_1 Calls_1 rest_1 Pre_1
      (fun tb e a s o t => postC L tb e a s o t ∧ Framed s o t (fieldLocs frame_1_writes a s ++ arrayLocs frame_1_arrays a s ++ staticLocs frame_1_statics s) 600000 7302250) := by
  intro l hflags _ _ p e ha hc hk s m args below hf hfit hheap happ hpre
  obtain ⟨k, o, h1, h2, h3, rfl, hF⟩ := lw_comes l hflags p e ha hc hk s m args below hf hfit hheap happ hpre
  exact ⟨k, _, h1, h2, h3, hL args s _, lw_frame hF⟩
theorem i_vc : Claimed_1_1 ∧ Claimed_1_2 := ⟨lw_limb limb_1_1 (fun args s t => by simp [limb_1_1, Cond.after, Cond.holds, Cond.value]), lw_limb limb_1_2 (fun args s t => Cond.after_iff.mpr (by
  first | (rw [show limb_1_2 = Cond.eq .result (.int 1) from rfl, Cond.eq_ints (x := 1) (y := 1) rfl rfl]; simp; done) | (simp [limb_1_2, Cond.value, Term.eval]; done)))⟩
