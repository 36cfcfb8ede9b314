def R_law : String := "BogForgeLaw"
def lw_P (b : Addr) (xs : List Int32) (args : Array Value) (s : State) : Prop := args = #[.ref b] ∧ s.IntsAt b xs ∧ xs.length ≤ 3072 ∧ (Jvm.Cond.and given_1 narrow_1).before args s = true
def lw_Q (_ : Array Value) (s : State) (o : Outcome) (t : State) : Prop := o = .returned (some (.int 1)) ∧ Framed s o t [] 600000 7302250
def lw_Z (below : List Frame) (a : Array Value) (s : State) : State → Prop := fun t => ∃ o, t.status = .running ∧ Ended t below o ∧ lw_Q a s o t
/-- the law's own end, with 1 on the stack, nothing written that was there before, its room as the claim has it -/
theorem lw_ret {p : Program} {l : Launch} {e : Env} {s : State} {m : MethodId} {below : List Frame} {meth : Method} {c : Code} {b : Nat} (hx : p.tables.exec = Jvm.exec) (hb : c.code = code) (hr : meth.sig.returnType = ret) (hlocks : meth.locks = false) {pc : Nat} {H : Heap} {ls : Array Slot} (hdg : decode code pc = .ok (.ireturn, 1)) : W p l e room_1 s m #[Value.ref b] below meth c H [] 600000 7302250 (lw_Z below #[Value.ref b] s) (F0 m pc ls [.int 1]) := by
  intro T hT X
  obtain ⟨fs, hret, hrun, hended, hW, hframe⟩ := X.leave (v := some (.int 1)) (hlocks := hlocks) (fun h => by rw [hr] at h; cases h)
  have hmeth' : T.vm.method? m = some meth := X.method'
  refine ⟨T.setFrames fs, ?_, .returned (some (.int 1)), hrun, hended, rfl, ⟨_, rfl⟩, hW, hframe⟩
  jvm_step X.here [X.here.top, hx, hb, hdg, hmeth', hr, ret, narrow_b1]
  (try refine ⟨rfl, ?_⟩); (try refine ⟨rfl, ?_⟩)
  first | (intro acts; rw [hret _ acts rfl rfl rfl]) | rw [hret _ _ rfl rfl rfl]
  exact Steps.refl _
/-- what holds at the law's entry: the machine, the code, the tables' words (any of lw_tbl by 'hts w (by decide +kernel)'), the script of L ints xs at the cell b, what the Statement gives of the start (any of its parts by flat_of_before) -/
def lw_At (p : Program) (s : State) (m : MethodId) (meth : Method) (c : Code) (b L : Nat) (xs : Nat → Int32) : Prop :=
  p.tables.exec = Jvm.exec ∧ c.code = code ∧ meth.sig.returnType = ret ∧ c.maxLocals = 4 ∧ s.vm.findClass R_law = some m.cls ∧ (∀ w ∈ lw_tbl, w.before #[Value.ref b] s = true) ∧ va_X b L xs s s.heap ∧ b < s.heap.size ∧ meth.locks = false ∧ (Jvm.Cond.and given_1 narrow_1).before #[Value.ref b] s = true
/-! the law's walk: the script, a new cell beside it, what the law's context gives -/
abbrev sc : z_T := (999, 0)
section LK
variable {X : z_X} {cc : ByteArray} {own : String} {d kC kS : Nat} {w : z_w} {pc : Nat} {L : List (Nat × z_v)} {st : List z_v}
/-- the script -/
def lx_S (X : z_X) (b n : Nat) (xs : Nat → Int32) : Prop := va_X b n xs (x_s X) (x_H0 X) ∧ b < (x_H0 X).size ∧ ¬ x_A X b ∧ x_ad X sc = b ∧ x_P0 X sc
theorem z_sld {b n : Nat} {xs : Nat → Int32} (hS : lx_S X b n xs) {i : Int32} (h : z_H X cc own d) (hd : decode cc pc = .ok (.iaload, 1)) (hin : vp_in i n) (k : z_V X kC kS w (pc + 1) L (vi (xs i.toNatClampNeg) :: st)) : z_V X kC kS w pc L (vi i :: vr sc :: st) := fun ad ts H locs ls cells slots ⟨h1, h2, h3, h4, h5, h6, h7, h8⟩ => by
  have e : ad sc = b := (h1 sc hS.2.2.2.2).trans hS.2.2.2.1
  have kk := k ad ts H locs ls cells slots ⟨h1, h2, h3, h4, h5, ⟨trivial, h6.2.2⟩, h7, h8⟩
  show z_W X H locs cells slots pc ls (.int i :: .ref (ad sc) :: st.map (z_cv ad))
  rw [e]
  exact va_sld h.1 h.2.1 hS.1 hS.2.1 hS.2.2.1 h3 hin hd kk
theorem z_slen {b n : Nat} {xs : Nat → Int32} (hS : lx_S X b n xs) (h : z_H X cc own d) (hd : decode cc pc = .ok (.arraylength, 1)) (k : z_V X kC kS w (pc + 1) L (vi (nI n) :: st)) : z_V X kC kS w pc L (vr sc :: st) := fun ad ts H locs ls cells slots ⟨h1, h2, h3, h4, h5, h6, h7, h8⟩ => by
  have e : ad sc = b := (h1 sc hS.2.2.2.2).trans hS.2.2.2.1
  have kk := k ad ts H locs ls cells slots ⟨h1, h2, h3, h4, h5, ⟨trivial, h6.2⟩, h7, h8⟩
  show z_W X H locs cells slots pc ls (.ref (ad sc) :: st.map (z_cv ad))
  rw [e]
  exact va_slen h.1 h.2.1 hS.1 hS.2.1 hS.2.2.1 h3 hd kk
/-- a new object where the context holds what isn't of the world -/
theorem z_newE {idx ci n : Nat} {fs : List z_v} (h : z_H X cc own d) (hd : decode cc pc = .ok (.new idx, 3)) (t : z_T) (he0 : ¬ x_E0 X t) (hn : z_NW own idx ci n fs) (ht : w t = none) (kk : z_V X kC kS (z_set w t (z_ob ci fs)) (pc + 3) L (vr t :: st)) : z_V X (kC + 1) (kS + n) w pc L st := fun ad ts H locs ls cells slots hh => by
  obtain ⟨C, T, ty0, f1, f2, f3, f4, f5, f6, f7, f8⟩ := hn
  have b1 : cells + 1 ≤ (x_R X).cells := by rw [h.2.2.2.2.1.1]; have := hh.2.2.2.2.2.2.2.1; omega
  have b2 : slots + n ≤ (x_R X).slots := by rw [h.2.2.2.2.1.2.1]; have := hh.2.2.2.2.2.2.2.2; omega
  refine va_new h.1 h.2.1 h.ts f2 ty0 f3 h.2.2.1 (h.ts _ f4) (h.ts _ f5) (h.ts _ f6) h.2.2.2.1.1 hh.2.1.2.2.1 hh.2.1.2.2.2.1 hh.2.2.1 h.2.2.2.2.2.1 f1 (fs := fs.map (z_cv ad)) (f7 ad) b1 b2 hd (fun a H1 hP hD hS => ?_)
  have hc : z_okc (fun _ => False) w (z_ob ci fs) := fun v hv => z_okv_mono (w := fun _ => none) (fun _ q => absurd rfl q) (z_oks_mem.mp f8 v hv)
  obtain ⟨h1, h2, h3, h4, h5, h6, h7, h8, h9⟩ := hh
  obtain ⟨h10, h11⟩ := h2.new ht he0 hc hP hD
  have hm : ∀ q, w q ≠ none → z_set w t (z_ob ci fs) q ≠ none := fun _ hq => z_set_some hq
  have := kk (fun q => bif z_eq q t then a else ad q) (ts ++ [t]) H1 locs ls (cells + 1) (slots + n) ⟨fun q hq => (h11 q (h4 q hq)).trans (h1 q hq), h10, hS, fun q hq => (h4 q hq).imp (hm q) id, z_okl_mono hm h5, ⟨Or.inl (by rw [z_set_self]; simp), z_oks_mono hm h6⟩, by rw [z_mapl_eq h11 h5]; exact h7, by omega, by omega⟩
  rw [show (vr t :: st).map (z_cv (fun q => bif z_eq q t then a else ad q)) = .ref a :: st.map (z_cv ad) by
    rw [List.map_cons, z_map_eq h11 h6]
    show Value.ref (bif z_eq t t then a else ad t) :: _ = _
    rw [z_eq_self]; rfl] at this
  exact this
end LK
/-- what the law's context gives -/
def lx_P (X : z_X) (b n : Nat) (xs : Nat → Int32) : Prop := z_H X code RL 200 ∧ lx_S X b n xs ∧ x_n X = 4 ∧ (∀ t, x_E0 X t → t = sc) ∧ n ≤ 3072 ∧ ∀ pc kC kS w L, decode code pc = .ok (.ireturn, 1) → z_V X kC kS w pc L [vi 1]
/-- the locals at the loop's head, in round t -/
abbrev LL (t : Nat) : List (Nat × z_v) := [(0, vr sc), (1, vr (0, 0)), (2, vr (100, 0)), (3, vi (nI (6 * t)))]
/-- the room that is left -/
def lb_C (t gX gM : Nat) : Nat := 3 * (512 - t) + (4 * (7 - gX) + 4 * (5 - gM))
def lb_S (t gX gM : Nat) : Nat := 27 * (512 - t) + (512 * (128 - 2 ^ gX) + 2048 * (32 - 2 ^ gM))
/-- behind a round -/
def lx_K (X : z_X) (t : Nat) : Prop := ∀ gX gM w, KS (t + 1) gX gM w → z_V X (lb_C (t + 1) gX gM) (lb_S (t + 1) gX gM) w 1016 (LL t) []
theorem KS.mono {t gX gM : Nat} {w : z_w} (h : KS t gX gM w) : KS (t + 1) gX gM w := by
  obtain ⟨nb, na, np, c, l, r, d, lM, rM, hX, hM, hC⟩ := h
  exact ⟨nb, na, np, c, l, r, d, lM, rM, hX, hM, hC.mono⟩
theorem KS.nosc {t gX gM : Nat} {w : z_w} (h : KS t gX gM w) : w sc = none := by
  obtain ⟨nb, na, np, c, l, r, d, lM, rM, hX, hM, hC⟩ := h
  rw [hM.1 sc (Nat.le_of_ble_eq_true rfl)]
  rfl
theorem KS.x {t gX gM : Nat} {w : z_w} (h : KS t gX gM w) : ∃ fs, w (0, 0) = some (z_ob 11 fs) := by
  obtain ⟨nb, na, np, c, l, r, d, lM, rM, hX, hM, hC⟩ := h
  exact ⟨_, (hX.1.1 (0, 0) (Nat.le_of_ble_eq_true rfl)).trans rfl⟩
theorem KS.m {t gX gM : Nat} {w : z_w} (h : KS t gX gM w) : ∃ fs, w (100, 0) = some (z_ob 12 fs) := by
  obtain ⟨nb, na, np, c, l, r, d, lM, rM, hX, hM, hC⟩ := h
  exact ⟨_, (hM.1 (100, 0) (Nat.le_of_ble_eq_true rfl)).trans rfl⟩
theorem KS.g {t gX gM : Nat} {w : z_w} (h : KS t gX gM w) : gX ≤ 6 ∧ gM ≤ 4 := by
  obtain ⟨nb, na, np, c, l, r, d, lM, rM, hX, hM, y, nc, nt, nr, nl, no, bu, mi, yo, yc, ra, bl, ch, u, p1, p2, p3, p4, p5, p6, p7, p8, p9, p10⟩ := h
  exact ⟨hX.2.2.2.2.1, p9.2.2.2.2.2.2.2.2.1⟩
def l_int : z_v → Bool
  | .inl _ => true
  | _ => false
/-- arguments that are numbers -/
theorem l_hx {E0 E1 : z_T → Prop} {w : z_w} {As : List z_v} (h : As.all l_int = true) : ∀ q ∈ As, z_okv E0 w q → z_okv E1 w q := fun q hq _ => by
  have := List.all_eq_true.mp h q hq
  match q, this with
  | .inl _, _ => trivial
theorem l_words (r : Option z_v) : z_words (r.toList ++ []) ≤ 8 := by
  cases r with
  | none => exact Nat.zero_le _
  | some v =>
    show ((if z_c2 v = true then 2 else 1) + 0 : Nat) ≤ 8
    by_cases h : z_c2 v = true <;> simp [h]
/-- one of the script's numbers as an argument -/
theorem l_arg {X : z_X} {b n : Nat} {xs : Nat → Int32} (hP : lx_P X b n xs) {t kC kS pc : Nat} {w : z_w} {st : List z_v} (ht : 6 * t + 6 ≤ n) (k : Int) (j : Nat) (hj : j ≤ 5) (hk : Int32.ofInt k = nI j) (d0 : decode code pc = .ok (.aload_n 0, 1)) (d1 : decode code (pc + 1) = .ok (.iload_n 3, 1)) (d2 : decode code (pc + 2) = .ok (.iconst k, 1)) (d3 : decode code (pc + 3) = .ok (.iadd, 1)) (d4 : decode code (pc + 4) = .ok (.iaload, 1)) (kk : z_V X kC kS w (pc + 5) (LL t) (vi (xs (6 * t + j)) :: st)) : z_V X kC kS w pc (LL t) st := by
  have h := hP.1
  have hn := hP.2.2.2.2.1
  refine z_aload_n h d0 rfl ?_
  refine z_iload_n h d1 rfl ?_
  refine z_iconst h d2 hk ?_
  refine z_iadd h d3 ?_
  rw [nI_add]
  refine z_sld hP.2.1 h d4 (nI_in (by omega) (by omega)) ?_
  rw [nI_clamp (by omega)]
  exact kk
