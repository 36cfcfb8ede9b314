/-! the two objects, made -/
def allT : List z_T → (z_T → Prop) → Prop
  | [], _ => True
  | t :: r, P => P t ∧ allT r P
theorem allT_mem {P : z_T → Prop} : ∀ {L : List z_T}, allT L P → ∀ t ∈ L, P t
  | [], _, t, h => by simp at h
  | a :: r, h, t, ht => by
    rcases List.mem_cons.mp ht with e | e
    · rw [e]; exact h.1
    · exact allT_mem h.2 t e
theorem rp_of_list {dom : z_T → Prop} {T : z_T → Option r_sh} {w W : z_w} {c : r_c} {l : r_l} {r : r_r} (tags : List z_T) (hin : allT tags (fun t => W t = (T t).map (fun s => r_mk s (c t) (l t) (r t)))) (hfr : z_fr tags w W) (hw : ∀ t, dom t → t ∉ tags → w t = none) (hT : ∀ t, dom t → t ∉ tags → T t = none) (hdom : allT tags dom) : r_p dom T w c l r W := by
  refine ⟨fun t ht => ?_, fun t ht => hfr t (fun q => ht (allT_mem hdom t q))⟩
  by_cases q : t ∈ tags
  · exact allT_mem hin t q
  · rw [hfr t q, hw t ht q, hT t ht q]; rfl
def tagsX : List z_T := [(0, 0), (1, 0), (3, 0), (4, 0), (5, 0), (6, 0), (7, 0), (8, 0), (9, 0), (10, 0), (11, 0), (12, 0), (13, 0), (14, 0), (15, 0), (16, 0), (17, 0), (21, 0), (22, 0), (23, 0), (24, 0), (25, 0), (26, 0), (29, 0), (30, 0), (31, 0), (32, 0), (33, 0), (34, 0), (35, 0), (36, 0), (37, 0), (38, 0), (39, 0), (40, 0), (41, 0), (42, 0), (43, 0), (44, 0), (45, 0), (46, 0), (47, 0)]
def tagsM : List z_T := [(100, 0), (108, 0), (109, 0), (110, 0), (111, 0), (112, 0), (113, 0), (114, 0), (115, 0), (116, 0), (117, 0), (118, 0), (119, 0), (120, 0), (121, 0), (131, 0), (136, 0), (137, 0), (138, 0), (139, 0), (140, 0), (141, 0), (142, 0), (143, 0), (144, 0), (145, 0), (146, 0), (147, 0), (148, 0), (149, 0), (150, 0), (151, 0), (152, 0), (153, 0), (154, 0), (155, 0), (156, 0), (157, 0), (158, 0), (159, 0), (160, 0), (161, 0), (162, 0), (163, 0), (164, 0), (165, 0), (166, 0), (167, 0), (168, 0)]
theorem tx_out0 : ∀ k < 100, (k, 0) ∉ tagsX → (TX 0 0 0 0 (k, 0)).isNone = true := by decide +kernel
theorem tx_out {t : z_T} (h : dX t) (hn : t ∉ tagsX) : TX 0 0 0 0 t = none := by
  obtain ⟨k, i⟩ := t
  by_cases e : i = 0
  · subst e
    exact Option.isNone_iff_eq_none.mp (tx_out0 k h hn)
  · have h1 : Nat.blt i 0 = false := blt_false (Nat.zero_le i)
    have h2 : Nat.ble i 0 = false := ble_false (by omega)
    have h3 : Nat.beq i 0 = false := by rw [z_beq]; simpa using e
    show (bif Nat.beq k 2 then (bif Nat.blt i 0 then _ else none) else bif Nat.beq k 18 then (bif Nat.blt i 0 then _ else none) else bif Nat.beq k 19 then (bif Nat.blt i 0 then _ else none) else bif Nat.beq k 20 then (bif Nat.blt i 0 then _ else none) else bif Nat.beq k 27 then (bif Nat.blt i 0 then _ else none) else bif Nat.beq k 28 then (bif Nat.blt i 0 then _ else none) else bif Nat.ble 30 k && Nat.ble k 33 then (bif Nat.ble i 0 then _ else none) else bif Nat.beq k 29 then (bif Nat.beq i 0 then _ else none) else bif Nat.beq i 0 then _ else none) = none
    rw [h1, h2, h3]
    simp only [cond_false, Bool.cond_self]
theorem tm_out0 : ∀ k < 69, (k + 100, 0) ∉ tagsM → (TM 0 (k + 100, 0)).isNone = true := by decide +kernel
theorem tm_out {t : z_T} (h : dM t) (hn : t ∉ tagsM) : TM 0 t = none := by
  obtain ⟨k, i⟩ := t
  have hk : 100 ≤ k := h
  by_cases e : i = 0
  · subst e
    by_cases q : k < 169
    · have := tm_out0 (k - 100) (by omega) (by rw [show k - 100 + 100 = k by omega]; exact hn)
      rw [show k - 100 + 100 = k by omega] at this
      exact Option.isNone_iff_eq_none.mp this
    · have h1 : Nat.beq k 100 = false := by rw [z_beq]; simpa using (show k ≠ 100 by omega)
      have h2 : Nat.ble k 163 = false := ble_false (by omega)
      have h3 : ML[k - 108]? = none := List.getElem?_eq_none (by rw [show ML.length = 61 from rfl]; omega)
      show (bif Nat.beq k 100 then _ else bif Nat.ble 160 k && Nat.ble k 163 then _ else bif Nat.ble 108 k && true && !(Nat.ble 122 k && Nat.ble k 130) && !(Nat.ble 132 k && Nat.ble k 135) then ML[k - 108]? else none) = none
      rw [h1, h2, h3]
      simp only [cond_false, Bool.and_false, Bool.cond_self]
  · have h2 : Nat.ble i 0 = false := ble_false (by omega)
    have h3 : Nat.beq i 0 = false := by rw [z_beq]; simpa using e
    show (bif Nat.beq k 100 then (bif Nat.beq i 0 then _ else none) else bif Nat.ble 160 k && Nat.ble k 163 then (bif Nat.ble i 0 then _ else none) else bif Nat.ble 108 k && Nat.beq i 0 && !(Nat.ble 122 k && Nat.ble k 130) && !(Nat.ble 132 k && Nat.ble k 135) then ML[k - 108]? else none) = none
    rw [h2, h3]
    simp only [cond_false, Bool.and_false, Bool.false_and, Bool.cond_self]
def cX0 : r_c := r_cf (fun _ _ => 0) (13, 0) (upd (upd (upd (fun _ => 0) 11 (-1)) 12 9) 13 1)
def cM0 : r_c := r_cf (fun _ _ => 0) (100, 0) (upd (upd (upd (fun _ => 0) 28 (-1)) 29 9) 30 1)
set_option maxHeartbeats 4000000 in
set_option maxRecDepth 100000 in
theorem m_X11_init (G : z_G) (w : z_w) (hw : w (0, 0) = some (z_ob 11 [vi 0, vn, vi 0, vn, vn, vn, vn, vn, vi 0, vi 0, vn, vn, vi 0, vn, vn, vn, vn])) (hf : ∀ t, dX t → t ≠ (0, 0) → w t = none) : z_M G yX11_init cX11_init 1 none 3 (41) (1758) [vr (0, 0)] w (fun q w1 => q = none ∧ r_p dX (TX 0 0 0 0) w cX0 (fun _ _ => 0) (fun _ _ => none) w1) := by
  refine z_met ym_X11_init (by decide) ⟨Nat.le_of_ble_eq_true rfl, Nat.le_of_ble_eq_true rfl⟩ (fun X hG hn hmc hms hin h hr => ?_)
  have he := hr.2.2.2.2.2.1
  have hfree : ∀ t, dX t → t ∉ tagsX → w t = none := fun t ht hn => hf t ht (fun e => hn (by rw [e]; decide))
  have h1_0 : w (1, 0) = none := hf _ (Nat.le_of_ble_eq_true rfl) (by decide)
  have h3_0 : w (3, 0) = none := hf _ (Nat.le_of_ble_eq_true rfl) (by decide)
  have h4_0 : w (4, 0) = none := hf _ (Nat.le_of_ble_eq_true rfl) (by decide)
  have h5_0 : w (5, 0) = none := hf _ (Nat.le_of_ble_eq_true rfl) (by decide)
  have h6_0 : w (6, 0) = none := hf _ (Nat.le_of_ble_eq_true rfl) (by decide)
  have h7_0 : w (7, 0) = none := hf _ (Nat.le_of_ble_eq_true rfl) (by decide)
  have h8_0 : w (8, 0) = none := hf _ (Nat.le_of_ble_eq_true rfl) (by decide)
  have h9_0 : w (9, 0) = none := hf _ (Nat.le_of_ble_eq_true rfl) (by decide)
  have h10_0 : w (10, 0) = none := hf _ (Nat.le_of_ble_eq_true rfl) (by decide)
  have h11_0 : w (11, 0) = none := hf _ (Nat.le_of_ble_eq_true rfl) (by decide)
  have h12_0 : w (12, 0) = none := hf _ (Nat.le_of_ble_eq_true rfl) (by decide)
  have h13_0 : w (13, 0) = none := hf _ (Nat.le_of_ble_eq_true rfl) (by decide)
  have h14_0 : w (14, 0) = none := hf _ (Nat.le_of_ble_eq_true rfl) (by decide)
  have h15_0 : w (15, 0) = none := hf _ (Nat.le_of_ble_eq_true rfl) (by decide)
  have h16_0 : w (16, 0) = none := hf _ (Nat.le_of_ble_eq_true rfl) (by decide)
  have h17_0 : w (17, 0) = none := hf _ (Nat.le_of_ble_eq_true rfl) (by decide)
  have h21_0 : w (21, 0) = none := hf _ (Nat.le_of_ble_eq_true rfl) (by decide)
  have h22_0 : w (22, 0) = none := hf _ (Nat.le_of_ble_eq_true rfl) (by decide)
  have h23_0 : w (23, 0) = none := hf _ (Nat.le_of_ble_eq_true rfl) (by decide)
  have h24_0 : w (24, 0) = none := hf _ (Nat.le_of_ble_eq_true rfl) (by decide)
  have h25_0 : w (25, 0) = none := hf _ (Nat.le_of_ble_eq_true rfl) (by decide)
  have h26_0 : w (26, 0) = none := hf _ (Nat.le_of_ble_eq_true rfl) (by decide)
  have h29_0 : w (29, 0) = none := hf _ (Nat.le_of_ble_eq_true rfl) (by decide)
  have h30_0 : w (30, 0) = none := hf _ (Nat.le_of_ble_eq_true rfl) (by decide)
  have h31_0 : w (31, 0) = none := hf _ (Nat.le_of_ble_eq_true rfl) (by decide)
  have h32_0 : w (32, 0) = none := hf _ (Nat.le_of_ble_eq_true rfl) (by decide)
  have h33_0 : w (33, 0) = none := hf _ (Nat.le_of_ble_eq_true rfl) (by decide)
  have h34_0 : w (34, 0) = none := hf _ (Nat.le_of_ble_eq_true rfl) (by decide)
  have h35_0 : w (35, 0) = none := hf _ (Nat.le_of_ble_eq_true rfl) (by decide)
  have h36_0 : w (36, 0) = none := hf _ (Nat.le_of_ble_eq_true rfl) (by decide)
  have h37_0 : w (37, 0) = none := hf _ (Nat.le_of_ble_eq_true rfl) (by decide)
  have h38_0 : w (38, 0) = none := hf _ (Nat.le_of_ble_eq_true rfl) (by decide)
  have h39_0 : w (39, 0) = none := hf _ (Nat.le_of_ble_eq_true rfl) (by decide)
  have h40_0 : w (40, 0) = none := hf _ (Nat.le_of_ble_eq_true rfl) (by decide)
  have h41_0 : w (41, 0) = none := hf _ (Nat.le_of_ble_eq_true rfl) (by decide)
  have h42_0 : w (42, 0) = none := hf _ (Nat.le_of_ble_eq_true rfl) (by decide)
  have h43_0 : w (43, 0) = none := hf _ (Nat.le_of_ble_eq_true rfl) (by decide)
  have h44_0 : w (44, 0) = none := hf _ (Nat.le_of_ble_eq_true rfl) (by decide)
  have h45_0 : w (45, 0) = none := hf _ (Nat.le_of_ble_eq_true rfl) (by decide)
  have h46_0 : w (46, 0) = none := hf _ (Nat.le_of_ble_eq_true rfl) (by decide)
  have h47_0 : w (47, 0) = none := hf _ (Nat.le_of_ble_eq_true rfl) (by decide)
  refine z_less (kC' := 0 + 1 + 2 + 1 + 8 + 1 + 5 + 1 + 1 + 4 + 1 + 1 + 3 + 1 + 4 + 1 + 1 + 1 + 2 + 1 + 1) (kS' := 0 + 8 + 24 + 2 + 432 + 10 + 264 + 6 + 60 + 400 + 5 + 100 + 32 + 14 + 160 + 5 + 200 + 2 + 20 + 2 + 12) (by decide) (by decide) ?_
  refine z_aload_n h dX11_init_0 rfl ?_
  refine z_obj h dX11_init_1 mlX11_3 im_objectInit co_objectInit (Nat.le_of_ble_eq_true rfl) ?_
  refine z_aload_n h dX11_init_4 rfl ?_
  refine z_bipush (v := 12) h dX11_init_5 (by decide) ?_
  refine z_newref h dX11_init_7 he (k := 3) rfl clX11_9 aoX1 rfl (by decide) (1, 0) h1_0 ?_
  refine z_putF h dX11_init_10 he hin flX11_11 (z_skip rfl hw) (Nat.le_of_ble_eq_true rfl) (z_fit_r (Or.inr ⟨_, rfl⟩) _) ?_
  refine z_aload_n h dX11_init_13 rfl ?_
  refine z_new h dX11_init_14 he nwX11_15 (3, 0) h3_0 ?_
  refine z_dup_r h dX11_init_17 ?_
  refine z_callIN h dX11_init_18 (fun _ _ q => z_okv_no he q) (fun _ _ _ t q => absurd q (he t)) (m_X10_init _ (z_set (z_set (z_set w (1, 0) (z_ra 3 12 (fun _ => none))) (0, 0) (z_ob 11 [vi 0, vr (1, 0), vi 0, vn, vn, vn, vn, vn, vi 0, vi 0, vn, vn, vi 0, vn, vn, vn, vn])) (3, 0) (z_ob 10 [vn, vn])) (z_set_self _ _ _) h4_0 h5_0) ym_X10_init mnX11_17 im_X10_init rfl (z_some_of (by first | assumption | rfl | (repeat (first | exact z_set_self _ _ _ | assumption | refine z_skip rfl ?_)))) rfl (by decide) (Nat.le_of_ble_eq_true rfl) ?_
  rintro q1 w1 ⟨rfl, rfl⟩
  refine z_putF h dX11_init_21 he hin flX11_18 rfl (Nat.le_of_ble_eq_true rfl) (z_fit_r (Or.inl ⟨_, rfl⟩) _) ?_
  refine z_aload_n h dX11_init_24 rfl ?_
  refine z_new h dX11_init_25 he nwX11_22 (6, 0) h6_0 ?_
  refine z_dup_r h dX11_init_28 ?_
  refine z_callIN h dX11_init_29 (fun _ _ q => z_okv_no he q) (fun _ _ _ t q => absurd q (he t)) (m_X9_init _ (z_set (z_set (z_set (z_set (z_set (z_set (z_set (z_set (z_set w (1, 0) (z_ra 3 12 (fun _ => none))) (0, 0) (z_ob 11 [vi 0, vr (1, 0), vi 0, vn, vn, vn, vn, vn, vi 0, vi 0, vn, vn, vi 0, vn, vn, vn, vn])) (3, 0) (z_ob 10 [vn, vn])) (4, 0) (z_ia 12 (fun _ => 0))) (3, 0) (z_ob 10 [vr (4, 0), vn])) (5, 0) (z_ia 8 (fun _ => 0))) (3, 0) (z_ob 10 [vr (4, 0), vr (5, 0)])) (0, 0) (z_ob 11 [vi 0, vr (1, 0), vi 0, vr (3, 0), vn, vn, vn, vn, vi 0, vi 0, vn, vn, vi 0, vn, vn, vn, vn])) (6, 0) (z_ob 9 [vn, vi 0])) (z_set_self _ _ _) h7_0) ym_X9_init mnX11_24 im_X9_init rfl (z_some_of (by first | assumption | rfl | (repeat (first | exact z_set_self _ _ _ | assumption | refine z_skip rfl ?_)))) rfl (by decide) (Nat.le_of_ble_eq_true rfl) ?_
  rintro q1 w1 ⟨rfl, rfl⟩
  refine z_putF h dX11_init_32 he hin flX11_25 rfl (Nat.le_of_ble_eq_true rfl) (z_fit_r (Or.inl ⟨_, rfl⟩) _) ?_
  refine z_aload_n h dX11_init_35 rfl ?_
  refine z_new h dX11_init_36 he nwX11_29 (8, 0) h8_0 ?_
  refine z_dup_r h dX11_init_39 ?_
  refine z_callIN h dX11_init_40 (fun _ _ q => z_okv_no he q) (fun _ _ _ t q => absurd q (he t)) (m_X2_init _ (z_set (z_set (z_set (z_set (z_set (z_set (z_set (z_set (z_set (z_set (z_set (z_set (z_set w (1, 0) (z_ra 3 12 (fun _ => none))) (0, 0) (z_ob 11 [vi 0, vr (1, 0), vi 0, vn, vn, vn, vn, vn, vi 0, vi 0, vn, vn, vi 0, vn, vn, vn, vn])) (3, 0) (z_ob 10 [vn, vn])) (4, 0) (z_ia 12 (fun _ => 0))) (3, 0) (z_ob 10 [vr (4, 0), vn])) (5, 0) (z_ia 8 (fun _ => 0))) (3, 0) (z_ob 10 [vr (4, 0), vr (5, 0)])) (0, 0) (z_ob 11 [vi 0, vr (1, 0), vi 0, vr (3, 0), vn, vn, vn, vn, vi 0, vi 0, vn, vn, vi 0, vn, vn, vn, vn])) (6, 0) (z_ob 9 [vn, vi 0])) (7, 0) (z_ia 200 (fun _ => 0))) (6, 0) (z_ob 9 [vr (7, 0), vi 0])) (0, 0) (z_ob 11 [vi 0, vr (1, 0), vi 0, vr (3, 0), vr (6, 0), vn, vn, vn, vi 0, vi 0, vn, vn, vi 0, vn, vn, vn, vn])) (8, 0) (z_ob 2 [vn, vn, vn, vn, vi 0])) (z_set_self _ _ _) h9_0 h10_0 h11_0 h12_0) ym_X2_init mnX11_31 im_X2_init rfl (z_some_of (by first | assumption | rfl | (repeat (first | exact z_set_self _ _ _ | assumption | refine z_skip rfl ?_)))) rfl (by decide) (Nat.le_of_ble_eq_true rfl) ?_
  rintro q1 w1 ⟨rfl, rfl⟩
  refine z_putF h dX11_init_43 he hin flX11_32 rfl (Nat.le_of_ble_eq_true rfl) (z_fit_r (Or.inl ⟨_, rfl⟩) _) ?_
  refine z_aload_n h dX11_init_46 rfl ?_
  refine z_new h dX11_init_47 he nwX11_36 (13, 0) h13_0 ?_
  refine z_dup_r h dX11_init_50 ?_
  refine z_callIN h dX11_init_51 (fun _ _ q => z_okv_no he q) (fun _ _ _ t q => absurd q (he t)) (m_X3_init _ (z_set (z_set (z_set (z_set (z_set (z_set (z_set (z_set (z_set (z_set (z_set (z_set (z_set (z_set (z_set (z_set (z_set (z_set (z_set (z_set (z_set (z_set (z_set w (1, 0) (z_ra 3 12 (fun _ => none))) (0, 0) (z_ob 11 [vi 0, vr (1, 0), vi 0, vn, vn, vn, vn, vn, vi 0, vi 0, vn, vn, vi 0, vn, vn, vn, vn])) (3, 0) (z_ob 10 [vn, vn])) (4, 0) (z_ia 12 (fun _ => 0))) (3, 0) (z_ob 10 [vr (4, 0), vn])) (5, 0) (z_ia 8 (fun _ => 0))) (3, 0) (z_ob 10 [vr (4, 0), vr (5, 0)])) (0, 0) (z_ob 11 [vi 0, vr (1, 0), vi 0, vr (3, 0), vn, vn, vn, vn, vi 0, vi 0, vn, vn, vi 0, vn, vn, vn, vn])) (6, 0) (z_ob 9 [vn, vi 0])) (7, 0) (z_ia 200 (fun _ => 0))) (6, 0) (z_ob 9 [vr (7, 0), vi 0])) (0, 0) (z_ob 11 [vi 0, vr (1, 0), vi 0, vr (3, 0), vr (6, 0), vn, vn, vn, vi 0, vi 0, vn, vn, vi 0, vn, vn, vn, vn])) (8, 0) (z_ob 2 [vn, vn, vn, vn, vi 0])) (9, 0) (z_ia 40 (fun _ => 0))) (8, 0) (z_ob 2 [vr (9, 0), vn, vn, vn, vi 0])) (10, 0) (z_ia 40 (fun _ => 0))) (8, 0) (z_ob 2 [vr (9, 0), vr (10, 0), vn, vn, vi 0])) (11, 0) (z_ia 40 (fun _ => 0))) (8, 0) (z_ob 2 [vr (9, 0), vr (10, 0), vr (11, 0), vn, vi 0])) (12, 0) (z_ia 40 (fun _ => 0))) (8, 0) (z_ob 2 [vr (9, 0), vr (10, 0), vr (11, 0), vr (12, 0), vi 0])) (0, 0) (z_ob 11 [vi 0, vr (1, 0), vi 0, vr (3, 0), vr (6, 0), vr (8, 0), vn, vn, vi 0, vi 0, vn, vn, vi 0, vn, vn, vn, vn])) (13, 0) (z_ob 3 [vn, vn, vn, vi 0, vi 0, vi 0, vi 0, vi 0, vi 0, vi 0, vi 0, vi 0, vi 0, vi 0])) (z_set_self _ _ _) h14_0 h15_0 h16_0) ym_X3_init mnX11_38 im_X3_init rfl (z_some_of (by first | assumption | rfl | (repeat (first | exact z_set_self _ _ _ | assumption | refine z_skip rfl ?_)))) rfl (by decide) (Nat.le_of_ble_eq_true rfl) ?_
  rintro q1 w1 ⟨rfl, rfl⟩
  refine z_putF h dX11_init_54 he hin flX11_39 rfl (Nat.le_of_ble_eq_true rfl) (z_fit_r (Or.inl ⟨_, rfl⟩) _) ?_
  refine z_aload_n h dX11_init_57 rfl ?_
  refine z_bipush (v := 100) h dX11_init_58 (by decide) ?_
  refine z_newref h dX11_init_60 he (k := 4) rfl clX11_43 aoX0 rfl (by decide) (17, 0) h17_0 ?_
  refine z_putF h dX11_init_63 he hin flX11_45 rfl (Nat.le_of_ble_eq_true rfl) (z_fit_r (Or.inr ⟨_, rfl⟩) _) ?_
  refine z_aload_n h dX11_init_66 rfl ?_
  refine z_new h dX11_init_67 he nwX11_49 (21, 0) h21_0 ?_
  refine z_dup_r h dX11_init_70 ?_
  refine z_callIN h dX11_init_71 (fun _ _ q => z_okv_no he q) (fun _ _ _ t q => absurd q (he t)) (m_X8_init _ (z_set (z_set (z_set (z_set (z_set (z_set (z_set (z_set (z_set (z_set (z_set (z_set (z_set (z_set (z_set (z_set (z_set (z_set (z_set (z_set (z_set (z_set (z_set (z_set (z_set (z_set (z_set (z_set (z_set (z_set (z_set (z_set (z_set (z_set (z_set (z_set w (1, 0) (z_ra 3 12 (fun _ => none))) (0, 0) (z_ob 11 [vi 0, vr (1, 0), vi 0, vn, vn, vn, vn, vn, vi 0, vi 0, vn, vn, vi 0, vn, vn, vn, vn])) (3, 0) (z_ob 10 [vn, vn])) (4, 0) (z_ia 12 (fun _ => 0))) (3, 0) (z_ob 10 [vr (4, 0), vn])) (5, 0) (z_ia 8 (fun _ => 0))) (3, 0) (z_ob 10 [vr (4, 0), vr (5, 0)])) (0, 0) (z_ob 11 [vi 0, vr (1, 0), vi 0, vr (3, 0), vn, vn, vn, vn, vi 0, vi 0, vn, vn, vi 0, vn, vn, vn, vn])) (6, 0) (z_ob 9 [vn, vi 0])) (7, 0) (z_ia 200 (fun _ => 0))) (6, 0) (z_ob 9 [vr (7, 0), vi 0])) (0, 0) (z_ob 11 [vi 0, vr (1, 0), vi 0, vr (3, 0), vr (6, 0), vn, vn, vn, vi 0, vi 0, vn, vn, vi 0, vn, vn, vn, vn])) (8, 0) (z_ob 2 [vn, vn, vn, vn, vi 0])) (9, 0) (z_ia 40 (fun _ => 0))) (8, 0) (z_ob 2 [vr (9, 0), vn, vn, vn, vi 0])) (10, 0) (z_ia 40 (fun _ => 0))) (8, 0) (z_ob 2 [vr (9, 0), vr (10, 0), vn, vn, vi 0])) (11, 0) (z_ia 40 (fun _ => 0))) (8, 0) (z_ob 2 [vr (9, 0), vr (10, 0), vr (11, 0), vn, vi 0])) (12, 0) (z_ia 40 (fun _ => 0))) (8, 0) (z_ob 2 [vr (9, 0), vr (10, 0), vr (11, 0), vr (12, 0), vi 0])) (0, 0) (z_ob 11 [vi 0, vr (1, 0), vi 0, vr (3, 0), vr (6, 0), vr (8, 0), vn, vn, vi 0, vi 0, vn, vn, vi 0, vn, vn, vn, vn])) (13, 0) (z_ob 3 [vn, vn, vn, vi 0, vi 0, vi 0, vi 0, vi 0, vi 0, vi 0, vi 0, vi 0, vi 0, vi 0])) (14, 0) (z_ia 12 (fun _ => 0))) (13, 0) (z_ob 3 [vr (14, 0), vn, vn, vi 0, vi 0, vi 0, vi 0, vi 0, vi 0, vi 0, vi 0, vi 0, vi 0, vi 0])) (15, 0) (z_ia 12 (fun _ => 0))) (13, 0) (z_ob 3 [vr (14, 0), vr (15, 0), vn, vi 0, vi 0, vi 0, vi 0, vi 0, vi 0, vi 0, vi 0, vi 0, vi 0, vi 0])) (16, 0) (z_ia 8 (fun _ => 0))) (13, 0) (z_ob 3 [vr (14, 0), vr (15, 0), vr (16, 0), vi 0, vi 0, vi 0, vi 0, vi 0, vi 0, vi 0, vi 0, vi 0, vi 0, vi 0])) (13, 0) (z_ob 3 [vr (14, 0), vr (15, 0), vr (16, 0), vi 0, vi 0, vi 0, vi 0, vi 0, vi 0, vi 0, vi 0, vi (-1), vi 0, vi 0])) (13, 0) (z_ob 3 [vr (14, 0), vr (15, 0), vr (16, 0), vi 0, vi 0, vi 0, vi 0, vi 0, vi 0, vi 0, vi 0, vi (-1), vi 9, vi 0])) (13, 0) (z_ob 3 [vr (14, 0), vr (15, 0), vr (16, 0), vi 0, vi 0, vi 0, vi 0, vi 0, vi 0, vi 0, vi 0, vi (-1), vi 9, vi 1])) (0, 0) (z_ob 11 [vi 0, vr (1, 0), vi 0, vr (3, 0), vr (6, 0), vr (8, 0), vr (13, 0), vn, vi 0, vi 0, vn, vn, vi 0, vn, vn, vn, vn])) (17, 0) (z_ra 4 100 (fun _ => none))) (0, 0) (z_ob 11 [vi 0, vr (1, 0), vi 0, vr (3, 0), vr (6, 0), vr (8, 0), vr (13, 0), vr (17, 0), vi 0, vi 0, vn, vn, vi 0, vn, vn, vn, vn])) (21, 0) (z_ob 8 [vn, vn, vn, vn, vi 0])) (z_set_self _ _ _) h22_0 h23_0 h24_0 h25_0) ym_X8_init mnX11_51 im_X8_init rfl (z_some_of (by first | assumption | rfl | (repeat (first | exact z_set_self _ _ _ | assumption | refine z_skip rfl ?_)))) rfl (by decide) (Nat.le_of_ble_eq_true rfl) ?_
  rintro q1 w1 ⟨rfl, rfl⟩
  refine z_putF h dX11_init_74 he hin flX11_52 rfl (Nat.le_of_ble_eq_true rfl) (z_fit_r (Or.inl ⟨_, rfl⟩) _) ?_
  refine z_aload_n h dX11_init_77 rfl ?_
  refine z_bipush (v := 60) h dX11_init_78 (by decide) ?_
  refine z_newref h dX11_init_80 he (k := 5) rfl clX11_56 aoX7 rfl (by decide) (26, 0) h26_0 ?_
  refine z_putF h dX11_init_83 he hin flX11_58 rfl (Nat.le_of_ble_eq_true rfl) (z_fit_r (Or.inr ⟨_, rfl⟩) _) ?_
  refine z_aload_n h dX11_init_86 rfl ?_
  refine z_new h dX11_init_87 he nwX11_62 (29, 0) h29_0 ?_
  refine z_dup_r h dX11_init_90 ?_
  refine z_callIN h dX11_init_91 (fun _ _ q => z_okv_no he q) (fun _ _ _ t q => absurd q (he t)) (m_X4_init _ (z_set (z_set (z_set (z_set (z_set (z_set (z_set (z_set (z_set (z_set (z_set (z_set (z_set (z_set (z_set (z_set (z_set (z_set (z_set (z_set (z_set (z_set (z_set (z_set (z_set (z_set (z_set (z_set (z_set (z_set (z_set (z_set (z_set (z_set (z_set (z_set (z_set (z_set (z_set (z_set (z_set (z_set (z_set (z_set (z_set (z_set (z_set (z_set w (1, 0) (z_ra 3 12 (fun _ => none))) (0, 0) (z_ob 11 [vi 0, vr (1, 0), vi 0, vn, vn, vn, vn, vn, vi 0, vi 0, vn, vn, vi 0, vn, vn, vn, vn])) (3, 0) (z_ob 10 [vn, vn])) (4, 0) (z_ia 12 (fun _ => 0))) (3, 0) (z_ob 10 [vr (4, 0), vn])) (5, 0) (z_ia 8 (fun _ => 0))) (3, 0) (z_ob 10 [vr (4, 0), vr (5, 0)])) (0, 0) (z_ob 11 [vi 0, vr (1, 0), vi 0, vr (3, 0), vn, vn, vn, vn, vi 0, vi 0, vn, vn, vi 0, vn, vn, vn, vn])) (6, 0) (z_ob 9 [vn, vi 0])) (7, 0) (z_ia 200 (fun _ => 0))) (6, 0) (z_ob 9 [vr (7, 0), vi 0])) (0, 0) (z_ob 11 [vi 0, vr (1, 0), vi 0, vr (3, 0), vr (6, 0), vn, vn, vn, vi 0, vi 0, vn, vn, vi 0, vn, vn, vn, vn])) (8, 0) (z_ob 2 [vn, vn, vn, vn, vi 0])) (9, 0) (z_ia 40 (fun _ => 0))) (8, 0) (z_ob 2 [vr (9, 0), vn, vn, vn, vi 0])) (10, 0) (z_ia 40 (fun _ => 0))) (8, 0) (z_ob 2 [vr (9, 0), vr (10, 0), vn, vn, vi 0])) (11, 0) (z_ia 40 (fun _ => 0))) (8, 0) (z_ob 2 [vr (9, 0), vr (10, 0), vr (11, 0), vn, vi 0])) (12, 0) (z_ia 40 (fun _ => 0))) (8, 0) (z_ob 2 [vr (9, 0), vr (10, 0), vr (11, 0), vr (12, 0), vi 0])) (0, 0) (z_ob 11 [vi 0, vr (1, 0), vi 0, vr (3, 0), vr (6, 0), vr (8, 0), vn, vn, vi 0, vi 0, vn, vn, vi 0, vn, vn, vn, vn])) (13, 0) (z_ob 3 [vn, vn, vn, vi 0, vi 0, vi 0, vi 0, vi 0, vi 0, vi 0, vi 0, vi 0, vi 0, vi 0])) (14, 0) (z_ia 12 (fun _ => 0))) (13, 0) (z_ob 3 [vr (14, 0), vn, vn, vi 0, vi 0, vi 0, vi 0, vi 0, vi 0, vi 0, vi 0, vi 0, vi 0, vi 0])) (15, 0) (z_ia 12 (fun _ => 0))) (13, 0) (z_ob 3 [vr (14, 0), vr (15, 0), vn, vi 0, vi 0, vi 0, vi 0, vi 0, vi 0, vi 0, vi 0, vi 0, vi 0, vi 0])) (16, 0) (z_ia 8 (fun _ => 0))) (13, 0) (z_ob 3 [vr (14, 0), vr (15, 0), vr (16, 0), vi 0, vi 0, vi 0, vi 0, vi 0, vi 0, vi 0, vi 0, vi 0, vi 0, vi 0])) (13, 0) (z_ob 3 [vr (14, 0), vr (15, 0), vr (16, 0), vi 0, vi 0, vi 0, vi 0, vi 0, vi 0, vi 0, vi 0, vi (-1), vi 0, vi 0])) (13, 0) (z_ob 3 [vr (14, 0), vr (15, 0), vr (16, 0), vi 0, vi 0, vi 0, vi 0, vi 0, vi 0, vi 0, vi 0, vi (-1), vi 9, vi 0])) (13, 0) (z_ob 3 [vr (14, 0), vr (15, 0), vr (16, 0), vi 0, vi 0, vi 0, vi 0, vi 0, vi 0, vi 0, vi 0, vi (-1), vi 9, vi 1])) (0, 0) (z_ob 11 [vi 0, vr (1, 0), vi 0, vr (3, 0), vr (6, 0), vr (8, 0), vr (13, 0), vn, vi 0, vi 0, vn, vn, vi 0, vn, vn, vn, vn])) (17, 0) (z_ra 4 100 (fun _ => none))) (0, 0) (z_ob 11 [vi 0, vr (1, 0), vi 0, vr (3, 0), vr (6, 0), vr (8, 0), vr (13, 0), vr (17, 0), vi 0, vi 0, vn, vn, vi 0, vn, vn, vn, vn])) (21, 0) (z_ob 8 [vn, vn, vn, vn, vi 0])) (22, 0) (z_ia 100 (fun _ => 0))) (21, 0) (z_ob 8 [vr (22, 0), vn, vn, vn, vi 0])) (23, 0) (z_ia 100 (fun _ => 0))) (21, 0) (z_ob 8 [vr (22, 0), vr (23, 0), vn, vn, vi 0])) (24, 0) (z_ia 100 (fun _ => 0))) (21, 0) (z_ob 8 [vr (22, 0), vr (23, 0), vr (24, 0), vn, vi 0])) (25, 0) (z_ia 100 (fun _ => 0))) (21, 0) (z_ob 8 [vr (22, 0), vr (23, 0), vr (24, 0), vr (25, 0), vi 0])) (0, 0) (z_ob 11 [vi 0, vr (1, 0), vi 0, vr (3, 0), vr (6, 0), vr (8, 0), vr (13, 0), vr (17, 0), vi 0, vi 0, vr (21, 0), vn, vi 0, vn, vn, vn, vn])) (26, 0) (z_ra 5 60 (fun _ => none))) (0, 0) (z_ob 11 [vi 0, vr (1, 0), vi 0, vr (3, 0), vr (6, 0), vr (8, 0), vr (13, 0), vr (17, 0), vi 0, vi 0, vr (21, 0), vr (26, 0), vi 0, vn, vn, vn, vn])) (29, 0) (z_ob 4 [vn, vn, vn, vn, vn, vi 0])) (z_set_self _ _ _) h30_0 h31_0 h32_0 h33_0 h34_0) ym_X4_init mnX11_64 im_X4_init rfl (z_some_of (by first | assumption | rfl | (repeat (first | exact z_set_self _ _ _ | assumption | refine z_skip rfl ?_)))) rfl (by decide) (Nat.le_of_ble_eq_true rfl) ?_
  rintro q1 w1 ⟨rfl, rfl⟩
  refine z_putF h dX11_init_94 he hin flX11_65 rfl (Nat.le_of_ble_eq_true rfl) (z_fit_r (Or.inl ⟨_, rfl⟩) _) ?_
  refine z_aload_n h dX11_init_97 rfl ?_
  refine z_new h dX11_init_98 he nwX11_69 (35, 0) h35_0 ?_
  refine z_dup_r h dX11_init_101 ?_
  refine z_callIN h dX11_init_102 (fun _ _ q => z_okv_no he q) (fun _ _ _ t q => absurd q (he t)) (m_X5_init _ (z_set (z_set (z_set (z_set (z_set (z_set (z_set (z_set (z_set (z_set (z_set (z_set (z_set (z_set (z_set (z_set (z_set (z_set (z_set (z_set (z_set (z_set (z_set (z_set (z_set (z_set (z_set (z_set (z_set (z_set (z_set (z_set (z_set (z_set (z_set (z_set (z_set (z_set (z_set (z_set (z_set (z_set (z_set (z_set (z_set (z_set (z_set (z_set (z_set (z_set (z_set (z_set (z_set (z_set (z_set (z_set (z_set (z_set (z_set (z_set w (1, 0) (z_ra 3 12 (fun _ => none))) (0, 0) (z_ob 11 [vi 0, vr (1, 0), vi 0, vn, vn, vn, vn, vn, vi 0, vi 0, vn, vn, vi 0, vn, vn, vn, vn])) (3, 0) (z_ob 10 [vn, vn])) (4, 0) (z_ia 12 (fun _ => 0))) (3, 0) (z_ob 10 [vr (4, 0), vn])) (5, 0) (z_ia 8 (fun _ => 0))) (3, 0) (z_ob 10 [vr (4, 0), vr (5, 0)])) (0, 0) (z_ob 11 [vi 0, vr (1, 0), vi 0, vr (3, 0), vn, vn, vn, vn, vi 0, vi 0, vn, vn, vi 0, vn, vn, vn, vn])) (6, 0) (z_ob 9 [vn, vi 0])) (7, 0) (z_ia 200 (fun _ => 0))) (6, 0) (z_ob 9 [vr (7, 0), vi 0])) (0, 0) (z_ob 11 [vi 0, vr (1, 0), vi 0, vr (3, 0), vr (6, 0), vn, vn, vn, vi 0, vi 0, vn, vn, vi 0, vn, vn, vn, vn])) (8, 0) (z_ob 2 [vn, vn, vn, vn, vi 0])) (9, 0) (z_ia 40 (fun _ => 0))) (8, 0) (z_ob 2 [vr (9, 0), vn, vn, vn, vi 0])) (10, 0) (z_ia 40 (fun _ => 0))) (8, 0) (z_ob 2 [vr (9, 0), vr (10, 0), vn, vn, vi 0])) (11, 0) (z_ia 40 (fun _ => 0))) (8, 0) (z_ob 2 [vr (9, 0), vr (10, 0), vr (11, 0), vn, vi 0])) (12, 0) (z_ia 40 (fun _ => 0))) (8, 0) (z_ob 2 [vr (9, 0), vr (10, 0), vr (11, 0), vr (12, 0), vi 0])) (0, 0) (z_ob 11 [vi 0, vr (1, 0), vi 0, vr (3, 0), vr (6, 0), vr (8, 0), vn, vn, vi 0, vi 0, vn, vn, vi 0, vn, vn, vn, vn])) (13, 0) (z_ob 3 [vn, vn, vn, vi 0, vi 0, vi 0, vi 0, vi 0, vi 0, vi 0, vi 0, vi 0, vi 0, vi 0])) (14, 0) (z_ia 12 (fun _ => 0))) (13, 0) (z_ob 3 [vr (14, 0), vn, vn, vi 0, vi 0, vi 0, vi 0, vi 0, vi 0, vi 0, vi 0, vi 0, vi 0, vi 0])) (15, 0) (z_ia 12 (fun _ => 0))) (13, 0) (z_ob 3 [vr (14, 0), vr (15, 0), vn, vi 0, vi 0, vi 0, vi 0, vi 0, vi 0, vi 0, vi 0, vi 0, vi 0, vi 0])) (16, 0) (z_ia 8 (fun _ => 0))) (13, 0) (z_ob 3 [vr (14, 0), vr (15, 0), vr (16, 0), vi 0, vi 0, vi 0, vi 0, vi 0, vi 0, vi 0, vi 0, vi 0, vi 0, vi 0])) (13, 0) (z_ob 3 [vr (14, 0), vr (15, 0), vr (16, 0), vi 0, vi 0, vi 0, vi 0, vi 0, vi 0, vi 0, vi 0, vi (-1), vi 0, vi 0])) (13, 0) (z_ob 3 [vr (14, 0), vr (15, 0), vr (16, 0), vi 0, vi 0, vi 0, vi 0, vi 0, vi 0, vi 0, vi 0, vi (-1), vi 9, vi 0])) (13, 0) (z_ob 3 [vr (14, 0), vr (15, 0), vr (16, 0), vi 0, vi 0, vi 0, vi 0, vi 0, vi 0, vi 0, vi 0, vi (-1), vi 9, vi 1])) (0, 0) (z_ob 11 [vi 0, vr (1, 0), vi 0, vr (3, 0), vr (6, 0), vr (8, 0), vr (13, 0), vn, vi 0, vi 0, vn, vn, vi 0, vn, vn, vn, vn])) (17, 0) (z_ra 4 100 (fun _ => none))) (0, 0) (z_ob 11 [vi 0, vr (1, 0), vi 0, vr (3, 0), vr (6, 0), vr (8, 0), vr (13, 0), vr (17, 0), vi 0, vi 0, vn, vn, vi 0, vn, vn, vn, vn])) (21, 0) (z_ob 8 [vn, vn, vn, vn, vi 0])) (22, 0) (z_ia 100 (fun _ => 0))) (21, 0) (z_ob 8 [vr (22, 0), vn, vn, vn, vi 0])) (23, 0) (z_ia 100 (fun _ => 0))) (21, 0) (z_ob 8 [vr (22, 0), vr (23, 0), vn, vn, vi 0])) (24, 0) (z_ia 100 (fun _ => 0))) (21, 0) (z_ob 8 [vr (22, 0), vr (23, 0), vr (24, 0), vn, vi 0])) (25, 0) (z_ia 100 (fun _ => 0))) (21, 0) (z_ob 8 [vr (22, 0), vr (23, 0), vr (24, 0), vr (25, 0), vi 0])) (0, 0) (z_ob 11 [vi 0, vr (1, 0), vi 0, vr (3, 0), vr (6, 0), vr (8, 0), vr (13, 0), vr (17, 0), vi 0, vi 0, vr (21, 0), vn, vi 0, vn, vn, vn, vn])) (26, 0) (z_ra 5 60 (fun _ => none))) (0, 0) (z_ob 11 [vi 0, vr (1, 0), vi 0, vr (3, 0), vr (6, 0), vr (8, 0), vr (13, 0), vr (17, 0), vi 0, vi 0, vr (21, 0), vr (26, 0), vi 0, vn, vn, vn, vn])) (29, 0) (z_ob 4 [vn, vn, vn, vn, vn, vi 0])) (30, 0) (z_ia 64 (fun _ => 0))) (29, 0) (z_ob 4 [vr (30, 0), vn, vn, vn, vn, vi 0])) (31, 0) (z_ia 64 (fun _ => 0))) (29, 0) (z_ob 4 [vr (30, 0), vr (31, 0), vn, vn, vn, vi 0])) (32, 0) (z_ia 64 (fun _ => 0))) (29, 0) (z_ob 4 [vr (30, 0), vr (31, 0), vr (32, 0), vn, vn, vi 0])) (33, 0) (z_ia 64 (fun _ => 0))) (29, 0) (z_ob 4 [vr (30, 0), vr (31, 0), vr (32, 0), vr (33, 0), vn, vi 0])) (34, 0) (z_ia 8 (fun _ => 0))) (29, 0) (z_ob 4 [vr (30, 0), vr (31, 0), vr (32, 0), vr (33, 0), vr (34, 0), vi 0])) (0, 0) (z_ob 11 [vi 0, vr (1, 0), vi 0, vr (3, 0), vr (6, 0), vr (8, 0), vr (13, 0), vr (17, 0), vi 0, vi 0, vr (21, 0), vr (26, 0), vi 0, vr (29, 0), vn, vn, vn])) (35, 0) (z_ob 5 [vn, vn, vn, vi 0, vn, vn, vn, vn, vn, vi 0])) (z_set_self _ _ _) h36_0 h37_0 h38_0 h39_0 h40_0 h41_0 h42_0 h43_0) ym_X5_init mnX11_71 im_X5_init rfl (z_some_of (by first | assumption | rfl | (repeat (first | exact z_set_self _ _ _ | assumption | refine z_skip rfl ?_)))) rfl (by decide) (Nat.le_of_ble_eq_true rfl) ?_
  rintro q1 w1 ⟨rfl, rfl⟩
  refine z_putF h dX11_init_105 he hin flX11_72 rfl (Nat.le_of_ble_eq_true rfl) (z_fit_r (Or.inl ⟨_, rfl⟩) _) ?_
  refine z_aload_n h dX11_init_108 rfl ?_
  refine z_new h dX11_init_109 he nwX11_76 (44, 0) h44_0 ?_
  refine z_dup_r h dX11_init_112 ?_
  refine z_callIN h dX11_init_113 (fun _ _ q => z_okv_no he q) (fun _ _ _ t q => absurd q (he t)) (m_X6_init _ (z_set (z_set (z_set (z_set (z_set (z_set (z_set (z_set (z_set (z_set (z_set (z_set (z_set (z_set (z_set (z_set (z_set (z_set (z_set (z_set (z_set (z_set (z_set (z_set (z_set (z_set (z_set (z_set (z_set (z_set (z_set (z_set (z_set (z_set (z_set (z_set (z_set (z_set (z_set (z_set (z_set (z_set (z_set (z_set (z_set (z_set (z_set (z_set (z_set (z_set (z_set (z_set (z_set (z_set (z_set (z_set (z_set (z_set (z_set (z_set (z_set (z_set (z_set (z_set (z_set (z_set (z_set (z_set (z_set (z_set (z_set (z_set (z_set (z_set (z_set (z_set (z_set (z_set w (1, 0) (z_ra 3 12 (fun _ => none))) (0, 0) (z_ob 11 [vi 0, vr (1, 0), vi 0, vn, vn, vn, vn, vn, vi 0, vi 0, vn, vn, vi 0, vn, vn, vn, vn])) (3, 0) (z_ob 10 [vn, vn])) (4, 0) (z_ia 12 (fun _ => 0))) (3, 0) (z_ob 10 [vr (4, 0), vn])) (5, 0) (z_ia 8 (fun _ => 0))) (3, 0) (z_ob 10 [vr (4, 0), vr (5, 0)])) (0, 0) (z_ob 11 [vi 0, vr (1, 0), vi 0, vr (3, 0), vn, vn, vn, vn, vi 0, vi 0, vn, vn, vi 0, vn, vn, vn, vn])) (6, 0) (z_ob 9 [vn, vi 0])) (7, 0) (z_ia 200 (fun _ => 0))) (6, 0) (z_ob 9 [vr (7, 0), vi 0])) (0, 0) (z_ob 11 [vi 0, vr (1, 0), vi 0, vr (3, 0), vr (6, 0), vn, vn, vn, vi 0, vi 0, vn, vn, vi 0, vn, vn, vn, vn])) (8, 0) (z_ob 2 [vn, vn, vn, vn, vi 0])) (9, 0) (z_ia 40 (fun _ => 0))) (8, 0) (z_ob 2 [vr (9, 0), vn, vn, vn, vi 0])) (10, 0) (z_ia 40 (fun _ => 0))) (8, 0) (z_ob 2 [vr (9, 0), vr (10, 0), vn, vn, vi 0])) (11, 0) (z_ia 40 (fun _ => 0))) (8, 0) (z_ob 2 [vr (9, 0), vr (10, 0), vr (11, 0), vn, vi 0])) (12, 0) (z_ia 40 (fun _ => 0))) (8, 0) (z_ob 2 [vr (9, 0), vr (10, 0), vr (11, 0), vr (12, 0), vi 0])) (0, 0) (z_ob 11 [vi 0, vr (1, 0), vi 0, vr (3, 0), vr (6, 0), vr (8, 0), vn, vn, vi 0, vi 0, vn, vn, vi 0, vn, vn, vn, vn])) (13, 0) (z_ob 3 [vn, vn, vn, vi 0, vi 0, vi 0, vi 0, vi 0, vi 0, vi 0, vi 0, vi 0, vi 0, vi 0])) (14, 0) (z_ia 12 (fun _ => 0))) (13, 0) (z_ob 3 [vr (14, 0), vn, vn, vi 0, vi 0, vi 0, vi 0, vi 0, vi 0, vi 0, vi 0, vi 0, vi 0, vi 0])) (15, 0) (z_ia 12 (fun _ => 0))) (13, 0) (z_ob 3 [vr (14, 0), vr (15, 0), vn, vi 0, vi 0, vi 0, vi 0, vi 0, vi 0, vi 0, vi 0, vi 0, vi 0, vi 0])) (16, 0) (z_ia 8 (fun _ => 0))) (13, 0) (z_ob 3 [vr (14, 0), vr (15, 0), vr (16, 0), vi 0, vi 0, vi 0, vi 0, vi 0, vi 0, vi 0, vi 0, vi 0, vi 0, vi 0])) (13, 0) (z_ob 3 [vr (14, 0), vr (15, 0), vr (16, 0), vi 0, vi 0, vi 0, vi 0, vi 0, vi 0, vi 0, vi 0, vi (-1), vi 0, vi 0])) (13, 0) (z_ob 3 [vr (14, 0), vr (15, 0), vr (16, 0), vi 0, vi 0, vi 0, vi 0, vi 0, vi 0, vi 0, vi 0, vi (-1), vi 9, vi 0])) (13, 0) (z_ob 3 [vr (14, 0), vr (15, 0), vr (16, 0), vi 0, vi 0, vi 0, vi 0, vi 0, vi 0, vi 0, vi 0, vi (-1), vi 9, vi 1])) (0, 0) (z_ob 11 [vi 0, vr (1, 0), vi 0, vr (3, 0), vr (6, 0), vr (8, 0), vr (13, 0), vn, vi 0, vi 0, vn, vn, vi 0, vn, vn, vn, vn])) (17, 0) (z_ra 4 100 (fun _ => none))) (0, 0) (z_ob 11 [vi 0, vr (1, 0), vi 0, vr (3, 0), vr (6, 0), vr (8, 0), vr (13, 0), vr (17, 0), vi 0, vi 0, vn, vn, vi 0, vn, vn, vn, vn])) (21, 0) (z_ob 8 [vn, vn, vn, vn, vi 0])) (22, 0) (z_ia 100 (fun _ => 0))) (21, 0) (z_ob 8 [vr (22, 0), vn, vn, vn, vi 0])) (23, 0) (z_ia 100 (fun _ => 0))) (21, 0) (z_ob 8 [vr (22, 0), vr (23, 0), vn, vn, vi 0])) (24, 0) (z_ia 100 (fun _ => 0))) (21, 0) (z_ob 8 [vr (22, 0), vr (23, 0), vr (24, 0), vn, vi 0])) (25, 0) (z_ia 100 (fun _ => 0))) (21, 0) (z_ob 8 [vr (22, 0), vr (23, 0), vr (24, 0), vr (25, 0), vi 0])) (0, 0) (z_ob 11 [vi 0, vr (1, 0), vi 0, vr (3, 0), vr (6, 0), vr (8, 0), vr (13, 0), vr (17, 0), vi 0, vi 0, vr (21, 0), vn, vi 0, vn, vn, vn, vn])) (26, 0) (z_ra 5 60 (fun _ => none))) (0, 0) (z_ob 11 [vi 0, vr (1, 0), vi 0, vr (3, 0), vr (6, 0), vr (8, 0), vr (13, 0), vr (17, 0), vi 0, vi 0, vr (21, 0), vr (26, 0), vi 0, vn, vn, vn, vn])) (29, 0) (z_ob 4 [vn, vn, vn, vn, vn, vi 0])) (30, 0) (z_ia 64 (fun _ => 0))) (29, 0) (z_ob 4 [vr (30, 0), vn, vn, vn, vn, vi 0])) (31, 0) (z_ia 64 (fun _ => 0))) (29, 0) (z_ob 4 [vr (30, 0), vr (31, 0), vn, vn, vn, vi 0])) (32, 0) (z_ia 64 (fun _ => 0))) (29, 0) (z_ob 4 [vr (30, 0), vr (31, 0), vr (32, 0), vn, vn, vi 0])) (33, 0) (z_ia 64 (fun _ => 0))) (29, 0) (z_ob 4 [vr (30, 0), vr (31, 0), vr (32, 0), vr (33, 0), vn, vi 0])) (34, 0) (z_ia 8 (fun _ => 0))) (29, 0) (z_ob 4 [vr (30, 0), vr (31, 0), vr (32, 0), vr (33, 0), vr (34, 0), vi 0])) (0, 0) (z_ob 11 [vi 0, vr (1, 0), vi 0, vr (3, 0), vr (6, 0), vr (8, 0), vr (13, 0), vr (17, 0), vi 0, vi 0, vr (21, 0), vr (26, 0), vi 0, vr (29, 0), vn, vn, vn])) (35, 0) (z_ob 5 [vn, vn, vn, vi 0, vn, vn, vn, vn, vn, vi 0])) (36, 0) (z_ia 8 (fun _ => 0))) (35, 0) (z_ob 5 [vr (36, 0), vn, vn, vi 0, vn, vn, vn, vn, vn, vi 0])) (37, 0) (z_ia 8 (fun _ => 0))) (35, 0) (z_ob 5 [vr (36, 0), vr (37, 0), vn, vi 0, vn, vn, vn, vn, vn, vi 0])) (38, 0) (z_ia 8 (fun _ => 0))) (35, 0) (z_ob 5 [vr (36, 0), vr (37, 0), vr (38, 0), vi 0, vn, vn, vn, vn, vn, vi 0])) (39, 0) (z_ia 100 (fun _ => 0))) (35, 0) (z_ob 5 [vr (36, 0), vr (37, 0), vr (38, 0), vi 0, vr (39, 0), vn, vn, vn, vn, vi 0])) (40, 0) (z_ia 100 (fun _ => 0))) (35, 0) (z_ob 5 [vr (36, 0), vr (37, 0), vr (38, 0), vi 0, vr (39, 0), vr (40, 0), vn, vn, vn, vi 0])) (41, 0) (z_za 100 (fun _ => 0))) (35, 0) (z_ob 5 [vr (36, 0), vr (37, 0), vr (38, 0), vi 0, vr (39, 0), vr (40, 0), vr (41, 0), vn, vn, vi 0])) (42, 0) (z_ia 100 (fun _ => 0))) (35, 0) (z_ob 5 [vr (36, 0), vr (37, 0), vr (38, 0), vi 0, vr (39, 0), vr (40, 0), vr (41, 0), vr (42, 0), vn, vi 0])) (43, 0) (z_ia 8 (fun _ => 0))) (35, 0) (z_ob 5 [vr (36, 0), vr (37, 0), vr (38, 0), vi 0, vr (39, 0), vr (40, 0), vr (41, 0), vr (42, 0), vr (43, 0), vi 0])) (0, 0) (z_ob 11 [vi 0, vr (1, 0), vi 0, vr (3, 0), vr (6, 0), vr (8, 0), vr (13, 0), vr (17, 0), vi 0, vi 0, vr (21, 0), vr (26, 0), vi 0, vr (29, 0), vr (35, 0), vn, vn])) (44, 0) (z_ob 6 [vn, vn])) (z_set_self _ _ _) h45_0 h46_0) ym_X6_init mnX11_78 im_X6_init rfl (z_some_of (by first | assumption | rfl | (repeat (first | exact z_set_self _ _ _ | assumption | refine z_skip rfl ?_)))) rfl (by decide) (Nat.le_of_ble_eq_true rfl) ?_
  rintro q1 w1 ⟨rfl, rfl⟩
  refine z_putF h dX11_init_116 he hin flX11_79 rfl (Nat.le_of_ble_eq_true rfl) (z_fit_r (Or.inl ⟨_, rfl⟩) _) ?_
  refine z_aload_n h dX11_init_119 rfl ?_
  refine z_bipush (v := 8) h dX11_init_120 (by decide) ?_
  refine z_newarr h dX11_init_122 he 0 (.inl (fun _ => 0)) ⟨by decide, rfl, ac_int, fun _ _ _ => ⟨(_, .inl (fun _ => 0)), rfl, rfl⟩⟩ trivial rfl (by decide) (47, 0) h47_0 ?_
  refine z_putF h dX11_init_124 he hin flX11_83 rfl (Nat.le_of_ble_eq_true rfl) (z_fit_r (Or.inr ⟨_, rfl⟩) _) ?_
  exact z_vret h dX11_init_127 hr (⟨rfl, rp_of_list tagsX ⟨rfl, rfl, rfl, rfl, rfl, rfl, rfl, rfl, rfl, rfl, rfl, rfl, rfl, rfl, rfl, rfl, rfl, rfl, rfl, rfl, rfl, rfl, rfl, rfl, rfl, rfl, rfl, rfl, rfl, rfl, rfl, rfl, rfl, rfl, rfl, rfl, rfl, rfl, rfl, rfl, rfl, rfl, trivial⟩ (((((((((((((((((((((((((((((((((((((((((((((((((((((((((((((((((((((((((((((((((((((z_fr.rf.set (by decide)).set (by decide)).set (by decide)).set (by decide)).set (by decide)).set (by decide)).set (by decide)).set (by decide)).set (by decide)).set (by decide)).set (by decide)).set (by decide)).set (by decide)).set (by decide)).set (by decide)).set (by decide)).set (by decide)).set (by decide)).set (by decide)).set (by decide)).set (by decide)).set (by decide)).set (by decide)).set (by decide)).set (by decide)).set (by decide)).set (by decide)).set (by decide)).set (by decide)).set (by decide)).set (by decide)).set (by decide)).set (by decide)).set (by decide)).set (by decide)).set (by decide)).set (by decide)).set (by decide)).set (by decide)).set (by decide)).set (by decide)).set (by decide)).set (by decide)).set (by decide)).set (by decide)).set (by decide)).set (by decide)).set (by decide)).set (by decide)).set (by decide)).set (by decide)).set (by decide)).set (by decide)).set (by decide)).set (by decide)).set (by decide)).set (by decide)).set (by decide)).set (by decide)).set (by decide)).set (by decide)).set (by decide)).set (by decide)).set (by decide)).set (by decide)).set (by decide)).set (by decide)).set (by decide)).set (by decide)).set (by decide)).set (by decide)).set (by decide)).set (by decide)).set (by decide)).set (by decide)).set (by decide)).set (by decide)).set (by decide)).set (by decide)).set (by decide)).set (by decide)).set (by decide)).set (by decide)).set (by decide)).set (by decide)) hfree (fun t h hn => tx_out h hn) ⟨Nat.le_of_ble_eq_true rfl, Nat.le_of_ble_eq_true rfl, Nat.le_of_ble_eq_true rfl, Nat.le_of_ble_eq_true rfl, Nat.le_of_ble_eq_true rfl, Nat.le_of_ble_eq_true rfl, Nat.le_of_ble_eq_true rfl, Nat.le_of_ble_eq_true rfl, Nat.le_of_ble_eq_true rfl, Nat.le_of_ble_eq_true rfl, Nat.le_of_ble_eq_true rfl, Nat.le_of_ble_eq_true rfl, Nat.le_of_ble_eq_true rfl, Nat.le_of_ble_eq_true rfl, Nat.le_of_ble_eq_true rfl, Nat.le_of_ble_eq_true rfl, Nat.le_of_ble_eq_true rfl, Nat.le_of_ble_eq_true rfl, Nat.le_of_ble_eq_true rfl, Nat.le_of_ble_eq_true rfl, Nat.le_of_ble_eq_true rfl, Nat.le_of_ble_eq_true rfl, Nat.le_of_ble_eq_true rfl, Nat.le_of_ble_eq_true rfl, Nat.le_of_ble_eq_true rfl, Nat.le_of_ble_eq_true rfl, Nat.le_of_ble_eq_true rfl, Nat.le_of_ble_eq_true rfl, Nat.le_of_ble_eq_true rfl, Nat.le_of_ble_eq_true rfl, Nat.le_of_ble_eq_true rfl, Nat.le_of_ble_eq_true rfl, Nat.le_of_ble_eq_true rfl, Nat.le_of_ble_eq_true rfl, Nat.le_of_ble_eq_true rfl, Nat.le_of_ble_eq_true rfl, Nat.le_of_ble_eq_true rfl, Nat.le_of_ble_eq_true rfl, Nat.le_of_ble_eq_true rfl, Nat.le_of_ble_eq_true rfl, Nat.le_of_ble_eq_true rfl, Nat.le_of_ble_eq_true rfl, trivial⟩⟩)
set_option maxHeartbeats 4000000 in
set_option maxRecDepth 100000 in
theorem m_X12_init (G : z_G) (w : z_w) (hw : w (100, 0) = some (z_ob 12 [vi 0, vi 0, vi 0, vi 0, vi 0, vi 0, vi 0, vi 0, vn, vn, vn, vn, vn, vn, vn, vn, vn, vn, vn, vn, vn, vn, vi 0, vi 0, vi 0, vi 0, vi 0, vi 0, vi 0, vi 0, vi 0, vn, vi 0, vi 0, vi 0, vi 0, vn, vn, vn, vn, vn, vn, vn, vn, vn, vn, vn, vn, vn, vn, vn, vn, vn, vn, vn, vn, vn, vn, vn, vn, vn, vn, vn, vn, vn, vn, vn, vn, vn])) (hf : ∀ t, dM t → t ≠ (100, 0) → w t = none) : z_M G yX12_init cX12_init 1 none 2 (48) (5676) [vr (100, 0)] w (fun q w1 => q = none ∧ r_p dM (TM 0) w cM0 (fun _ _ => 0) (fun _ _ => none) w1) := by
  refine z_met ym_X12_init (by decide) ⟨Nat.le_of_ble_eq_true rfl, Nat.le_of_ble_eq_true rfl⟩ (fun X hG hn hmc hms hin h hr => ?_)
  have he := hr.2.2.2.2.2.1
  have hfree : ∀ t, dM t → t ∉ tagsM → w t = none := fun t ht hn => hf t ht (fun e => hn (by rw [e]; decide))
  have h108_0 : w (108, 0) = none := hf _ (Nat.le_of_ble_eq_true rfl) (by decide)
  have h109_0 : w (109, 0) = none := hf _ (Nat.le_of_ble_eq_true rfl) (by decide)
  have h110_0 : w (110, 0) = none := hf _ (Nat.le_of_ble_eq_true rfl) (by decide)
  have h111_0 : w (111, 0) = none := hf _ (Nat.le_of_ble_eq_true rfl) (by decide)
  have h112_0 : w (112, 0) = none := hf _ (Nat.le_of_ble_eq_true rfl) (by decide)
  have h113_0 : w (113, 0) = none := hf _ (Nat.le_of_ble_eq_true rfl) (by decide)
  have h114_0 : w (114, 0) = none := hf _ (Nat.le_of_ble_eq_true rfl) (by decide)
  have h115_0 : w (115, 0) = none := hf _ (Nat.le_of_ble_eq_true rfl) (by decide)
  have h116_0 : w (116, 0) = none := hf _ (Nat.le_of_ble_eq_true rfl) (by decide)
  have h117_0 : w (117, 0) = none := hf _ (Nat.le_of_ble_eq_true rfl) (by decide)
  have h118_0 : w (118, 0) = none := hf _ (Nat.le_of_ble_eq_true rfl) (by decide)
  have h119_0 : w (119, 0) = none := hf _ (Nat.le_of_ble_eq_true rfl) (by decide)
  have h120_0 : w (120, 0) = none := hf _ (Nat.le_of_ble_eq_true rfl) (by decide)
  have h121_0 : w (121, 0) = none := hf _ (Nat.le_of_ble_eq_true rfl) (by decide)
  have h131_0 : w (131, 0) = none := hf _ (Nat.le_of_ble_eq_true rfl) (by decide)
  have h136_0 : w (136, 0) = none := hf _ (Nat.le_of_ble_eq_true rfl) (by decide)
  have h137_0 : w (137, 0) = none := hf _ (Nat.le_of_ble_eq_true rfl) (by decide)
  have h138_0 : w (138, 0) = none := hf _ (Nat.le_of_ble_eq_true rfl) (by decide)
  have h139_0 : w (139, 0) = none := hf _ (Nat.le_of_ble_eq_true rfl) (by decide)
  have h140_0 : w (140, 0) = none := hf _ (Nat.le_of_ble_eq_true rfl) (by decide)
  have h141_0 : w (141, 0) = none := hf _ (Nat.le_of_ble_eq_true rfl) (by decide)
  have h142_0 : w (142, 0) = none := hf _ (Nat.le_of_ble_eq_true rfl) (by decide)
  have h143_0 : w (143, 0) = none := hf _ (Nat.le_of_ble_eq_true rfl) (by decide)
  have h144_0 : w (144, 0) = none := hf _ (Nat.le_of_ble_eq_true rfl) (by decide)
  have h145_0 : w (145, 0) = none := hf _ (Nat.le_of_ble_eq_true rfl) (by decide)
  have h146_0 : w (146, 0) = none := hf _ (Nat.le_of_ble_eq_true rfl) (by decide)
  have h147_0 : w (147, 0) = none := hf _ (Nat.le_of_ble_eq_true rfl) (by decide)
  have h148_0 : w (148, 0) = none := hf _ (Nat.le_of_ble_eq_true rfl) (by decide)
  have h149_0 : w (149, 0) = none := hf _ (Nat.le_of_ble_eq_true rfl) (by decide)
  have h150_0 : w (150, 0) = none := hf _ (Nat.le_of_ble_eq_true rfl) (by decide)
  have h151_0 : w (151, 0) = none := hf _ (Nat.le_of_ble_eq_true rfl) (by decide)
  have h152_0 : w (152, 0) = none := hf _ (Nat.le_of_ble_eq_true rfl) (by decide)
  have h153_0 : w (153, 0) = none := hf _ (Nat.le_of_ble_eq_true rfl) (by decide)
  have h154_0 : w (154, 0) = none := hf _ (Nat.le_of_ble_eq_true rfl) (by decide)
  have h155_0 : w (155, 0) = none := hf _ (Nat.le_of_ble_eq_true rfl) (by decide)
  have h156_0 : w (156, 0) = none := hf _ (Nat.le_of_ble_eq_true rfl) (by decide)
  have h157_0 : w (157, 0) = none := hf _ (Nat.le_of_ble_eq_true rfl) (by decide)
  have h158_0 : w (158, 0) = none := hf _ (Nat.le_of_ble_eq_true rfl) (by decide)
  have h159_0 : w (159, 0) = none := hf _ (Nat.le_of_ble_eq_true rfl) (by decide)
  have h160_0 : w (160, 0) = none := hf _ (Nat.le_of_ble_eq_true rfl) (by decide)
  have h161_0 : w (161, 0) = none := hf _ (Nat.le_of_ble_eq_true rfl) (by decide)
  have h162_0 : w (162, 0) = none := hf _ (Nat.le_of_ble_eq_true rfl) (by decide)
  have h163_0 : w (163, 0) = none := hf _ (Nat.le_of_ble_eq_true rfl) (by decide)
  have h164_0 : w (164, 0) = none := hf _ (Nat.le_of_ble_eq_true rfl) (by decide)
  have h165_0 : w (165, 0) = none := hf _ (Nat.le_of_ble_eq_true rfl) (by decide)
  have h166_0 : w (166, 0) = none := hf _ (Nat.le_of_ble_eq_true rfl) (by decide)
  have h167_0 : w (167, 0) = none := hf _ (Nat.le_of_ble_eq_true rfl) (by decide)
  have h168_0 : w (168, 0) = none := hf _ (Nat.le_of_ble_eq_true rfl) (by decide)
  refine z_less (kC' := 0 + 1 + 1 + 1 + 1 + 1 + 1 + 1 + 1 + 1 + 1 + 1 + 1 + 1 + 1 + 1 + 1 + 1 + 1 + 1 + 1 + 1 + 1 + 1 + 1 + 1 + 1 + 1 + 1 + 1 + 1 + 1 + 1 + 1 + 1 + 1 + 1 + 1 + 1 + 1 + 1 + 1 + 1 + 1 + 1 + 1 + 1 + 1 + 1) (kS' := 0 + 100 + 100 + 8 + 8 + 8 + 256 + 256 + 256 + 256 + 8 + 480 + 60 + 60 + 60 + 100 + 100 + 100 + 100 + 100 + 100 + 100 + 100 + 100 + 800 + 1200 + 60 + 60 + 60 + 60 + 60 + 60 + 60 + 60 + 220 + 12 + 8 + 12 + 12 + 12 + 12 + 8 + 12 + 12 + 12 + 12 + 12 + 12 + 12) (by decide) (by decide) ?_
  refine z_aload_n h dX12_init_0 rfl ?_
  refine z_obj h dX12_init_1 mlX12_1 im_objectInit co_objectInit (Nat.le_of_ble_eq_true rfl) ?_
  refine z_aload_n h dX12_init_4 rfl ?_
  refine z_bipush (v := 12) h dX12_init_5 (by decide) ?_
  refine z_newarr h dX12_init_7 he 0 (.inl (fun _ => 0)) ⟨by decide, rfl, ac_int, fun _ _ _ => ⟨(_, .inl (fun _ => 0)), rfl, rfl⟩⟩ trivial rfl (by decide) (108, 0) h108_0 ?_
  refine z_putF h dX12_init_9 he hin flX12_9 (z_skip rfl hw) (Nat.le_of_ble_eq_true rfl) (z_fit_r (Or.inr ⟨_, rfl⟩) _) ?_
  refine z_aload_n h dX12_init_12 rfl ?_
  refine z_bipush (v := 12) h dX12_init_13 (by decide) ?_
  refine z_newarr h dX12_init_15 he 0 (.inl (fun _ => 0)) ⟨by decide, rfl, ac_int, fun _ _ _ => ⟨(_, .inl (fun _ => 0)), rfl, rfl⟩⟩ trivial rfl (by decide) (109, 0) h109_0 ?_
  refine z_putF h dX12_init_17 he hin flX12_13 rfl (Nat.le_of_ble_eq_true rfl) (z_fit_r (Or.inr ⟨_, rfl⟩) _) ?_
  refine z_aload_n h dX12_init_20 rfl ?_
  refine z_bipush (v := 12) h dX12_init_21 (by decide) ?_
  refine z_newarr h dX12_init_23 he 0 (.inl (fun _ => 0)) ⟨by decide, rfl, ac_int, fun _ _ _ => ⟨(_, .inl (fun _ => 0)), rfl, rfl⟩⟩ trivial rfl (by decide) (110, 0) h110_0 ?_
  refine z_putF h dX12_init_25 he hin flX12_16 rfl (Nat.le_of_ble_eq_true rfl) (z_fit_r (Or.inr ⟨_, rfl⟩) _) ?_
  refine z_aload_n h dX12_init_28 rfl ?_
  refine z_bipush (v := 12) h dX12_init_29 (by decide) ?_
  refine z_newarr h dX12_init_31 he 0 (.inl (fun _ => 0)) ⟨by decide, rfl, ac_int, fun _ _ _ => ⟨(_, .inl (fun _ => 0)), rfl, rfl⟩⟩ trivial rfl (by decide) (111, 0) h111_0 ?_
  refine z_putF h dX12_init_33 he hin flX12_19 rfl (Nat.le_of_ble_eq_true rfl) (z_fit_r (Or.inr ⟨_, rfl⟩) _) ?_
  refine z_aload_n h dX12_init_36 rfl ?_
  refine z_bipush (v := 12) h dX12_init_37 (by decide) ?_
  refine z_newarr h dX12_init_39 he 0 (.inl (fun _ => 0)) ⟨by decide, rfl, ac_int, fun _ _ _ => ⟨(_, .inl (fun _ => 0)), rfl, rfl⟩⟩ trivial rfl (by decide) (112, 0) h112_0 ?_
  refine z_putF h dX12_init_41 he hin flX12_22 rfl (Nat.le_of_ble_eq_true rfl) (z_fit_r (Or.inr ⟨_, rfl⟩) _) ?_
  refine z_aload_n h dX12_init_44 rfl ?_
  refine z_bipush (v := 12) h dX12_init_45 (by decide) ?_
  refine z_newarr h dX12_init_47 he 0 (.inl (fun _ => 0)) ⟨by decide, rfl, ac_int, fun _ _ _ => ⟨(_, .inl (fun _ => 0)), rfl, rfl⟩⟩ trivial rfl (by decide) (113, 0) h113_0 ?_
  refine z_putF h dX12_init_49 he hin flX12_25 rfl (Nat.le_of_ble_eq_true rfl) (z_fit_r (Or.inr ⟨_, rfl⟩) _) ?_
  refine z_aload_n h dX12_init_52 rfl ?_
  refine z_bipush (v := 12) h dX12_init_53 (by decide) ?_
  refine z_newarr h dX12_init_55 he 0 (.inl (fun _ => 0)) ⟨by decide, rfl, ac_int, fun _ _ _ => ⟨(_, .inl (fun _ => 0)), rfl, rfl⟩⟩ trivial rfl (by decide) (114, 0) h114_0 ?_
  refine z_putF h dX12_init_57 he hin flX12_28 rfl (Nat.le_of_ble_eq_true rfl) (z_fit_r (Or.inr ⟨_, rfl⟩) _) ?_
  refine z_aload_n h dX12_init_60 rfl ?_
  refine z_bipush (v := 8) h dX12_init_61 (by decide) ?_
  refine z_newarr h dX12_init_63 he 0 (.inl (fun _ => 0)) ⟨by decide, rfl, ac_int, fun _ _ _ => ⟨(_, .inl (fun _ => 0)), rfl, rfl⟩⟩ trivial rfl (by decide) (115, 0) h115_0 ?_
  refine z_putF h dX12_init_65 he hin flX12_31 rfl (Nat.le_of_ble_eq_true rfl) (z_fit_r (Or.inr ⟨_, rfl⟩) _) ?_
  refine z_aload_n h dX12_init_68 rfl ?_
  refine z_bipush (v := 12) h dX12_init_69 (by decide) ?_
  refine z_newarr h dX12_init_71 he 1 (.inr (.inl (fun _ => 0))) ⟨by decide, rfl, ac_long, fun _ _ _ => ⟨(_, .inr (.inl (fun _ => 0))), rfl, rfl⟩⟩ trivial rfl (by decide) (116, 0) h116_0 ?_
  refine z_putF h dX12_init_73 he hin flX12_34 rfl (Nat.le_of_ble_eq_true rfl) (z_fit_r (Or.inr ⟨_, rfl⟩) _) ?_
  refine z_aload_n h dX12_init_76 rfl ?_
  refine z_bipush (v := 12) h dX12_init_77 (by decide) ?_
  refine z_newarr h dX12_init_79 he 0 (.inl (fun _ => 0)) ⟨by decide, rfl, ac_int, fun _ _ _ => ⟨(_, .inl (fun _ => 0)), rfl, rfl⟩⟩ trivial rfl (by decide) (117, 0) h117_0 ?_
  refine z_putF h dX12_init_81 he hin flX12_38 rfl (Nat.le_of_ble_eq_true rfl) (z_fit_r (Or.inr ⟨_, rfl⟩) _) ?_
  refine z_aload_n h dX12_init_84 rfl ?_
  refine z_bipush (v := 12) h dX12_init_85 (by decide) ?_
  refine z_newarr h dX12_init_87 he 2 (.inl (fun _ => 0)) ⟨by decide, rfl, ac_boolean, fun _ _ _ => ⟨(_, .inl (fun _ => 0)), rfl, rfl⟩⟩ trivial rfl (by decide) (118, 0) h118_0 ?_
  refine z_putF h dX12_init_89 he hin flX12_41 rfl (Nat.le_of_ble_eq_true rfl) (z_fit_r (Or.inr ⟨_, rfl⟩) _) ?_
  refine z_aload_n h dX12_init_92 rfl ?_
  refine z_bipush (v := 12) h dX12_init_93 (by decide) ?_
  refine z_newarr h dX12_init_95 he 0 (.inl (fun _ => 0)) ⟨by decide, rfl, ac_int, fun _ _ _ => ⟨(_, .inl (fun _ => 0)), rfl, rfl⟩⟩ trivial rfl (by decide) (119, 0) h119_0 ?_
  refine z_putF h dX12_init_97 he hin flX12_45 rfl (Nat.le_of_ble_eq_true rfl) (z_fit_r (Or.inr ⟨_, rfl⟩) _) ?_
  refine z_aload_n h dX12_init_100 rfl ?_
  refine z_bipush (v := 8) h dX12_init_101 (by decide) ?_
  refine z_newarr h dX12_init_103 he 0 (.inl (fun _ => 0)) ⟨by decide, rfl, ac_int, fun _ _ _ => ⟨(_, .inl (fun _ => 0)), rfl, rfl⟩⟩ trivial rfl (by decide) (120, 0) h120_0 ?_
  refine z_putF h dX12_init_105 he hin flX12_48 rfl (Nat.le_of_ble_eq_true rfl) (z_fit_r (Or.inr ⟨_, rfl⟩) _) ?_
  refine z_aload_n h dX12_init_108 rfl ?_
  refine z_bipush (v := 12) h dX12_init_109 (by decide) ?_
  refine z_newarr h dX12_init_111 he 0 (.inl (fun _ => 0)) ⟨by decide, rfl, ac_int, fun _ _ _ => ⟨(_, .inl (fun _ => 0)), rfl, rfl⟩⟩ trivial rfl (by decide) (121, 0) h121_0 ?_
  refine z_putF h dX12_init_113 he hin flX12_51 rfl (Nat.le_of_ble_eq_true rfl) (z_fit_r (Or.inr ⟨_, rfl⟩) _) ?_
  refine z_aload_n h dX12_init_116 rfl ?_
  refine z_iconst (v := -1) h dX12_init_117 (by decide) ?_
  refine z_put h dX12_init_118 he flX12_54 rfl (by first | exact Nat.le_of_ble_eq_true rfl | (simp only [List.length_set]; exact Nat.le_of_ble_eq_true rfl)) (z_fit_i _) ?_
  refine z_aload_n h dX12_init_121 rfl ?_
  refine z_bipush (v := 9) h dX12_init_122 (by decide) ?_
  refine z_put h dX12_init_124 he flX12_58 rfl (by first | exact Nat.le_of_ble_eq_true rfl | (simp only [List.length_set]; exact Nat.le_of_ble_eq_true rfl)) (z_fit_i _) ?_
  refine z_aload_n h dX12_init_127 rfl ?_
  refine z_iconst (v := 1) h dX12_init_128 (by decide) ?_
  refine z_put h dX12_init_129 he flX12_61 rfl (by first | exact Nat.le_of_ble_eq_true rfl | (simp only [List.length_set]; exact Nat.le_of_ble_eq_true rfl)) (z_fit_i _) ?_
  refine z_aload_n h dX12_init_132 rfl ?_
  refine z_sipush (v := 220) h dX12_init_133 (by decide) ?_
  refine z_newarr h dX12_init_136 he 0 (.inl (fun _ => 0)) ⟨by decide, rfl, ac_int, fun _ _ _ => ⟨(_, .inl (fun _ => 0)), rfl, rfl⟩⟩ trivial rfl (by decide) (131, 0) h131_0 ?_
  refine z_putF h dX12_init_138 he hin flX12_64 rfl (Nat.le_of_ble_eq_true rfl) (z_fit_r (Or.inr ⟨_, rfl⟩) _) ?_
  refine z_aload_n h dX12_init_141 rfl ?_
  refine z_bipush (v := 60) h dX12_init_142 (by decide) ?_
  refine z_newarr h dX12_init_144 he 0 (.inl (fun _ => 0)) ⟨by decide, rfl, ac_int, fun _ _ _ => ⟨(_, .inl (fun _ => 0)), rfl, rfl⟩⟩ trivial rfl (by decide) (136, 0) h136_0 ?_
  refine z_putF h dX12_init_146 he hin flX12_67 rfl (Nat.le_of_ble_eq_true rfl) (z_fit_r (Or.inr ⟨_, rfl⟩) _) ?_
  refine z_aload_n h dX12_init_149 rfl ?_
  refine z_bipush (v := 60) h dX12_init_150 (by decide) ?_
  refine z_newarr h dX12_init_152 he 0 (.inl (fun _ => 0)) ⟨by decide, rfl, ac_int, fun _ _ _ => ⟨(_, .inl (fun _ => 0)), rfl, rfl⟩⟩ trivial rfl (by decide) (137, 0) h137_0 ?_
  refine z_putF h dX12_init_154 he hin flX12_70 rfl (Nat.le_of_ble_eq_true rfl) (z_fit_r (Or.inr ⟨_, rfl⟩) _) ?_
  refine z_aload_n h dX12_init_157 rfl ?_
  refine z_bipush (v := 60) h dX12_init_158 (by decide) ?_
  refine z_newarr h dX12_init_160 he 0 (.inl (fun _ => 0)) ⟨by decide, rfl, ac_int, fun _ _ _ => ⟨(_, .inl (fun _ => 0)), rfl, rfl⟩⟩ trivial rfl (by decide) (138, 0) h138_0 ?_
  refine z_putF h dX12_init_162 he hin flX12_73 rfl (Nat.le_of_ble_eq_true rfl) (z_fit_r (Or.inr ⟨_, rfl⟩) _) ?_
  refine z_aload_n h dX12_init_165 rfl ?_
  refine z_bipush (v := 60) h dX12_init_166 (by decide) ?_
  refine z_newarr h dX12_init_168 he 0 (.inl (fun _ => 0)) ⟨by decide, rfl, ac_int, fun _ _ _ => ⟨(_, .inl (fun _ => 0)), rfl, rfl⟩⟩ trivial rfl (by decide) (139, 0) h139_0 ?_
  refine z_putF h dX12_init_170 he hin flX12_76 rfl (Nat.le_of_ble_eq_true rfl) (z_fit_r (Or.inr ⟨_, rfl⟩) _) ?_
  refine z_aload_n h dX12_init_173 rfl ?_
  refine z_bipush (v := 60) h dX12_init_174 (by decide) ?_
  refine z_newarr h dX12_init_176 he 0 (.inl (fun _ => 0)) ⟨by decide, rfl, ac_int, fun _ _ _ => ⟨(_, .inl (fun _ => 0)), rfl, rfl⟩⟩ trivial rfl (by decide) (140, 0) h140_0 ?_
  refine z_putF h dX12_init_178 he hin flX12_79 rfl (Nat.le_of_ble_eq_true rfl) (z_fit_r (Or.inr ⟨_, rfl⟩) _) ?_
  refine z_aload_n h dX12_init_181 rfl ?_
  refine z_bipush (v := 60) h dX12_init_182 (by decide) ?_
  refine z_newarr h dX12_init_184 he 0 (.inl (fun _ => 0)) ⟨by decide, rfl, ac_int, fun _ _ _ => ⟨(_, .inl (fun _ => 0)), rfl, rfl⟩⟩ trivial rfl (by decide) (141, 0) h141_0 ?_
  refine z_putF h dX12_init_186 he hin flX12_82 rfl (Nat.le_of_ble_eq_true rfl) (z_fit_r (Or.inr ⟨_, rfl⟩) _) ?_
  refine z_aload_n h dX12_init_189 rfl ?_
  refine z_bipush (v := 60) h dX12_init_190 (by decide) ?_
  refine z_newarr h dX12_init_192 he 0 (.inl (fun _ => 0)) ⟨by decide, rfl, ac_int, fun _ _ _ => ⟨(_, .inl (fun _ => 0)), rfl, rfl⟩⟩ trivial rfl (by decide) (142, 0) h142_0 ?_
  refine z_putF h dX12_init_194 he hin flX12_85 rfl (Nat.le_of_ble_eq_true rfl) (z_fit_r (Or.inr ⟨_, rfl⟩) _) ?_
  refine z_aload_n h dX12_init_197 rfl ?_
  refine z_bipush (v := 60) h dX12_init_198 (by decide) ?_
  refine z_newarr h dX12_init_200 he 0 (.inl (fun _ => 0)) ⟨by decide, rfl, ac_int, fun _ _ _ => ⟨(_, .inl (fun _ => 0)), rfl, rfl⟩⟩ trivial rfl (by decide) (143, 0) h143_0 ?_
  refine z_putF h dX12_init_202 he hin flX12_88 rfl (Nat.le_of_ble_eq_true rfl) (z_fit_r (Or.inr ⟨_, rfl⟩) _) ?_
  refine z_aload_n h dX12_init_205 rfl ?_
  refine z_sipush (v := 1200) h dX12_init_206 (by decide) ?_
  refine z_newarr h dX12_init_209 he 0 (.inl (fun _ => 0)) ⟨by decide, rfl, ac_int, fun _ _ _ => ⟨(_, .inl (fun _ => 0)), rfl, rfl⟩⟩ trivial rfl (by decide) (144, 0) h144_0 ?_
  refine z_putF h dX12_init_211 he hin flX12_91 rfl (Nat.le_of_ble_eq_true rfl) (z_fit_r (Or.inr ⟨_, rfl⟩) _) ?_
  refine z_aload_n h dX12_init_214 rfl ?_
  refine z_sipush (v := 800) h dX12_init_215 (by decide) ?_
  refine z_newarr h dX12_init_218 he 0 (.inl (fun _ => 0)) ⟨by decide, rfl, ac_int, fun _ _ _ => ⟨(_, .inl (fun _ => 0)), rfl, rfl⟩⟩ trivial rfl (by decide) (145, 0) h145_0 ?_
  refine z_putF h dX12_init_220 he hin flX12_94 rfl (Nat.le_of_ble_eq_true rfl) (z_fit_r (Or.inr ⟨_, rfl⟩) _) ?_
  refine z_aload_n h dX12_init_223 rfl ?_
  refine z_bipush (v := 100) h dX12_init_224 (by decide) ?_
  refine z_newarr h dX12_init_226 he 0 (.inl (fun _ => 0)) ⟨by decide, rfl, ac_int, fun _ _ _ => ⟨(_, .inl (fun _ => 0)), rfl, rfl⟩⟩ trivial rfl (by decide) (146, 0) h146_0 ?_
  refine z_putF h dX12_init_228 he hin flX12_97 rfl (Nat.le_of_ble_eq_true rfl) (z_fit_r (Or.inr ⟨_, rfl⟩) _) ?_
  refine z_aload_n h dX12_init_231 rfl ?_
  refine z_bipush (v := 100) h dX12_init_232 (by decide) ?_
  refine z_newarr h dX12_init_234 he 0 (.inl (fun _ => 0)) ⟨by decide, rfl, ac_int, fun _ _ _ => ⟨(_, .inl (fun _ => 0)), rfl, rfl⟩⟩ trivial rfl (by decide) (147, 0) h147_0 ?_
  refine z_putF h dX12_init_236 he hin flX12_100 rfl (Nat.le_of_ble_eq_true rfl) (z_fit_r (Or.inr ⟨_, rfl⟩) _) ?_
  refine z_aload_n h dX12_init_239 rfl ?_
  refine z_bipush (v := 100) h dX12_init_240 (by decide) ?_
  refine z_newarr h dX12_init_242 he 0 (.inl (fun _ => 0)) ⟨by decide, rfl, ac_int, fun _ _ _ => ⟨(_, .inl (fun _ => 0)), rfl, rfl⟩⟩ trivial rfl (by decide) (148, 0) h148_0 ?_
  refine z_putF h dX12_init_244 he hin flX12_103 rfl (Nat.le_of_ble_eq_true rfl) (z_fit_r (Or.inr ⟨_, rfl⟩) _) ?_
  refine z_aload_n h dX12_init_247 rfl ?_
  refine z_bipush (v := 100) h dX12_init_248 (by decide) ?_
  refine z_newarr h dX12_init_250 he 0 (.inl (fun _ => 0)) ⟨by decide, rfl, ac_int, fun _ _ _ => ⟨(_, .inl (fun _ => 0)), rfl, rfl⟩⟩ trivial rfl (by decide) (149, 0) h149_0 ?_
  refine z_putF h dX12_init_252 he hin flX12_106 rfl (Nat.le_of_ble_eq_true rfl) (z_fit_r (Or.inr ⟨_, rfl⟩) _) ?_
  refine z_aload_n h dX12_init_255 rfl ?_
  refine z_bipush (v := 100) h dX12_init_256 (by decide) ?_
  refine z_newarr h dX12_init_258 he 0 (.inl (fun _ => 0)) ⟨by decide, rfl, ac_int, fun _ _ _ => ⟨(_, .inl (fun _ => 0)), rfl, rfl⟩⟩ trivial rfl (by decide) (150, 0) h150_0 ?_
  refine z_putF h dX12_init_260 he hin flX12_109 rfl (Nat.le_of_ble_eq_true rfl) (z_fit_r (Or.inr ⟨_, rfl⟩) _) ?_
  refine z_aload_n h dX12_init_263 rfl ?_
  refine z_bipush (v := 100) h dX12_init_264 (by decide) ?_
  refine z_newarr h dX12_init_266 he 0 (.inl (fun _ => 0)) ⟨by decide, rfl, ac_int, fun _ _ _ => ⟨(_, .inl (fun _ => 0)), rfl, rfl⟩⟩ trivial rfl (by decide) (151, 0) h151_0 ?_
  refine z_putF h dX12_init_268 he hin flX12_112 rfl (Nat.le_of_ble_eq_true rfl) (z_fit_r (Or.inr ⟨_, rfl⟩) _) ?_
  refine z_aload_n h dX12_init_271 rfl ?_
  refine z_bipush (v := 100) h dX12_init_272 (by decide) ?_
  refine z_newarr h dX12_init_274 he 0 (.inl (fun _ => 0)) ⟨by decide, rfl, ac_int, fun _ _ _ => ⟨(_, .inl (fun _ => 0)), rfl, rfl⟩⟩ trivial rfl (by decide) (152, 0) h152_0 ?_
  refine z_putF h dX12_init_276 he hin flX12_115 rfl (Nat.le_of_ble_eq_true rfl) (z_fit_r (Or.inr ⟨_, rfl⟩) _) ?_
  refine z_aload_n h dX12_init_279 rfl ?_
  refine z_bipush (v := 100) h dX12_init_280 (by decide) ?_
  refine z_newarr h dX12_init_282 he 0 (.inl (fun _ => 0)) ⟨by decide, rfl, ac_int, fun _ _ _ => ⟨(_, .inl (fun _ => 0)), rfl, rfl⟩⟩ trivial rfl (by decide) (153, 0) h153_0 ?_
  refine z_putF h dX12_init_284 he hin flX12_118 rfl (Nat.le_of_ble_eq_true rfl) (z_fit_r (Or.inr ⟨_, rfl⟩) _) ?_
  refine z_aload_n h dX12_init_287 rfl ?_
  refine z_bipush (v := 100) h dX12_init_288 (by decide) ?_
  refine z_newarr h dX12_init_290 he 0 (.inl (fun _ => 0)) ⟨by decide, rfl, ac_int, fun _ _ _ => ⟨(_, .inl (fun _ => 0)), rfl, rfl⟩⟩ trivial rfl (by decide) (154, 0) h154_0 ?_
  refine z_putF h dX12_init_292 he hin flX12_121 rfl (Nat.le_of_ble_eq_true rfl) (z_fit_r (Or.inr ⟨_, rfl⟩) _) ?_
  refine z_aload_n h dX12_init_295 rfl ?_
  refine z_bipush (v := 60) h dX12_init_296 (by decide) ?_
  refine z_newarr h dX12_init_298 he 0 (.inl (fun _ => 0)) ⟨by decide, rfl, ac_int, fun _ _ _ => ⟨(_, .inl (fun _ => 0)), rfl, rfl⟩⟩ trivial rfl (by decide) (155, 0) h155_0 ?_
  refine z_putF h dX12_init_300 he hin flX12_124 rfl (Nat.le_of_ble_eq_true rfl) (z_fit_r (Or.inr ⟨_, rfl⟩) _) ?_
  refine z_aload_n h dX12_init_303 rfl ?_
  refine z_bipush (v := 60) h dX12_init_304 (by decide) ?_
  refine z_newarr h dX12_init_306 he 0 (.inl (fun _ => 0)) ⟨by decide, rfl, ac_int, fun _ _ _ => ⟨(_, .inl (fun _ => 0)), rfl, rfl⟩⟩ trivial rfl (by decide) (156, 0) h156_0 ?_
  refine z_putF h dX12_init_308 he hin flX12_127 rfl (Nat.le_of_ble_eq_true rfl) (z_fit_r (Or.inr ⟨_, rfl⟩) _) ?_
  refine z_aload_n h dX12_init_311 rfl ?_
  refine z_bipush (v := 60) h dX12_init_312 (by decide) ?_
  refine z_newarr h dX12_init_314 he 0 (.inl (fun _ => 0)) ⟨by decide, rfl, ac_int, fun _ _ _ => ⟨(_, .inl (fun _ => 0)), rfl, rfl⟩⟩ trivial rfl (by decide) (157, 0) h157_0 ?_
  refine z_putF h dX12_init_316 he hin flX12_130 rfl (Nat.le_of_ble_eq_true rfl) (z_fit_r (Or.inr ⟨_, rfl⟩) _) ?_
  refine z_aload_n h dX12_init_319 rfl ?_
  refine z_sipush (v := 480) h dX12_init_320 (by decide) ?_
  refine z_newarr h dX12_init_323 he 0 (.inl (fun _ => 0)) ⟨by decide, rfl, ac_int, fun _ _ _ => ⟨(_, .inl (fun _ => 0)), rfl, rfl⟩⟩ trivial rfl (by decide) (158, 0) h158_0 ?_
  refine z_putF h dX12_init_325 he hin flX12_133 rfl (Nat.le_of_ble_eq_true rfl) (z_fit_r (Or.inr ⟨_, rfl⟩) _) ?_
  refine z_aload_n h dX12_init_328 rfl ?_
  refine z_bipush (v := 8) h dX12_init_329 (by decide) ?_
  refine z_newarr h dX12_init_331 he 0 (.inl (fun _ => 0)) ⟨by decide, rfl, ac_int, fun _ _ _ => ⟨(_, .inl (fun _ => 0)), rfl, rfl⟩⟩ trivial rfl (by decide) (159, 0) h159_0 ?_
  refine z_putF h dX12_init_333 he hin flX12_136 rfl (Nat.le_of_ble_eq_true rfl) (z_fit_r (Or.inr ⟨_, rfl⟩) _) ?_
  refine z_aload_n h dX12_init_336 rfl ?_
  refine z_sipush (v := 256) h dX12_init_337 (by decide) ?_
  refine z_newarr h dX12_init_340 he 0 (.inl (fun _ => 0)) ⟨by decide, rfl, ac_int, fun _ _ _ => ⟨(_, .inl (fun _ => 0)), rfl, rfl⟩⟩ trivial rfl (by decide) (160, 0) h160_0 ?_
  refine z_put h dX12_init_342 he flX12_139 rfl (by first | exact Nat.le_of_ble_eq_true rfl | (simp only [List.length_set]; exact Nat.le_of_ble_eq_true rfl)) (z_fit_r (Or.inr ⟨_, rfl⟩) _) ?_
  refine z_aload_n h dX12_init_345 rfl ?_
  refine z_sipush (v := 256) h dX12_init_346 (by decide) ?_
  refine z_newarr h dX12_init_349 he 0 (.inl (fun _ => 0)) ⟨by decide, rfl, ac_int, fun _ _ _ => ⟨(_, .inl (fun _ => 0)), rfl, rfl⟩⟩ trivial rfl (by decide) (161, 0) h161_0 ?_
  refine z_put h dX12_init_351 he flX12_142 rfl (by first | exact Nat.le_of_ble_eq_true rfl | (simp only [List.length_set]; exact Nat.le_of_ble_eq_true rfl)) (z_fit_r (Or.inr ⟨_, rfl⟩) _) ?_
  refine z_aload_n h dX12_init_354 rfl ?_
  refine z_sipush (v := 256) h dX12_init_355 (by decide) ?_
  refine z_newarr h dX12_init_358 he 0 (.inl (fun _ => 0)) ⟨by decide, rfl, ac_int, fun _ _ _ => ⟨(_, .inl (fun _ => 0)), rfl, rfl⟩⟩ trivial rfl (by decide) (162, 0) h162_0 ?_
  refine z_put h dX12_init_360 he flX12_145 rfl (by first | exact Nat.le_of_ble_eq_true rfl | (simp only [List.length_set]; exact Nat.le_of_ble_eq_true rfl)) (z_fit_r (Or.inr ⟨_, rfl⟩) _) ?_
  refine z_aload_n h dX12_init_363 rfl ?_
  refine z_sipush (v := 256) h dX12_init_364 (by decide) ?_
  refine z_newarr h dX12_init_367 he 0 (.inl (fun _ => 0)) ⟨by decide, rfl, ac_int, fun _ _ _ => ⟨(_, .inl (fun _ => 0)), rfl, rfl⟩⟩ trivial rfl (by decide) (163, 0) h163_0 ?_
  refine z_put h dX12_init_369 he flX12_148 rfl (by first | exact Nat.le_of_ble_eq_true rfl | (simp only [List.length_set]; exact Nat.le_of_ble_eq_true rfl)) (z_fit_r (Or.inr ⟨_, rfl⟩) _) ?_
  refine z_aload_n h dX12_init_372 rfl ?_
  refine z_bipush (v := 8) h dX12_init_373 (by decide) ?_
  refine z_newarr h dX12_init_375 he 0 (.inl (fun _ => 0)) ⟨by decide, rfl, ac_int, fun _ _ _ => ⟨(_, .inl (fun _ => 0)), rfl, rfl⟩⟩ trivial rfl (by decide) (164, 0) h164_0 ?_
  refine z_putF h dX12_init_377 he hin flX12_151 rfl (Nat.le_of_ble_eq_true rfl) (z_fit_r (Or.inr ⟨_, rfl⟩) _) ?_
  refine z_aload_n h dX12_init_380 rfl ?_
  refine z_bipush (v := 8) h dX12_init_381 (by decide) ?_
  refine z_newarr h dX12_init_383 he 0 (.inl (fun _ => 0)) ⟨by decide, rfl, ac_int, fun _ _ _ => ⟨(_, .inl (fun _ => 0)), rfl, rfl⟩⟩ trivial rfl (by decide) (165, 0) h165_0 ?_
  refine z_putF h dX12_init_385 he hin flX12_154 rfl (Nat.le_of_ble_eq_true rfl) (z_fit_r (Or.inr ⟨_, rfl⟩) _) ?_
  refine z_aload_n h dX12_init_388 rfl ?_
  refine z_bipush (v := 8) h dX12_init_389 (by decide) ?_
  refine z_newarr h dX12_init_391 he 0 (.inl (fun _ => 0)) ⟨by decide, rfl, ac_int, fun _ _ _ => ⟨(_, .inl (fun _ => 0)), rfl, rfl⟩⟩ trivial rfl (by decide) (166, 0) h166_0 ?_
  refine z_putF h dX12_init_393 he hin flX12_157 rfl (Nat.le_of_ble_eq_true rfl) (z_fit_r (Or.inr ⟨_, rfl⟩) _) ?_
  refine z_aload_n h dX12_init_396 rfl ?_
  refine z_bipush (v := 100) h dX12_init_397 (by decide) ?_
  refine z_newarr h dX12_init_399 he 0 (.inl (fun _ => 0)) ⟨by decide, rfl, ac_int, fun _ _ _ => ⟨(_, .inl (fun _ => 0)), rfl, rfl⟩⟩ trivial rfl (by decide) (167, 0) h167_0 ?_
  refine z_putF h dX12_init_401 he hin flX12_160 rfl (Nat.le_of_ble_eq_true rfl) (z_fit_r (Or.inr ⟨_, rfl⟩) _) ?_
  refine z_aload_n h dX12_init_404 rfl ?_
  refine z_bipush (v := 100) h dX12_init_405 (by decide) ?_
  refine z_newarr h dX12_init_407 he 2 (.inl (fun _ => 0)) ⟨by decide, rfl, ac_boolean, fun _ _ _ => ⟨(_, .inl (fun _ => 0)), rfl, rfl⟩⟩ trivial rfl (by decide) (168, 0) h168_0 ?_
  refine z_putF h dX12_init_409 he hin flX12_163 rfl (Nat.le_of_ble_eq_true rfl) (z_fit_r (Or.inr ⟨_, rfl⟩) _) ?_
  exact z_vret h dX12_init_412 hr (⟨rfl, rp_of_list tagsM ⟨rfl, rfl, rfl, rfl, rfl, rfl, rfl, rfl, rfl, rfl, rfl, rfl, rfl, rfl, rfl, rfl, rfl, rfl, rfl, rfl, rfl, rfl, rfl, rfl, rfl, rfl, rfl, rfl, rfl, rfl, rfl, rfl, rfl, rfl, rfl, rfl, rfl, rfl, rfl, rfl, rfl, rfl, rfl, rfl, rfl, rfl, rfl, rfl, rfl, trivial⟩ (((((((((((((((((((((((((((((((((((((((((((((((((((((((((((((((((((((((((((((((((((((((((((((((((((z_fr.rf.set (by decide)).set (by decide)).set (by decide)).set (by decide)).set (by decide)).set (by decide)).set (by decide)).set (by decide)).set (by decide)).set (by decide)).set (by decide)).set (by decide)).set (by decide)).set (by decide)).set (by decide)).set (by decide)).set (by decide)).set (by decide)).set (by decide)).set (by decide)).set (by decide)).set (by decide)).set (by decide)).set (by decide)).set (by decide)).set (by decide)).set (by decide)).set (by decide)).set (by decide)).set (by decide)).set (by decide)).set (by decide)).set (by decide)).set (by decide)).set (by decide)).set (by decide)).set (by decide)).set (by decide)).set (by decide)).set (by decide)).set (by decide)).set (by decide)).set (by decide)).set (by decide)).set (by decide)).set (by decide)).set (by decide)).set (by decide)).set (by decide)).set (by decide)).set (by decide)).set (by decide)).set (by decide)).set (by decide)).set (by decide)).set (by decide)).set (by decide)).set (by decide)).set (by decide)).set (by decide)).set (by decide)).set (by decide)).set (by decide)).set (by decide)).set (by decide)).set (by decide)).set (by decide)).set (by decide)).set (by decide)).set (by decide)).set (by decide)).set (by decide)).set (by decide)).set (by decide)).set (by decide)).set (by decide)).set (by decide)).set (by decide)).set (by decide)).set (by decide)).set (by decide)).set (by decide)).set (by decide)).set (by decide)).set (by decide)).set (by decide)).set (by decide)).set (by decide)).set (by decide)).set (by decide)).set (by decide)).set (by decide)).set (by decide)).set (by decide)).set (by decide)).set (by decide)).set (by decide)).set (by decide)).set (by decide)) hfree (fun t h hn => tm_out h hn) ⟨Nat.le_of_ble_eq_true rfl, Nat.le_of_ble_eq_true rfl, Nat.le_of_ble_eq_true rfl, Nat.le_of_ble_eq_true rfl, Nat.le_of_ble_eq_true rfl, Nat.le_of_ble_eq_true rfl, Nat.le_of_ble_eq_true rfl, Nat.le_of_ble_eq_true rfl, Nat.le_of_ble_eq_true rfl, Nat.le_of_ble_eq_true rfl, Nat.le_of_ble_eq_true rfl, Nat.le_of_ble_eq_true rfl, Nat.le_of_ble_eq_true rfl, Nat.le_of_ble_eq_true rfl, Nat.le_of_ble_eq_true rfl, Nat.le_of_ble_eq_true rfl, Nat.le_of_ble_eq_true rfl, Nat.le_of_ble_eq_true rfl, Nat.le_of_ble_eq_true rfl, Nat.le_of_ble_eq_true rfl, Nat.le_of_ble_eq_true rfl, Nat.le_of_ble_eq_true rfl, Nat.le_of_ble_eq_true rfl, Nat.le_of_ble_eq_true rfl, Nat.le_of_ble_eq_true rfl, Nat.le_of_ble_eq_true rfl, Nat.le_of_ble_eq_true rfl, Nat.le_of_ble_eq_true rfl, Nat.le_of_ble_eq_true rfl, Nat.le_of_ble_eq_true rfl, Nat.le_of_ble_eq_true rfl, Nat.le_of_ble_eq_true rfl, Nat.le_of_ble_eq_true rfl, Nat.le_of_ble_eq_true rfl, Nat.le_of_ble_eq_true rfl, Nat.le_of_ble_eq_true rfl, Nat.le_of_ble_eq_true rfl, Nat.le_of_ble_eq_true rfl, Nat.le_of_ble_eq_true rfl, Nat.le_of_ble_eq_true rfl, Nat.le_of_ble_eq_true rfl, Nat.le_of_ble_eq_true rfl, Nat.le_of_ble_eq_true rfl, Nat.le_of_ble_eq_true rfl, Nat.le_of_ble_eq_true rfl, Nat.le_of_ble_eq_true rfl, Nat.le_of_ble_eq_true rfl, Nat.le_of_ble_eq_true rfl, Nat.le_of_ble_eq_true rfl, trivial⟩⟩)
