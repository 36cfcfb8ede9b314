/-! the law's loop, the law from its entry -/
theorem l_gt {t n : Nat} (ht : t ≤ 512) (hn : n ≤ 3072) (h : n < 6 * t + 6) : nI n - 6 < nI (6 * t) := by
  rw [z_lt]
  have e1 : (nI (6 * t)).toInt = 6 * t := by rw [nI_toInt (by omega)]; omega
  have e2 : (nI n - 6).toInt = (n : Int) - 6 := by
    rw [Int32.toInt_sub, nI_toInt (by omega), show (6 : Int32).toInt = 6 by decide]
    exact Int.bmod_eq_of_le (by omega) (by omega)
  rw [e1, e2]
  omega
set_option maxHeartbeats 4000000 in
set_option maxRecDepth 100000 in
/-- the switch -/
theorem l_switch {X : z_X} {b n : Nat} {xs : Nat → Int32} (hP : lx_P X b n xs) {t gX gM : Nat} {w : z_w} (hK : KS t gX gM w) (ht : 6 * t + 6 ≤ n) (kk : lx_K X t) (x : Int32) : z_V X (lb_C t gX gM) (lb_S t gX gM) w 33 (LL t) [vi x] := by
  have h := hP.1
  by_cases s_0 : x = 0
  · refine z_tblIn h dL_law_33 168 (off := 135) (by rw [s_0]; decide) (by rw [s_0]; decide) (by rw [s_0]; rfl) (by decide) ?_
    exact lc_0 hP hK ht kk
  by_cases s_1 : x = 1
  · refine z_tblIn h dL_law_33 211 (off := 178) (by rw [s_1]; decide) (by rw [s_1]; decide) (by rw [s_1]; rfl) (by decide) ?_
    exact lc_1 hP hK ht kk
  by_cases s_2 : x = 2
  · refine z_tblIn h dL_law_33 254 (off := 221) (by rw [s_2]; decide) (by rw [s_2]; decide) (by rw [s_2]; rfl) (by decide) ?_
    exact lc_2 hP hK ht kk
  by_cases s_3 : x = 3
  · refine z_tblIn h dL_law_33 287 (off := 254) (by rw [s_3]; decide) (by rw [s_3]; decide) (by rw [s_3]; rfl) (by decide) ?_
    exact lc_3 hP hK ht kk
  by_cases s_4 : x = 4
  · refine z_tblIn h dL_law_33 320 (off := 287) (by rw [s_4]; decide) (by rw [s_4]; decide) (by rw [s_4]; rfl) (by decide) ?_
    exact lc_4 hP hK ht kk
  by_cases s_5 : x = 5
  · refine z_tblIn h dL_law_33 333 (off := 300) (by rw [s_5]; decide) (by rw [s_5]; decide) (by rw [s_5]; rfl) (by decide) ?_
    exact lc_5 hP hK ht kk
  by_cases s_6 : x = 6
  · refine z_tblIn h dL_law_33 356 (off := 323) (by rw [s_6]; decide) (by rw [s_6]; decide) (by rw [s_6]; rfl) (by decide) ?_
    exact lc_6 hP hK ht kk
  by_cases s_7 : x = 7
  · refine z_tblIn h dL_law_33 379 (off := 346) (by rw [s_7]; decide) (by rw [s_7]; decide) (by rw [s_7]; rfl) (by decide) ?_
    exact lc_7 hP hK ht kk
  by_cases s_8 : x = 8
  · refine z_tblIn h dL_law_33 442 (off := 409) (by rw [s_8]; decide) (by rw [s_8]; decide) (by rw [s_8]; rfl) (by decide) ?_
    exact lc_8 hP hK ht kk
  by_cases s_9 : x = 9
  · refine z_tblIn h dL_law_33 465 (off := 432) (by rw [s_9]; decide) (by rw [s_9]; decide) (by rw [s_9]; rfl) (by decide) ?_
    exact lc_9 hP hK ht kk
  by_cases s_10 : x = 10
  · refine z_tblIn h dL_law_33 478 (off := 445) (by rw [s_10]; decide) (by rw [s_10]; decide) (by rw [s_10]; rfl) (by decide) ?_
    exact lc_10 hP hK ht kk
  by_cases s_11 : x = 11
  · refine z_tblIn h dL_law_33 491 (off := 458) (by rw [s_11]; decide) (by rw [s_11]; decide) (by rw [s_11]; rfl) (by decide) ?_
    exact lc_11 hP hK ht kk
  by_cases s_12 : x = 12
  · refine z_tblIn h dL_law_33 524 (off := 491) (by rw [s_12]; decide) (by rw [s_12]; decide) (by rw [s_12]; rfl) (by decide) ?_
    exact lc_12 hP hK ht kk
  by_cases s_13 : x = 13
  · refine z_tblIn h dL_law_33 547 (off := 514) (by rw [s_13]; decide) (by rw [s_13]; decide) (by rw [s_13]; rfl) (by decide) ?_
    exact lc_13 hP hK ht kk
  by_cases s_14 : x = 14
  · refine z_tblIn h dL_law_33 560 (off := 527) (by rw [s_14]; decide) (by rw [s_14]; decide) (by rw [s_14]; rfl) (by decide) ?_
    exact lc_14 hP hK ht kk
  by_cases s_15 : x = 15
  · refine z_tblIn h dL_law_33 583 (off := 550) (by rw [s_15]; decide) (by rw [s_15]; decide) (by rw [s_15]; rfl) (by decide) ?_
    exact lc_15 hP hK ht kk
  by_cases s_16 : x = 16
  · refine z_tblIn h dL_law_33 616 (off := 583) (by rw [s_16]; decide) (by rw [s_16]; decide) (by rw [s_16]; rfl) (by decide) ?_
    exact lc_16 hP hK ht kk
  by_cases s_17 : x = 17
  · refine z_tblIn h dL_law_33 649 (off := 616) (by rw [s_17]; decide) (by rw [s_17]; decide) (by rw [s_17]; rfl) (by decide) ?_
    exact lc_17 hP hK ht kk
  by_cases s_18 : x = 18
  · refine z_tblIn h dL_law_33 682 (off := 649) (by rw [s_18]; decide) (by rw [s_18]; decide) (by rw [s_18]; rfl) (by decide) ?_
    exact lc_18 hP hK ht kk
  by_cases s_19 : x = 19
  · refine z_tblIn h dL_law_33 715 (off := 682) (by rw [s_19]; decide) (by rw [s_19]; decide) (by rw [s_19]; rfl) (by decide) ?_
    exact lc_19 hP hK ht kk
  by_cases s_20 : x = 20
  · refine z_tblIn h dL_law_33 768 (off := 735) (by rw [s_20]; decide) (by rw [s_20]; decide) (by rw [s_20]; rfl) (by decide) ?_
    exact lc_20 hP hK ht kk
  by_cases s_21 : x = 21
  · refine z_tblIn h dL_law_33 801 (off := 768) (by rw [s_21]; decide) (by rw [s_21]; decide) (by rw [s_21]; rfl) (by decide) ?_
    exact lc_21 hP hK ht kk
  by_cases s_22 : x = 22
  · refine z_tblIn h dL_law_33 824 (off := 791) (by rw [s_22]; decide) (by rw [s_22]; decide) (by rw [s_22]; rfl) (by decide) ?_
    exact lc_22 hP hK ht kk
  by_cases s_23 : x = 23
  · refine z_tblIn h dL_law_33 857 (off := 824) (by rw [s_23]; decide) (by rw [s_23]; decide) (by rw [s_23]; rfl) (by decide) ?_
    exact lc_23 hP hK ht kk
  by_cases s_24 : x = 24
  · refine z_tblIn h dL_law_33 880 (off := 847) (by rw [s_24]; decide) (by rw [s_24]; decide) (by rw [s_24]; rfl) (by decide) ?_
    exact lc_24 hP hK ht kk
  by_cases s_25 : x = 25
  · refine z_tblIn h dL_law_33 913 (off := 880) (by rw [s_25]; decide) (by rw [s_25]; decide) (by rw [s_25]; rfl) (by decide) ?_
    exact lc_25 hP hK ht kk
  by_cases s_26 : x = 26
  · refine z_tblIn h dL_law_33 924 (off := 891) (by rw [s_26]; decide) (by rw [s_26]; decide) (by rw [s_26]; rfl) (by decide) ?_
    exact lc_26 hP hK ht kk
  by_cases s_27 : x = 27
  · refine z_tblIn h dL_law_33 947 (off := 914) (by rw [s_27]; decide) (by rw [s_27]; decide) (by rw [s_27]; rfl) (by decide) ?_
    exact lc_27 hP hK ht kk
  by_cases s_28 : x = 28
  · refine z_tblIn h dL_law_33 960 (off := 927) (by rw [s_28]; decide) (by rw [s_28]; decide) (by rw [s_28]; rfl) (by decide) ?_
    exact lc_28 hP hK ht kk
  by_cases s_29 : x = 29
  · refine z_tblIn h dL_law_33 993 (off := 960) (by rw [s_29]; decide) (by rw [s_29]; decide) (by rw [s_29]; rfl) (by decide) ?_
    exact lc_29 hP hK ht kk
  refine z_tblOut h dL_law_33 1016 (by have a0 := lv_neT s_0 (a := 0) (by decide); have a1 := lv_neT s_1 (a := 1) (by decide); have a2 := lv_neT s_2 (a := 2) (by decide); have a3 := lv_neT s_3 (a := 3) (by decide); have a4 := lv_neT s_4 (a := 4) (by decide); have a5 := lv_neT s_5 (a := 5) (by decide); have a6 := lv_neT s_6 (a := 6) (by decide); have a7 := lv_neT s_7 (a := 7) (by decide); have a8 := lv_neT s_8 (a := 8) (by decide); have a9 := lv_neT s_9 (a := 9) (by decide); have a10 := lv_neT s_10 (a := 10) (by decide); have a11 := lv_neT s_11 (a := 11) (by decide); have a12 := lv_neT s_12 (a := 12) (by decide); have a13 := lv_neT s_13 (a := 13) (by decide); have a14 := lv_neT s_14 (a := 14) (by decide); have a15 := lv_neT s_15 (a := 15) (by decide); have a16 := lv_neT s_16 (a := 16) (by decide); have a17 := lv_neT s_17 (a := 17) (by decide); have a18 := lv_neT s_18 (a := 18) (by decide); have a19 := lv_neT s_19 (a := 19) (by decide); have a20 := lv_neT s_20 (a := 20) (by decide); have a21 := lv_neT s_21 (a := 21) (by decide); have a22 := lv_neT s_22 (a := 22) (by decide); have a23 := lv_neT s_23 (a := 23) (by decide); have a24 := lv_neT s_24 (a := 24) (by decide); have a25 := lv_neT s_25 (a := 25) (by decide); have a26 := lv_neT s_26 (a := 26) (by decide); have a27 := lv_neT s_27 (a := 27) (by decide); have a28 := lv_neT s_28 (a := 28) (by decide); have a29 := lv_neT s_29 (a := 29) (by decide); omega) (by decide) ?_
  have hn := hP.2.2.2.2.1
  exact z_less (by unfold lb_C; omega) (by unfold lb_S; omega) (kk _ _ _ hK.mono)
set_option maxHeartbeats 4000000 in
set_option maxRecDepth 100000 in
theorem l_loop {X : z_X} {b n : Nat} {xs : Nat → Int32} (hP : lx_P X b n xs) : ∀ (m t : Nat), t + m = 512 → ∀ (gX gM : Nat) (w : z_w), KS t gX gM w → z_V X (lb_C t gX gM) (lb_S t gX gM) w 18 (LL t) [] := by
  have h := hP.1
  have hn := hP.2.2.2.2.1
  have hx := hP.2.2.1
  intro m
  induction m with
  | zero =>
    intro t htm gX gM w hK
    refine z_iload_n h dL_law_18 rfl ?_
    refine z_aload_n h dL_law_19 rfl ?_
    refine z_slen hP.2.1 h dL_law_20 ?_
    refine z_bipush (v := 6) h dL_law_21 (by decide) ?_
    refine z_isub h dL_law_23 ?_
    refine z_icmp_gt h dL_law_24 1022 (by decide) (fun c1 => ?_) (fun c1 => ?_)
    · refine z_iconst (v := 1) h dL_law_1022 (by decide) ?_
      exact hP.2.2.2.2.2 _ _ _ _ _ dL_law_1023
    · exact absurd (l_gt (by omega) (by omega) (by omega)) c1
  | succ m ih =>
    intro t htm gX gM w hK
    refine z_iload_n h dL_law_18 rfl ?_
    refine z_aload_n h dL_law_19 rfl ?_
    refine z_slen hP.2.1 h dL_law_20 ?_
    refine z_bipush (v := 6) h dL_law_21 (by decide) ?_
    refine z_isub h dL_law_23 ?_
    refine z_icmp_gt h dL_law_24 1022 (by decide) (fun c1 => ?_) (fun c1 => ?_)
    · refine z_iconst (v := 1) h dL_law_1022 (by decide) ?_
      exact hP.2.2.2.2.2 _ _ _ _ _ dL_law_1023
    · have hle : 6 * t + 6 ≤ n := by
        rcases Nat.lt_or_ge n (6 * t + 6) with q | q
        · exact absurd (l_gt (by omega) (by omega) q) c1
        · exact q
      refine z_aload_n h dL_law_27 rfl ?_
      refine z_iload_n h dL_law_28 rfl ?_
      refine z_sld hP.2.1 h dL_law_29 (nI_in (by omega) (by omega)) ?_
      refine z_bipush (v := 31) h dL_law_30 (by decide) ?_
      refine z_iand h dL_law_32 ?_
      refine l_switch hP hK hle (fun gX' gM' w' hK' => ?_) _
      refine z_iinc (v := 6) h dL_law_1016 rfl (by decide) (by rw [hx]; decide) ?_
      refine z_goto h dL_law_1019 18 (by decide) ?_
      rw [show nI (6 * t) + 6 = nI (6 * (t + 1)) from nI_add (6 * t) 6]
      refine z_loc (LL (t + 1)) ⟨rfl, rfl, rfl, rfl, trivial⟩ ?_
      exact ih (t + 1) (by omega) gX' gM' w' hK'
