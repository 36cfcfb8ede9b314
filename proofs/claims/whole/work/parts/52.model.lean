/-! the reference: a minute, blowing -/
/-- the reference's furnace, as numbers -/
def MF (ra bl ch : Nat → Nat) (u : Nat → Int32) (c : r_c) : Prop := (∀ i, i < 12 → c (119, 0) i = nI (ra i)) ∧ (∀ i, i < 12 → c (121, 0) i = nI (bl i)) ∧ (∀ i, i < 8 → c (120, 0) i = nI (ch i)) ∧ ∀ k, 5 ≤ k → k ≤ 13 → c (100, 0) (k + 17) = u k
set_option maxHeartbeats 4000000 in
set_option maxRecDepth 100000 in
theorem m_X12_minute (G : z_G) {g : Nat} {w0 w : z_w} {c : r_c} {l : r_l} {r : r_r} (hR : r_p dM (TM g) w0 c l r w) (ra bl ch : Nat → Nat) (u : Nat → Int32) (nc : Nat) (hF : MF ra bl ch u c) (hgap : ¬ u 13 ≤ 0) (hra : p_sm ra 12 < 2 ^ 30) (hc34 : c (100, 0) 34 = nI nc) (h60 : nc ≤ 60) (a_ b_ h_ : Int32) (k_ : Nat) (hA : a_ = f_air nc (c (136, 0)) (c (137, 0)) (c (138, 0)) (c (139, 0)) ra ch u) (hB : b_ = f_bn a_ (u 12) (f_cl u ch)) (hH : h_ = f_h (u 6) b_) (hK : k_ = f_k b_ h_ ra) : z_M G yX12_minute cX12_minute 3 none 3 (0) (0) [vr (100, 0)] w (fun q w1 => q = none ∧ ∃ c1 l1, r_p dM (TM g) w0 (c1) (l1) (r) w1 ∧ MF (f_ra k_ ra) (f_bl k_ ra bl) ch (f_u a_ b_ h_ u) c1 ∧ (∀ k, k < 22 ∨ 28 < k → c1 (100, 0) k = c (100, 0) k) ∧ (∀ t, t ≠ (100, 0) → t ≠ (117, 0) → t ≠ (118, 0) → t ≠ (119, 0) → t ≠ (121, 0) → c1 t = c t)) := by
  refine z_met ym_X12_minute (by decide) ⟨Nat.le_of_ble_eq_true rfl, Nat.le_of_ble_eq_true rfl⟩ (fun X hG hn hmc hms hin h hr => ?_)
  have he := hr.2.2.2.2.2.1
  obtain ⟨h19, h21, h20, hu⟩ := hF
  have join_20 : ∀ (w : z_w), r_p dM (TM g) w0 (r_cs c (100, 0) 25 (f_seen u)) (l) (r) w → z_V X 0 0 w 20 [(0, vr (100, 0))] [] := by
    intro w hR
    have join_57 : ∀ (w : z_w), r_p dM (TM g) w0 (r_cs (r_cs c (100, 0) 25 (f_seen u)) (100, 0) 26 a_) (l) (r) w → z_V X 0 0 w 57 [(0, vr (100, 0))] [] := by
      intro w hR
      refine z_aload_n h dX12_minute_57 rfl ?_
      refine y_geti h dX12_minute_58 hR flX12_221 (by first | assumption | exact Nat.le_of_ble_eq_true rfl) (by first | rfl | assumption | exact tx_2 (by first | assumption | omega) | exact tx_18 (by first | assumption | omega) | exact tx_19 (by first | assumption | omega) | exact tx_20 (by first | assumption | omega) | exact tx_27 (by first | assumption | omega) | exact tx_28 (by first | assumption | omega) | exact tx_30 (by first | assumption | omega) | exact tx_31 (by first | assumption | omega) | exact tx_32 (by first | assumption | omega) | exact tx_33 (by first | assumption | omega)) (by rfl) ?_
      refine z_aload_n h dX12_minute_61 rfl ?_
      refine y_geti h dX12_minute_62 hR flX12_58 (by first | assumption | exact Nat.le_of_ble_eq_true rfl) (by first | rfl | assumption | exact tx_2 (by first | assumption | omega) | exact tx_18 (by first | assumption | omega) | exact tx_19 (by first | assumption | omega) | exact tx_20 (by first | assumption | omega) | exact tx_27 (by first | assumption | omega) | exact tx_28 (by first | assumption | omega) | exact tx_30 (by first | assumption | omega) | exact tx_31 (by first | assumption | omega) | exact tx_32 (by first | assumption | omega) | exact tx_33 (by first | assumption | omega)) (by rfl) ?_
      refine z_min h dX12_minute_65 mlX12_188 sm_Mmin ic_Math co_Mmin (Nat.le_of_ble_eq_true rfl) ?_
      refine z_aload_n h dX12_minute_68 rfl ?_
      refine y_getr h dX12_minute_69 hR flX12_48 (by first | assumption | exact Nat.le_of_ble_eq_true rfl) (by first | rfl | assumption | exact tx_2 (by first | assumption | omega) | exact tx_18 (by first | assumption | omega) | exact tx_19 (by first | assumption | omega) | exact tx_20 (by first | assumption | omega) | exact tx_27 (by first | assumption | omega) | exact tx_28 (by first | assumption | omega) | exact tx_30 (by first | assumption | omega) | exact tx_31 (by first | assumption | omega) | exact tx_32 (by first | assumption | omega) | exact tx_33 (by first | assumption | omega)) (by rfl) ?_
      refine z_callS h dX12_minute_72 (fun _ _ q => z_okv_no he q) (fun _ _ _ t q => absurd q (he t)) (m_X12_sum _ _ (120, 0) 8 (c (120, 0)) (hR.ia (Nat.le_of_ble_eq_true rfl) rfl) (by decide)) ym_X12_sum mlX12_195 sm_X12_sum rfl (by decide) (Nat.le_of_ble_eq_true rfl) ?_
      rintro q1 w1 ⟨rfl, hw1⟩
      have hw1 := hw1.symm; subst hw1
      refine z_aload_n h dX12_minute_75 rfl ?_
      refine y_geti h dX12_minute_76 hR flX12_199 (by first | assumption | exact Nat.le_of_ble_eq_true rfl) (by first | rfl | assumption | exact tx_2 (by first | assumption | omega) | exact tx_18 (by first | assumption | omega) | exact tx_19 (by first | assumption | omega) | exact tx_20 (by first | assumption | omega) | exact tx_27 (by first | assumption | omega) | exact tx_28 (by first | assumption | omega) | exact tx_30 (by first | assumption | omega) | exact tx_31 (by first | assumption | omega) | exact tx_32 (by first | assumption | omega) | exact tx_33 (by first | assumption | omega)) (by rfl) ?_
      refine z_isub h dX12_minute_79 ?_
      refine z_min h dX12_minute_80 mlX12_188 sm_Mmin ic_Math co_Mmin (Nat.le_of_ble_eq_true rfl) ?_
      refine z_toe (y := b_) (by
        show (if z_sum (c (120, 0)) 8 - c (100, 0) 22 < (if c (100, 0) 29 < a_ then c (100, 0) 29 else a_) then z_sum (c (120, 0)) 8 - c (100, 0) 22 else if c (100, 0) 29 < a_ then c (100, 0) 29 else a_) = _
        rw [hu 12 (by omega) (by omega), hu 5 (by omega) (by omega), z_sum_nI h20, hB]
        rfl) ?_
      refine z_istore_n h dX12_minute_83 (by rw [hn]; decide) ?_
      refine z_aload_n h dX12_minute_84 rfl ?_
      refine z_dup_r h dX12_minute_85 ?_
      refine y_geti h dX12_minute_86 hR flX12_199 (by first | assumption | exact Nat.le_of_ble_eq_true rfl) (by first | rfl | assumption | exact tx_2 (by first | assumption | omega) | exact tx_18 (by first | assumption | omega) | exact tx_19 (by first | assumption | omega) | exact tx_20 (by first | assumption | omega) | exact tx_27 (by first | assumption | omega) | exact tx_28 (by first | assumption | omega) | exact tx_30 (by first | assumption | omega) | exact tx_31 (by first | assumption | omega) | exact tx_32 (by first | assumption | omega) | exact tx_33 (by first | assumption | omega)) (by rfl) ?_
      refine z_iload_n h dX12_minute_89 rfl ?_
      refine z_iadd h dX12_minute_90 ?_
      refine z_toe (y := u 5 + b_) (by show c (100, 0) 22 + _ = _; rw [hu 5 (by omega) (by omega)]) ?_
      refine y_put h dX12_minute_91 he hR flX12_199 rfl (by first | assumption | exact Nat.le_of_ble_eq_true rfl) (by first | rfl | assumption | exact tx_2 (by first | assumption | omega) | exact tx_18 (by first | assumption | omega) | exact tx_19 (by first | assumption | omega) | exact tx_20 (by first | assumption | omega) | exact tx_27 (by first | assumption | omega) | exact tx_28 (by first | assumption | omega) | exact tx_30 (by first | assumption | omega) | exact tx_31 (by first | assumption | omega) | exact tx_32 (by first | assumption | omega) | exact tx_33 (by first | assumption | omega)) (by rfl) (fun w hR => ?_)
      refine z_aload_n h dX12_minute_94 rfl ?_
      refine z_dup_r h dX12_minute_95 ?_
      refine y_geti h dX12_minute_96 hR flX12_209 (by first | assumption | exact Nat.le_of_ble_eq_true rfl) (by first | rfl | assumption | exact tx_2 (by first | assumption | omega) | exact tx_18 (by first | assumption | omega) | exact tx_19 (by first | assumption | omega) | exact tx_20 (by first | assumption | omega) | exact tx_27 (by first | assumption | omega) | exact tx_28 (by first | assumption | omega) | exact tx_30 (by first | assumption | omega) | exact tx_31 (by first | assumption | omega) | exact tx_32 (by first | assumption | omega) | exact tx_33 (by first | assumption | omega)) (by rfl) ?_
      refine z_bipush (v := 12) h dX12_minute_99 (by decide) ?_
      refine z_iload_n h dX12_minute_101 rfl ?_
      refine z_imul h dX12_minute_102 ?_
      refine z_iadd h dX12_minute_103 ?_
      refine z_toe (y := u 6 + 12 * b_) (by show c (100, 0) 23 + 12 * _ = _; rw [hu 6 (by omega) (by omega)]) ?_
      refine y_put h dX12_minute_104 he hR flX12_209 rfl (by first | assumption | exact Nat.le_of_ble_eq_true rfl) (by first | rfl | assumption | exact tx_2 (by first | assumption | omega) | exact tx_18 (by first | assumption | omega) | exact tx_19 (by first | assumption | omega) | exact tx_20 (by first | assumption | omega) | exact tx_27 (by first | assumption | omega) | exact tx_28 (by first | assumption | omega) | exact tx_30 (by first | assumption | omega) | exact tx_31 (by first | assumption | omega) | exact tx_32 (by first | assumption | omega) | exact tx_33 (by first | assumption | omega)) (by rfl) (fun w hR => ?_)
      refine z_aload_n h dX12_minute_107 rfl ?_
      refine z_iconst (v := 0) h dX12_minute_108 (by decide) ?_
      refine z_aload_n h dX12_minute_109 rfl ?_
      refine y_geti h dX12_minute_110 hR flX12_209 (by first | assumption | exact Nat.le_of_ble_eq_true rfl) (by first | rfl | assumption | exact tx_2 (by first | assumption | omega) | exact tx_18 (by first | assumption | omega) | exact tx_19 (by first | assumption | omega) | exact tx_20 (by first | assumption | omega) | exact tx_27 (by first | assumption | omega) | exact tx_28 (by first | assumption | omega) | exact tx_30 (by first | assumption | omega) | exact tx_31 (by first | assumption | omega) | exact tx_32 (by first | assumption | omega) | exact tx_33 (by first | assumption | omega)) (by rfl) ?_
      refine z_aload_n h dX12_minute_113 rfl ?_
      refine y_geti h dX12_minute_114 hR flX12_209 (by first | assumption | exact Nat.le_of_ble_eq_true rfl) (by first | rfl | assumption | exact tx_2 (by first | assumption | omega) | exact tx_18 (by first | assumption | omega) | exact tx_19 (by first | assumption | omega) | exact tx_20 (by first | assumption | omega) | exact tx_27 (by first | assumption | omega) | exact tx_28 (by first | assumption | omega) | exact tx_30 (by first | assumption | omega) | exact tx_31 (by first | assumption | omega) | exact tx_32 (by first | assumption | omega) | exact tx_33 (by first | assumption | omega)) (by rfl) ?_
      refine z_bipush (v := 40) h dX12_minute_117 (by decide) ?_
      refine z_idiv h dX12_minute_119 (by first | assumption | decide) ?_
      refine z_isub h dX12_minute_120 ?_
      refine z_iconst (v := 2) h dX12_minute_121 (by decide) ?_
      refine z_isub h dX12_minute_122 ?_
      refine z_max h dX12_minute_123 mlX12_182 sm_Mmax ic_Math co_Mmax (Nat.le_of_ble_eq_true rfl) ?_
      refine z_toe (y := h_) (by rw [hH]; rfl) ?_
      refine y_put h dX12_minute_126 he hR flX12_209 rfl (by first | assumption | exact Nat.le_of_ble_eq_true rfl) (by first | rfl | assumption | exact tx_2 (by first | assumption | omega) | exact tx_18 (by first | assumption | omega) | exact tx_19 (by first | assumption | omega) | exact tx_20 (by first | assumption | omega) | exact tx_27 (by first | assumption | omega) | exact tx_28 (by first | assumption | omega) | exact tx_30 (by first | assumption | omega) | exact tx_31 (by first | assumption | omega) | exact tx_32 (by first | assumption | omega) | exact tx_33 (by first | assumption | omega)) (by rfl) (fun w hR => ?_)
      have join_216 : ∀ (w : z_w) (c1 : r_c) (l1 : r_l), r_p dM (TM g) w0 (c1) (l1) (r) w → (∀ i, i < 12 → c1 (119, 0) i = nI (f_ra k_ ra i)) → (∀ i, i < 12 → c1 (121, 0) i = nI (f_bl k_ ra bl i)) → (∀ i, i < 8 → c1 (120, 0) i = nI (ch i)) → c1 (100, 0) = (upd (upd (upd (upd (c (100, 0)) 25 (f_seen u)) 26 a_) 22 (u 5 + b_)) 23 h_) → (∀ t, t ≠ (100, 0) → t ≠ (117, 0) → t ≠ (118, 0) → t ≠ (119, 0) → t ≠ (121, 0) → c1 t = c t) → z_V X 0 0 w 216 [(0, vr (100, 0)), (1, vi b_)] [] := by
        intro w c1 l1 hR g19 g21 g20 g100 gf
        have hu7 : c (100, 0) 24 = u 7 := (hu 7 (by omega) (by omega))
        have hu10 : c (100, 0) 27 = u 10 := (hu 10 (by omega) (by omega))
        have hu11 : c (100, 0) 28 = u 11 := (hu 11 (by omega) (by omega))
        have hu12 : c (100, 0) 29 = u 12 := (hu 12 (by omega) (by omega))
        have hu13 : c (100, 0) 30 = u 13 := (hu 13 (by omega) (by omega))
        refine z_aload_n h dX12_minute_216 rfl ?_
        refine y_geti h dX12_minute_217 hR flX12_209 (by first | assumption | exact Nat.le_of_ble_eq_true rfl) (by first | rfl | assumption | exact tx_2 (by first | assumption | omega) | exact tx_18 (by first | assumption | omega) | exact tx_19 (by first | assumption | omega) | exact tx_20 (by first | assumption | omega) | exact tx_27 (by first | assumption | omega) | exact tx_28 (by first | assumption | omega) | exact tx_30 (by first | assumption | omega) | exact tx_31 (by first | assumption | omega) | exact tx_32 (by first | assumption | omega) | exact tx_33 (by first | assumption | omega)) (by rfl) ?_
        refine z_toe (y := h_) (by rw [g100]; rfl) ?_
        refine z_sipush (v := 1300) h dX12_minute_220 (by decide) ?_
        refine z_icmp_le h dX12_minute_223 258 (by decide) (fun c_9 => ?_) (fun c_9 => ?_)
        · skip
          have hsc : ¬ 1300 < h_ := Int32.not_lt.mpr c_9
          refine z_aload_n h dX12_minute_258 rfl ?_
          refine z_dup_r h dX12_minute_259 ?_
          refine y_geti h dX12_minute_260 hR flX12_206 (by first | assumption | exact Nat.le_of_ble_eq_true rfl) (by first | rfl | assumption | exact tx_2 (by first | assumption | omega) | exact tx_18 (by first | assumption | omega) | exact tx_19 (by first | assumption | omega) | exact tx_20 (by first | assumption | omega) | exact tx_27 (by first | assumption | omega) | exact tx_28 (by first | assumption | omega) | exact tx_30 (by first | assumption | omega) | exact tx_31 (by first | assumption | omega) | exact tx_32 (by first | assumption | omega) | exact tx_33 (by first | assumption | omega)) (by rfl) ?_
          refine z_iconst (v := 1) h dX12_minute_263 (by decide) ?_
          refine z_iadd h dX12_minute_264 ?_
          refine y_put h dX12_minute_265 he hR flX12_206 rfl (by first | assumption | exact Nat.le_of_ble_eq_true rfl) (by first | rfl | assumption | exact tx_2 (by first | assumption | omega) | exact tx_18 (by first | assumption | omega) | exact tx_19 (by first | assumption | omega) | exact tx_20 (by first | assumption | omega) | exact tx_27 (by first | assumption | omega) | exact tx_28 (by first | assumption | omega) | exact tx_30 (by first | assumption | omega) | exact tx_31 (by first | assumption | omega) | exact tx_32 (by first | assumption | omega) | exact tx_33 (by first | assumption | omega)) (by rfl) (fun w hR => ?_)
          exact z_vret h dX12_minute_268 hr (⟨rfl, _, _, hR, ⟨g19, g21, g20, fun k hk1 hk2 => by
            rcases (show k = 5 ∨ k = 6 ∨ k = 7 ∨ k = 8 ∨ k = 9 ∨ k = 10 ∨ k = 11 ∨ k = 12 ∨ k = 13 by omega) with rfl | rfl | rfl | rfl | rfl | rfl | rfl | rfl | rfl
            · show c1 (100, 0) 22 = _; rw [g100]; rfl
            · show c1 (100, 0) 23 = _; rw [g100]; rfl
            · show c1 (100, 0) 24 + 1 = _; rw [g100]; show c (100, 0) 24 + 1 = u 7 + 1; rw [hu7]
            · show c1 (100, 0) 25 = _; rw [g100]; rfl
            · show c1 (100, 0) 26 = _; rw [g100]; rfl
            · show c1 (100, 0) 27 = (if 1300 < h_ then u 10 + 1 else u 10); rw [g100, if_neg hsc]; exact hu10
            · show c1 (100, 0) 28 = (if 1300 < h_ ∧ u 10 = 0 then u 7 else u 11); rw [g100, if_neg (fun q => hsc q.1)]; exact hu11
            · show c1 (100, 0) 29 = _; rw [g100]; exact hu12
            · show c1 (100, 0) 30 = _; rw [g100]; exact hu13⟩, fun k hk => by
            simp only [r_cs, r_cf_self]
            rw [pk_un (show k ≠ 24 by omega), g100, pk_un (show k ≠ 23 by omega), pk_un (show k ≠ 22 by omega), pk_un (show k ≠ 26 by omega), pk_un (show k ≠ 25 by omega)], fun t h1 h2 h3 h4 h5 => by
            rw [← gf t h1 h2 h3 h4 h5]; simp only [r_cs, r_cf_ne h1]⟩)
        · skip
          have hsc : 1300 < h_ := Int32.not_le.mp c_9
          refine z_aload_n h dX12_minute_226 rfl ?_
          refine z_aload_n h dX12_minute_227 rfl ?_
          refine y_geti h dX12_minute_228 hR flX12_224 (by first | assumption | exact Nat.le_of_ble_eq_true rfl) (by first | rfl | assumption | exact tx_2 (by first | assumption | omega) | exact tx_18 (by first | assumption | omega) | exact tx_19 (by first | assumption | omega) | exact tx_20 (by first | assumption | omega) | exact tx_27 (by first | assumption | omega) | exact tx_28 (by first | assumption | omega) | exact tx_30 (by first | assumption | omega) | exact tx_31 (by first | assumption | omega) | exact tx_32 (by first | assumption | omega) | exact tx_33 (by first | assumption | omega)) (by rfl) ?_
          refine z_if_ne h dX12_minute_231 241 (by decide) (fun c_10 => ?_) (fun c_10 => ?_)
          · skip
            have c27 : ¬ c (100, 0) 27 = 0 := by rw [g100] at c_10; exact c_10
            refine z_aload_n h dX12_minute_241 rfl ?_
            refine y_geti h dX12_minute_242 hR flX12_54 (by first | assumption | exact Nat.le_of_ble_eq_true rfl) (by first | rfl | assumption | exact tx_2 (by first | assumption | omega) | exact tx_18 (by first | assumption | omega) | exact tx_19 (by first | assumption | omega) | exact tx_20 (by first | assumption | omega) | exact tx_27 (by first | assumption | omega) | exact tx_28 (by first | assumption | omega) | exact tx_30 (by first | assumption | omega) | exact tx_31 (by first | assumption | omega) | exact tx_32 (by first | assumption | omega) | exact tx_33 (by first | assumption | omega)) (by rfl) ?_
            refine y_put h dX12_minute_245 he hR flX12_54 rfl (by first | assumption | exact Nat.le_of_ble_eq_true rfl) (by first | rfl | assumption | exact tx_2 (by first | assumption | omega) | exact tx_18 (by first | assumption | omega) | exact tx_19 (by first | assumption | omega) | exact tx_20 (by first | assumption | omega) | exact tx_27 (by first | assumption | omega) | exact tx_28 (by first | assumption | omega) | exact tx_30 (by first | assumption | omega) | exact tx_31 (by first | assumption | omega) | exact tx_32 (by first | assumption | omega) | exact tx_33 (by first | assumption | omega)) (by rfl) (fun w hR => ?_)
            refine z_aload_n h dX12_minute_248 rfl ?_
            refine z_dup_r h dX12_minute_249 ?_
            refine y_geti h dX12_minute_250 hR flX12_224 (by first | assumption | exact Nat.le_of_ble_eq_true rfl) (by first | rfl | assumption | exact tx_2 (by first | assumption | omega) | exact tx_18 (by first | assumption | omega) | exact tx_19 (by first | assumption | omega) | exact tx_20 (by first | assumption | omega) | exact tx_27 (by first | assumption | omega) | exact tx_28 (by first | assumption | omega) | exact tx_30 (by first | assumption | omega) | exact tx_31 (by first | assumption | omega) | exact tx_32 (by first | assumption | omega) | exact tx_33 (by first | assumption | omega)) (by rfl) ?_
            refine z_iconst (v := 1) h dX12_minute_253 (by decide) ?_
            refine z_iadd h dX12_minute_254 ?_
            refine y_put h dX12_minute_255 he hR flX12_224 rfl (by first | assumption | exact Nat.le_of_ble_eq_true rfl) (by first | rfl | assumption | exact tx_2 (by first | assumption | omega) | exact tx_18 (by first | assumption | omega) | exact tx_19 (by first | assumption | omega) | exact tx_20 (by first | assumption | omega) | exact tx_27 (by first | assumption | omega) | exact tx_28 (by first | assumption | omega) | exact tx_30 (by first | assumption | omega) | exact tx_31 (by first | assumption | omega) | exact tx_32 (by first | assumption | omega) | exact tx_33 (by first | assumption | omega)) (by rfl) (fun w hR => ?_)
            refine z_aload_n h dX12_minute_258 rfl ?_
            refine z_dup_r h dX12_minute_259 ?_
            refine y_geti h dX12_minute_260 hR flX12_206 (by first | assumption | exact Nat.le_of_ble_eq_true rfl) (by first | rfl | assumption | exact tx_2 (by first | assumption | omega) | exact tx_18 (by first | assumption | omega) | exact tx_19 (by first | assumption | omega) | exact tx_20 (by first | assumption | omega) | exact tx_27 (by first | assumption | omega) | exact tx_28 (by first | assumption | omega) | exact tx_30 (by first | assumption | omega) | exact tx_31 (by first | assumption | omega) | exact tx_32 (by first | assumption | omega) | exact tx_33 (by first | assumption | omega)) (by rfl) ?_
            refine z_iconst (v := 1) h dX12_minute_263 (by decide) ?_
            refine z_iadd h dX12_minute_264 ?_
            refine y_put h dX12_minute_265 he hR flX12_206 rfl (by first | assumption | exact Nat.le_of_ble_eq_true rfl) (by first | rfl | assumption | exact tx_2 (by first | assumption | omega) | exact tx_18 (by first | assumption | omega) | exact tx_19 (by first | assumption | omega) | exact tx_20 (by first | assumption | omega) | exact tx_27 (by first | assumption | omega) | exact tx_28 (by first | assumption | omega) | exact tx_30 (by first | assumption | omega) | exact tx_31 (by first | assumption | omega) | exact tx_32 (by first | assumption | omega) | exact tx_33 (by first | assumption | omega)) (by rfl) (fun w hR => ?_)
            exact z_vret h dX12_minute_268 hr (⟨rfl, _, _, hR, ⟨g19, g21, g20, fun k hk1 hk2 => by
            rcases (show k = 5 ∨ k = 6 ∨ k = 7 ∨ k = 8 ∨ k = 9 ∨ k = 10 ∨ k = 11 ∨ k = 12 ∨ k = 13 by omega) with rfl | rfl | rfl | rfl | rfl | rfl | rfl | rfl | rfl
            · show c1 (100, 0) 22 = _; rw [g100]; rfl
            · show c1 (100, 0) 23 = _; rw [g100]; rfl
            · show c1 (100, 0) 24 + 1 = _; rw [g100]; show c (100, 0) 24 + 1 = u 7 + 1; rw [hu7]
            · show c1 (100, 0) 25 = _; rw [g100]; rfl
            · show c1 (100, 0) 26 = _; rw [g100]; rfl
            · show c1 (100, 0) 27 + 1 = (if 1300 < h_ then u 10 + 1 else u 10); rw [g100, if_pos hsc]; show c (100, 0) 27 + 1 = u 10 + 1; rw [hu10]
            · show c1 (100, 0) 28 = (if 1300 < h_ ∧ u 10 = 0 then u 7 else u 11); rw [g100]; rw [if_neg (fun q => c27 (by rw [hu10]; exact q.2))]; exact hu11
            · show c1 (100, 0) 29 = _; rw [g100]; exact hu12
            · show c1 (100, 0) 30 = _; rw [g100]; exact hu13⟩, fun k hk => by
            simp only [r_cs, r_cf_self]
            rw [pk_un (show k ≠ 24 by omega), pk_un (show k ≠ 27 by omega), pk_un (show k ≠ 28 by omega), g100, pk_un (show k ≠ 23 by omega), pk_un (show k ≠ 22 by omega), pk_un (show k ≠ 26 by omega), pk_un (show k ≠ 25 by omega)], fun t h1 h2 h3 h4 h5 => by
            rw [← gf t h1 h2 h3 h4 h5]; simp only [r_cs, r_cf_ne h1]⟩)
          · skip
            have c27 : c (100, 0) 27 = 0 := by rw [g100] at c_10; exact c_10
            refine z_aload_n h dX12_minute_234 rfl ?_
            refine y_geti h dX12_minute_235 hR flX12_206 (by first | assumption | exact Nat.le_of_ble_eq_true rfl) (by first | rfl | assumption | exact tx_2 (by first | assumption | omega) | exact tx_18 (by first | assumption | omega) | exact tx_19 (by first | assumption | omega) | exact tx_20 (by first | assumption | omega) | exact tx_27 (by first | assumption | omega) | exact tx_28 (by first | assumption | omega) | exact tx_30 (by first | assumption | omega) | exact tx_31 (by first | assumption | omega) | exact tx_32 (by first | assumption | omega) | exact tx_33 (by first | assumption | omega)) (by rfl) ?_
            refine z_goto h dX12_minute_238 245 (by decide) ?_
            refine y_put h dX12_minute_245 he hR flX12_54 rfl (by first | assumption | exact Nat.le_of_ble_eq_true rfl) (by first | rfl | assumption | exact tx_2 (by first | assumption | omega) | exact tx_18 (by first | assumption | omega) | exact tx_19 (by first | assumption | omega) | exact tx_20 (by first | assumption | omega) | exact tx_27 (by first | assumption | omega) | exact tx_28 (by first | assumption | omega) | exact tx_30 (by first | assumption | omega) | exact tx_31 (by first | assumption | omega) | exact tx_32 (by first | assumption | omega) | exact tx_33 (by first | assumption | omega)) (by rfl) (fun w hR => ?_)
            refine z_aload_n h dX12_minute_248 rfl ?_
            refine z_dup_r h dX12_minute_249 ?_
            refine y_geti h dX12_minute_250 hR flX12_224 (by first | assumption | exact Nat.le_of_ble_eq_true rfl) (by first | rfl | assumption | exact tx_2 (by first | assumption | omega) | exact tx_18 (by first | assumption | omega) | exact tx_19 (by first | assumption | omega) | exact tx_20 (by first | assumption | omega) | exact tx_27 (by first | assumption | omega) | exact tx_28 (by first | assumption | omega) | exact tx_30 (by first | assumption | omega) | exact tx_31 (by first | assumption | omega) | exact tx_32 (by first | assumption | omega) | exact tx_33 (by first | assumption | omega)) (by rfl) ?_
            refine z_iconst (v := 1) h dX12_minute_253 (by decide) ?_
            refine z_iadd h dX12_minute_254 ?_
            refine y_put h dX12_minute_255 he hR flX12_224 rfl (by first | assumption | exact Nat.le_of_ble_eq_true rfl) (by first | rfl | assumption | exact tx_2 (by first | assumption | omega) | exact tx_18 (by first | assumption | omega) | exact tx_19 (by first | assumption | omega) | exact tx_20 (by first | assumption | omega) | exact tx_27 (by first | assumption | omega) | exact tx_28 (by first | assumption | omega) | exact tx_30 (by first | assumption | omega) | exact tx_31 (by first | assumption | omega) | exact tx_32 (by first | assumption | omega) | exact tx_33 (by first | assumption | omega)) (by rfl) (fun w hR => ?_)
            refine z_aload_n h dX12_minute_258 rfl ?_
            refine z_dup_r h dX12_minute_259 ?_
            refine y_geti h dX12_minute_260 hR flX12_206 (by first | assumption | exact Nat.le_of_ble_eq_true rfl) (by first | rfl | assumption | exact tx_2 (by first | assumption | omega) | exact tx_18 (by first | assumption | omega) | exact tx_19 (by first | assumption | omega) | exact tx_20 (by first | assumption | omega) | exact tx_27 (by first | assumption | omega) | exact tx_28 (by first | assumption | omega) | exact tx_30 (by first | assumption | omega) | exact tx_31 (by first | assumption | omega) | exact tx_32 (by first | assumption | omega) | exact tx_33 (by first | assumption | omega)) (by rfl) ?_
            refine z_iconst (v := 1) h dX12_minute_263 (by decide) ?_
            refine z_iadd h dX12_minute_264 ?_
            refine y_put h dX12_minute_265 he hR flX12_206 rfl (by first | assumption | exact Nat.le_of_ble_eq_true rfl) (by first | rfl | assumption | exact tx_2 (by first | assumption | omega) | exact tx_18 (by first | assumption | omega) | exact tx_19 (by first | assumption | omega) | exact tx_20 (by first | assumption | omega) | exact tx_27 (by first | assumption | omega) | exact tx_28 (by first | assumption | omega) | exact tx_30 (by first | assumption | omega) | exact tx_31 (by first | assumption | omega) | exact tx_32 (by first | assumption | omega) | exact tx_33 (by first | assumption | omega)) (by rfl) (fun w hR => ?_)
            exact z_vret h dX12_minute_268 hr (⟨rfl, _, _, hR, ⟨g19, g21, g20, fun k hk1 hk2 => by
            rcases (show k = 5 ∨ k = 6 ∨ k = 7 ∨ k = 8 ∨ k = 9 ∨ k = 10 ∨ k = 11 ∨ k = 12 ∨ k = 13 by omega) with rfl | rfl | rfl | rfl | rfl | rfl | rfl | rfl | rfl
            · show c1 (100, 0) 22 = _; rw [g100]; rfl
            · show c1 (100, 0) 23 = _; rw [g100]; rfl
            · show c1 (100, 0) 24 + 1 = _; rw [g100]; show c (100, 0) 24 + 1 = u 7 + 1; rw [hu7]
            · show c1 (100, 0) 25 = _; rw [g100]; rfl
            · show c1 (100, 0) 26 = _; rw [g100]; rfl
            · show c1 (100, 0) 27 + 1 = (if 1300 < h_ then u 10 + 1 else u 10); rw [g100, if_pos hsc]; show c (100, 0) 27 + 1 = u 10 + 1; rw [hu10]
            · show c1 (100, 0) 24 = (if 1300 < h_ ∧ u 10 = 0 then u 7 else u 11); rw [g100]; rw [if_pos ⟨hsc, by rw [← hu10]; exact c27⟩]; exact hu7
            · show c1 (100, 0) 29 = _; rw [g100]; exact hu12
            · show c1 (100, 0) 30 = _; rw [g100]; exact hu13⟩, fun k hk => by
            simp only [r_cs, r_cf_self]
            rw [pk_un (show k ≠ 24 by omega), pk_un (show k ≠ 27 by omega), pk_un (show k ≠ 28 by omega), g100, pk_un (show k ≠ 23 by omega), pk_un (show k ≠ 22 by omega), pk_un (show k ≠ 26 by omega), pk_un (show k ≠ 25 by omega)], fun t h1 h2 h3 h4 h5 => by
            rw [← gf t h1 h2 h3 h4 h5]; simp only [r_cs, r_cf_ne h1]⟩)
      refine z_aload_n h dX12_minute_129 rfl ?_
      refine y_geti h dX12_minute_130 hR flX12_209 (by first | assumption | exact Nat.le_of_ble_eq_true rfl) (by first | rfl | assumption | exact tx_2 (by first | assumption | omega) | exact tx_18 (by first | assumption | omega) | exact tx_19 (by first | assumption | omega) | exact tx_20 (by first | assumption | omega) | exact tx_27 (by first | assumption | omega) | exact tx_28 (by first | assumption | omega) | exact tx_30 (by first | assumption | omega) | exact tx_31 (by first | assumption | omega) | exact tx_32 (by first | assumption | omega) | exact tx_33 (by first | assumption | omega)) (by rfl) ?_
      have hoo : ∀ x : Int32, (r_cs (r_cs (r_cs (r_cs (r_cs c (100, 0) 25 (f_seen u)) (100, 0) 26 a_) (100, 0) 22 (u 5 + b_)) (100, 0) 23 x) (100, 0) 23 h_) (100, 0) = (upd (upd (upd (upd (c (100, 0)) 25 (f_seen u)) 26 a_) 22 (u 5 + b_)) 23 h_) := fun x => by simp only [r_cs, r_cf_self, upd_upd]
      refine z_toe (y := h_) rfl ?_
      refine z_sipush (v := 1000) h dX12_minute_133 (by decide) ?_
      refine z_icmp_lt h dX12_minute_136 216 (by decide) (fun c_5 => ?_) (fun c_5 => ?_)
      · skip
        have hk0 : k_ = 0 := hK.trans (if_neg (fun q => absurd q.2.1 (by simp only [z_lt, z_le, z_ie] at *; omega)))
        refine z_loc [(0, vr (100, 0)), (1, vi b_)] ⟨rfl, rfl, trivial⟩ ?_
        exact join_216 _ _ _ hR (by rw [hk0, f_ra_0]; exact h19) (by rw [hk0, f_bl_0]; exact h21) h20 (hoo _) (fun t h1 _ _ _ _ => by simp only [r_cs, r_cf_ne h1])
      · skip
        refine z_aload_n h dX12_minute_139 rfl ?_
        refine y_geti h dX12_minute_140 hR flX12_209 (by first | assumption | exact Nat.le_of_ble_eq_true rfl) (by first | rfl | assumption | exact tx_2 (by first | assumption | omega) | exact tx_18 (by first | assumption | omega) | exact tx_19 (by first | assumption | omega) | exact tx_20 (by first | assumption | omega) | exact tx_27 (by first | assumption | omega) | exact tx_28 (by first | assumption | omega) | exact tx_30 (by first | assumption | omega) | exact tx_31 (by first | assumption | omega) | exact tx_32 (by first | assumption | omega) | exact tx_33 (by first | assumption | omega)) (by rfl) ?_
        refine z_toe (y := h_) rfl ?_
        refine z_sipush (v := 1300) h dX12_minute_143 (by decide) ?_
        refine z_icmp_gt h dX12_minute_146 216 (by decide) (fun c_6 => ?_) (fun c_6 => ?_)
        · skip
          have hk0 : k_ = 0 := hK.trans (if_neg (fun q => absurd q.2.2 (by simp only [z_lt, z_le, z_ie] at *; omega)))
          refine z_loc [(0, vr (100, 0)), (1, vi b_)] ⟨rfl, rfl, trivial⟩ ?_
          exact join_216 _ _ _ hR (by rw [hk0, f_ra_0]; exact h19) (by rw [hk0, f_bl_0]; exact h21) h20 (hoo _) (fun t h1 _ _ _ _ => by simp only [r_cs, r_cf_ne h1])
        · skip
          refine z_iload_n h dX12_minute_149 rfl ?_
          refine z_if_le h dX12_minute_150 216 (by decide) (fun c_7 => ?_) (fun c_7 => ?_)
          · skip
            have hk0 : k_ = 0 := hK.trans (if_neg (fun q => absurd q.1 (by simp only [z_lt, z_le, z_ie] at *; omega)))
            refine z_loc [(0, vr (100, 0)), (1, vi b_)] ⟨rfl, rfl, trivial⟩ ?_
            exact join_216 _ _ _ hR (by rw [hk0, f_ra_0]; exact h19) (by rw [hk0, f_bl_0]; exact h21) h20 (hoo _) (fun t h1 _ _ _ _ => by simp only [r_cs, r_cf_ne h1])
          · skip
            refine z_aload_n h dX12_minute_153 rfl ?_
            refine z_iconst (v := 3) h dX12_minute_154 (by decide) ?_
            refine z_aload_n h dX12_minute_155 rfl ?_
            refine y_getr h dX12_minute_156 hR flX12_45 (by first | assumption | exact Nat.le_of_ble_eq_true rfl) (by first | rfl | assumption | exact tx_2 (by first | assumption | omega) | exact tx_18 (by first | assumption | omega) | exact tx_19 (by first | assumption | omega) | exact tx_20 (by first | assumption | omega) | exact tx_27 (by first | assumption | omega) | exact tx_28 (by first | assumption | omega) | exact tx_30 (by first | assumption | omega) | exact tx_31 (by first | assumption | omega) | exact tx_32 (by first | assumption | omega) | exact tx_33 (by first | assumption | omega)) (by rfl) ?_
            refine z_callS h dX12_minute_159 (fun _ _ q => z_okv_no he q) (fun _ _ _ t q => absurd q (he t)) (m_X12_sum _ _ (119, 0) 12 (c (119, 0)) (hR.ia (Nat.le_of_ble_eq_true rfl) rfl) (by decide)) ym_X12_sum mlX12_195 sm_X12_sum rfl (by decide) (Nat.le_of_ble_eq_true rfl) ?_
            rintro q1 w1 ⟨rfl, hw1⟩
            have hw1 := hw1.symm; subst hw1
            refine z_min h dX12_minute_162 mlX12_188 sm_Mmin ic_Math co_Mmin (Nat.le_of_ble_eq_true rfl) ?_
            refine z_toe (y := nI (f_min3 (p_sm ra 12))) (by rw [z_sum_nI h19]; exact nI_min3 (by omega)) ?_
            refine z_aload_n h dX12_minute_165 rfl ?_
            refine y_getr h dX12_minute_166 hR flX12_45 (by first | assumption | exact Nat.le_of_ble_eq_true rfl) (by first | rfl | assumption | exact tx_2 (by first | assumption | omega) | exact tx_18 (by first | assumption | omega) | exact tx_19 (by first | assumption | omega) | exact tx_20 (by first | assumption | omega) | exact tx_27 (by first | assumption | omega) | exact tx_28 (by first | assumption | omega) | exact tx_30 (by first | assumption | omega) | exact tx_31 (by first | assumption | omega) | exact tx_32 (by first | assumption | omega) | exact tx_33 (by first | assumption | omega)) (by rfl) ?_
            refine z_callV h dX12_minute_169 (fun _ _ q => z_okv_no he q) (fun _ _ _ t q => absurd q (he t)) (m_X12_partBy _ hR (119, 0) 12 (f_min3 (p_sm ra 12)) ra (Nat.le_of_ble_eq_true rfl) rfl (by simp) (by simp) (by decide) (by decide) (by have := f_min3_le (p_sm ra 12); omega) (fun i hi => ⟨by have := p_sm_one (f := ra) hi; omega, h19 i hi⟩) (fun q => by have := f_min3_le (p_sm ra 12); omega)) ym_X12_partBy mlX12_202 im_X12_partBy (ci := 12) rfl se_X12_partBy icX12 rfl (r_p.ob hR (by first | assumption | exact Nat.le_of_ble_eq_true rfl) (by first | rfl | assumption | exact tx_2 (by first | assumption | omega) | exact tx_18 (by first | assumption | omega) | exact tx_19 (by first | assumption | omega) | exact tx_20 (by first | assumption | omega) | exact tx_27 (by first | assumption | omega) | exact tx_28 (by first | assumption | omega) | exact tx_30 (by first | assumption | omega) | exact tx_31 (by first | assumption | omega) | exact tx_32 (by first | assumption | omega) | exact tx_33 (by first | assumption | omega))) rfl (by decide) (Nat.le_of_ble_eq_true rfl) ?_
            rintro q1 w ⟨rfl, mo, lf, hR⟩
            have hcond : 0 < b_ ∧ 1000 ≤ h_ ∧ h_ ≤ 1300 := ⟨by simp only [z_lt, z_le, z_ie] at *; omega, by simp only [z_lt, z_le, z_ie] at *; omega, by simp only [z_lt, z_le, z_ie] at *; omega⟩
            have hkk : k_ = f_min3 (p_sm ra 12) := hK.trans (if_pos hcond)
            have hkle := f_min3_le (p_sm ra 12)
            refine z_iconst (v := 0) h dX12_minute_172 (by decide) ?_
            refine z_istore_n h dX12_minute_173 (by rw [hn]; decide) ?_
            have loop_174 : ∀ (m_ : Nat) (k : Nat) (w : z_w), r_p dM (TM g) w0 (TR (MP (r_cs (r_cs (r_cs (r_cs (r_cs c (100, 0) 25 (f_seen u)) (100, 0) 26 a_) (100, 0) 22 (u 5 + b_)) (100, 0) 23 (u 6 + 12 * b_)) (100, 0) 23 h_) (ptf (f_min3 (p_sm ra 12)) ra 12 ((r_cs (r_cs (r_cs (r_cs (r_cs c (100, 0) 25 (f_seen u)) (100, 0) 26 a_) (100, 0) 22 (u 5 + b_)) (100, 0) 23 (u 6 + 12 * b_)) (100, 0) 23 h_) (117, 0))) mo) (119, 0) (121, 0) k) (r_cf l (116, 0) lf) r w → k ≤ 12 → 12 + 1 ≤ k + m_ → z_V X 0 0 w 174 [(0, vr (100, 0)), (1, vi b_), (2, vi (nI k))] [] := by
              intro m_
              induction m_ with
              | zero => intros; omega
              | succ m_ ih_174 =>
                intro k w hR hk hN2
                refine z_iload_n h dX12_minute_174 rfl ?_
                refine z_bipush (v := 12) h dX12_minute_175 (by decide) ?_
                refine z_icmp_ge h dX12_minute_177 216 (by decide) (fun c_177 => ?_) (fun c_177 => ?_)
                · skip
                  have e1 : 12 ≤ k := (nI_leI (a := 12) (by omega) (by omega)).mp c_177
                  have hk12 : k = 12 := by omega
                  rw [hk12] at hR
                  refine z_loc [(0, vr (100, 0)), (1, vi b_)] ⟨rfl, rfl, trivial⟩ ?_
                  refine join_216 _ _ _ hR (fun i hi => ?_) (fun i hi => ?_) (fun i hi => ?_) ?_ (fun t g1 g2 g3 g4 g5 => ?_)
                  · rw [tr_at1 (by simp) hi, mp_ne (by simp) (by simp), mp_S]
                    show c (119, 0) i - ptf _ _ _ _ i = _
                    unfold ptf; rw [if_pos hi, hkk, h19 i hi]
                    exact pk_sub (ptt_le hkle.1 i)
                  · rw [tr_at2 hi, mp_ne (by simp) (by simp), mp_S]
                    show c (121, 0) i + ptf _ _ _ _ i = _
                    unfold ptf; rw [if_pos hi, hkk, h21 i hi]
                    exact nI_add _ _
                  · rw [tr_ne (by simp) (by simp), mp_ne (by simp) (by simp)]
                    exact h20 i hi
                  · rw [tr_ne (by simp) (by simp), mp_ne (by simp) (by simp)]
                    exact hoo _
                  · rw [tr_ne g4 g5, mp_ne g2 g3]
                    simp only [r_cs, r_cf_ne g1]
                · skip
                  have e1 : ¬ 12 ≤ k := fun q => c_177 ((nI_leI (a := 12) (by omega) (by omega)).mpr q)
                  refine z_aload_n h dX12_minute_180 rfl ?_
                  refine y_getr h dX12_minute_181 hR flX12_45 (by first | assumption | exact Nat.le_of_ble_eq_true rfl) (by first | rfl | assumption | exact tx_2 (by first | assumption | omega) | exact tx_18 (by first | assumption | omega) | exact tx_19 (by first | assumption | omega) | exact tx_20 (by first | assumption | omega) | exact tx_27 (by first | assumption | omega) | exact tx_28 (by first | assumption | omega) | exact tx_30 (by first | assumption | omega) | exact tx_31 (by first | assumption | omega) | exact tx_32 (by first | assumption | omega) | exact tx_33 (by first | assumption | omega)) (by rfl) ?_
                  refine z_iload_n h dX12_minute_184 rfl ?_
                  refine z_dup2_ir h dX12_minute_185 ?_
                  refine y_iald h dX12_minute_186 hR (by first | assumption | exact Nat.le_of_ble_eq_true rfl) (by first | rfl | assumption | exact tx_2 (by first | assumption | omega) | exact tx_18 (by first | assumption | omega) | exact tx_19 (by first | assumption | omega) | exact tx_20 (by first | assumption | omega) | exact tx_27 (by first | assumption | omega) | exact tx_28 (by first | assumption | omega) | exact tx_30 (by first | assumption | omega) | exact tx_31 (by first | assumption | omega) | exact tx_32 (by first | assumption | omega) | exact tx_33 (by first | assumption | omega)) (z_ixn (show k < 12 by omega) (by decide)) ?_
                  rw [tr_1 (by simp)]
                  refine z_aload_n h dX12_minute_187 rfl ?_
                  refine y_getr h dX12_minute_188 hR flX12_38 (by first | assumption | exact Nat.le_of_ble_eq_true rfl) (by first | rfl | assumption | exact tx_2 (by first | assumption | omega) | exact tx_18 (by first | assumption | omega) | exact tx_19 (by first | assumption | omega) | exact tx_20 (by first | assumption | omega) | exact tx_27 (by first | assumption | omega) | exact tx_28 (by first | assumption | omega) | exact tx_30 (by first | assumption | omega) | exact tx_31 (by first | assumption | omega) | exact tx_32 (by first | assumption | omega) | exact tx_33 (by first | assumption | omega)) (by rfl) ?_
                  refine z_iload_n h dX12_minute_191 rfl ?_
                  refine y_iald h dX12_minute_192 hR (by first | assumption | exact Nat.le_of_ble_eq_true rfl) (by first | rfl | assumption | exact tx_2 (by first | assumption | omega) | exact tx_18 (by first | assumption | omega) | exact tx_19 (by first | assumption | omega) | exact tx_20 (by first | assumption | omega) | exact tx_27 (by first | assumption | omega) | exact tx_28 (by first | assumption | omega) | exact tx_30 (by first | assumption | omega) | exact tx_31 (by first | assumption | omega) | exact tx_32 (by first | assumption | omega) | exact tx_33 (by first | assumption | omega)) (z_ixn (show k < 12 by omega) (by decide)) ?_
                  rw [tr_s (by simp) (by simp)]
                  refine z_isub h dX12_minute_193 ?_
                  refine y_iast h dX12_minute_194 hR (by first | assumption | exact Nat.le_of_ble_eq_true rfl) (by first | rfl | assumption | exact tx_2 (by first | assumption | omega) | exact tx_18 (by first | assumption | omega) | exact tx_19 (by first | assumption | omega) | exact tx_20 (by first | assumption | omega) | exact tx_27 (by first | assumption | omega) | exact tx_28 (by first | assumption | omega) | exact tx_30 (by first | assumption | omega) | exact tx_31 (by first | assumption | omega) | exact tx_32 (by first | assumption | omega) | exact tx_33 (by first | assumption | omega)) (z_ixn (show k < 12 by omega) (by decide)) (fun w hR => ?_)
                  refine z_aload_n h dX12_minute_195 rfl ?_
                  refine y_getr h dX12_minute_196 hR flX12_51 (by first | assumption | exact Nat.le_of_ble_eq_true rfl) (by first | rfl | assumption | exact tx_2 (by first | assumption | omega) | exact tx_18 (by first | assumption | omega) | exact tx_19 (by first | assumption | omega) | exact tx_20 (by first | assumption | omega) | exact tx_27 (by first | assumption | omega) | exact tx_28 (by first | assumption | omega) | exact tx_30 (by first | assumption | omega) | exact tx_31 (by first | assumption | omega) | exact tx_32 (by first | assumption | omega) | exact tx_33 (by first | assumption | omega)) (by rfl) ?_
                  refine z_iload_n h dX12_minute_199 rfl ?_
                  refine z_dup2_ir h dX12_minute_200 ?_
                  refine y_iald h dX12_minute_201 hR (by first | assumption | exact Nat.le_of_ble_eq_true rfl) (by first | rfl | assumption | exact tx_2 (by first | assumption | omega) | exact tx_18 (by first | assumption | omega) | exact tx_19 (by first | assumption | omega) | exact tx_20 (by first | assumption | omega) | exact tx_27 (by first | assumption | omega) | exact tx_28 (by first | assumption | omega) | exact tx_30 (by first | assumption | omega) | exact tx_31 (by first | assumption | omega) | exact tx_32 (by first | assumption | omega) | exact tx_33 (by first | assumption | omega)) (z_ixn (show k < 12 by omega) (by decide)) ?_
                  rw [tr_2 (by simp)]
                  refine z_aload_n h dX12_minute_202 rfl ?_
                  refine y_getr h dX12_minute_203 hR flX12_38 (by first | assumption | exact Nat.le_of_ble_eq_true rfl) (by first | rfl | assumption | exact tx_2 (by first | assumption | omega) | exact tx_18 (by first | assumption | omega) | exact tx_19 (by first | assumption | omega) | exact tx_20 (by first | assumption | omega) | exact tx_27 (by first | assumption | omega) | exact tx_28 (by first | assumption | omega) | exact tx_30 (by first | assumption | omega) | exact tx_31 (by first | assumption | omega) | exact tx_32 (by first | assumption | omega) | exact tx_33 (by first | assumption | omega)) (by rfl) ?_
                  refine z_iload_n h dX12_minute_206 rfl ?_
                  refine y_iald h dX12_minute_207 hR (by first | assumption | exact Nat.le_of_ble_eq_true rfl) (by first | rfl | assumption | exact tx_2 (by first | assumption | omega) | exact tx_18 (by first | assumption | omega) | exact tx_19 (by first | assumption | omega) | exact tx_20 (by first | assumption | omega) | exact tx_27 (by first | assumption | omega) | exact tx_28 (by first | assumption | omega) | exact tx_30 (by first | assumption | omega) | exact tx_31 (by first | assumption | omega) | exact tx_32 (by first | assumption | omega) | exact tx_33 (by first | assumption | omega)) (z_ixn (show k < 12 by omega) (by decide)) ?_
                  rw [tr_s2 (by simp) (by simp)]
                  refine z_iadd h dX12_minute_208 ?_
                  refine y_iast h dX12_minute_209 hR (by first | assumption | exact Nat.le_of_ble_eq_true rfl) (by first | rfl | assumption | exact tx_2 (by first | assumption | omega) | exact tx_18 (by first | assumption | omega) | exact tx_19 (by first | assumption | omega) | exact tx_20 (by first | assumption | omega) | exact tx_27 (by first | assumption | omega) | exact tx_28 (by first | assumption | omega) | exact tx_30 (by first | assumption | omega) | exact tx_31 (by first | assumption | omega) | exact tx_32 (by first | assumption | omega) | exact tx_33 (by first | assumption | omega)) (z_ixn (show k < 12 by omega) (by decide)) (fun w hR => ?_)
                  refine z_iinc (v := 1) h dX12_minute_210 rfl (by decide) (by rw [hn]; decide) ?_
                  refine z_goto h dX12_minute_213 174 (by decide) ?_
                  refine z_loc [(0, vr (100, 0)), (1, vi b_), (2, vi (nI (k + 1)))] ⟨rfl, rfl, congrArg (fun z => some (vi z)) (z_up k), trivial⟩ ?_
                  exact ih_174 (k + 1) w (by rw [tr_st (by simp) rfl] at hR; exact hR) (by omega) (by omega)
            exact z_loc [(0, vr (100, 0)), (1, vi b_), (2, vi (nI 0))] ⟨rfl, rfl, rfl, trivial⟩ (loop_174 (12 + 1) 0 w (by rw [tr_0]; exact hR) (by omega) (by omega))
    refine z_iconst (v := 0) h dX12_minute_20 (by decide) ?_
    refine z_istore_n h dX12_minute_21 (by rw [hn]; decide) ?_
    have loop_22 : ∀ (n_ : Nat) (i : Nat), n_air (c (136, 0)) (c (137, 0)) (c (138, 0)) (c (139, 0)) (f_seen u) (u 7) (f_cl u ch) (nI (p_sm ra 12)) (u 9) (nc - i) i = a_ → i ≤ nc → nc + 1 ≤ i + n_ → z_V X 0 0 w 22 [(0, vr (100, 0)), (1, vi (nI i))] [] := by
      intro n_
      induction n_ with
      | zero => intros; omega
      | succ n_ ih_22 =>
        intro i ha hi hN
        refine z_iload_n h dX12_minute_22 rfl ?_
        refine z_aload_n h dX12_minute_23 rfl ?_
        refine y_geti h dX12_minute_24 hR flX12_215 (by first | assumption | exact Nat.le_of_ble_eq_true rfl) (by first | rfl | assumption | exact tx_2 (by first | assumption | omega) | exact tx_18 (by first | assumption | omega) | exact tx_19 (by first | assumption | omega) | exact tx_20 (by first | assumption | omega) | exact tx_27 (by first | assumption | omega) | exact tx_28 (by first | assumption | omega) | exact tx_30 (by first | assumption | omega) | exact tx_31 (by first | assumption | omega) | exact tx_32 (by first | assumption | omega) | exact tx_33 (by first | assumption | omega)) (by rfl) ?_
        refine z_toe (y := nI nc) hc34 ?_
        refine z_icmp_ge h dX12_minute_27 57 (by decide) (fun c_3 => ?_) (fun c_3 => ?_)
        · skip
          have e1 : nc ≤ i := (nI_leI (by omega) (by omega)).mp c_3
          have ha0 : a_ = u 9 := by rw [← ha, show nc - i = 0 by omega]; rfl
          refine z_loc [(0, vr (100, 0))] ⟨rfl, trivial⟩ ?_
          exact join_57 _ (by rw [show a_ = r_cs c (100, 0) 25 (f_seen u) (100, 0) 26 from by rw [ha0]; exact (hu 9 (by omega) (by omega)).symm, r_cs, upd_same, r_cf_same]; exact hR)
        · skip
          have e1 : ¬ nc ≤ i := fun q => c_3 ((nI_leI (by omega) (by omega)).mpr q)
          refine z_aload_n h dX12_minute_30 rfl ?_
          refine z_iload_n h dX12_minute_31 rfl ?_
          refine z_callV h dX12_minute_32 (fun _ _ q => z_okv_no he q) (fun _ _ _ t q => absurd q (he t)) (m_X12_holds _ hR i (by omega)) ym_X12_holds mlX12_218 im_X12_holds (ci := 12) rfl se_X12_holds icX12 rfl (r_p.ob hR (by first | assumption | exact Nat.le_of_ble_eq_true rfl) (by first | rfl | assumption | exact tx_2 (by first | assumption | omega) | exact tx_18 (by first | assumption | omega) | exact tx_19 (by first | assumption | omega) | exact tx_20 (by first | assumption | omega) | exact tx_27 (by first | assumption | omega) | exact tx_28 (by first | assumption | omega) | exact tx_30 (by first | assumption | omega) | exact tx_31 (by first | assumption | omega) | exact tx_32 (by first | assumption | omega) | exact tx_33 (by first | assumption | omega))) rfl (by decide) (Nat.le_of_ble_eq_true rfl) ?_
          rintro q1 w1 ⟨rfl, hw1⟩
          have hw1 := hw1.symm; subst hw1
          refine z_toe (y := z_b (n_hd (c (137, 0) i) (n_rd (c (136, 0) i) (f_seen u) (u 7) (f_cl u ch) (nI (p_sm ra 12))) (c (138, 0) i) = true)) (by
            show z_b (n_hd (c (137, 0) i) (n_rd (c (136, 0) i) (f_seen u) (c (100, 0) 24) (z_sum (c (120, 0)) 8 - c (100, 0) 22) (z_sum (c (119, 0)) 12)) (c (138, 0) i) = true) = _
            rw [hu 7 (by omega) (by omega), hu 5 (by omega) (by omega), z_sum_nI h20, z_sum_nI h19]
            rfl) ?_
          refine z_if_eq h dX12_minute_35 51 (by decide) (fun c_4 => ?_) (fun c_4 => ?_)
          · skip
            refine z_iinc (v := 1) h dX12_minute_51 rfl (by decide) (by rw [hn]; decide) ?_
            refine z_goto h dX12_minute_54 22 (by decide) ?_
            refine z_loc [(0, vr (100, 0)), (1, vi (nI (i + 1)))] ⟨rfl, congrArg (fun z => some (vi z)) (z_up i), trivial⟩ ?_
            exact ih_22 (i + 1) (by rw [← ha, show nc - i = (nc - (i + 1)) + 1 by omega, n_air, if_neg (z_bf c_4)]) (by omega) (by omega)
          · skip
            have hai : a_ = c (139, 0) i := by rw [← ha, show nc - i = (nc - (i + 1)) + 1 by omega, n_air, if_pos (z_bt c_4)]
            refine z_aload_n h dX12_minute_38 rfl ?_
            refine z_aload_n h dX12_minute_39 rfl ?_
            refine y_getr h dX12_minute_40 hR flX12_76 (by first | assumption | exact Nat.le_of_ble_eq_true rfl) (by first | rfl | assumption | exact tx_2 (by first | assumption | omega) | exact tx_18 (by first | assumption | omega) | exact tx_19 (by first | assumption | omega) | exact tx_20 (by first | assumption | omega) | exact tx_27 (by first | assumption | omega) | exact tx_28 (by first | assumption | omega) | exact tx_30 (by first | assumption | omega) | exact tx_31 (by first | assumption | omega) | exact tx_32 (by first | assumption | omega) | exact tx_33 (by first | assumption | omega)) (by rfl) ?_
            refine z_iload_n h dX12_minute_43 rfl ?_
            refine y_iald h dX12_minute_44 hR (by first | assumption | exact Nat.le_of_ble_eq_true rfl) (by first | rfl | assumption | exact tx_2 (by first | assumption | omega) | exact tx_18 (by first | assumption | omega) | exact tx_19 (by first | assumption | omega) | exact tx_20 (by first | assumption | omega) | exact tx_27 (by first | assumption | omega) | exact tx_28 (by first | assumption | omega) | exact tx_30 (by first | assumption | omega) | exact tx_31 (by first | assumption | omega) | exact tx_32 (by first | assumption | omega) | exact tx_33 (by first | assumption | omega)) (z_ixn (show i < 60 by omega) (by decide)) ?_
            refine y_put h dX12_minute_45 he hR flX12_221 rfl (by first | assumption | exact Nat.le_of_ble_eq_true rfl) (by first | rfl | assumption | exact tx_2 (by first | assumption | omega) | exact tx_18 (by first | assumption | omega) | exact tx_19 (by first | assumption | omega) | exact tx_20 (by first | assumption | omega) | exact tx_27 (by first | assumption | omega) | exact tx_28 (by first | assumption | omega) | exact tx_30 (by first | assumption | omega) | exact tx_31 (by first | assumption | omega) | exact tx_32 (by first | assumption | omega) | exact tx_33 (by first | assumption | omega)) (by rfl) (fun w hR => ?_)
            refine z_goto h dX12_minute_48 57 (by decide) ?_
            refine z_loc [(0, vr (100, 0))] ⟨rfl, trivial⟩ ?_
            exact join_57 _ (by rw [show a_ = c (139, 0) i from hai]; exact hR)
    exact z_loc [(0, vr (100, 0)), (1, vi (nI 0))] ⟨rfl, rfl, trivial⟩ (loop_22 (nc + 1) 0 hA.symm (by omega) (by omega))
  refine z_aload_n h dX12_minute_0 rfl ?_
  refine y_geti h dX12_minute_1 hR flX12_206 (by first | assumption | exact Nat.le_of_ble_eq_true rfl) (by first | rfl | assumption | exact tx_2 (by first | assumption | omega) | exact tx_18 (by first | assumption | omega) | exact tx_19 (by first | assumption | omega) | exact tx_20 (by first | assumption | omega) | exact tx_27 (by first | assumption | omega) | exact tx_28 (by first | assumption | omega) | exact tx_30 (by first | assumption | omega) | exact tx_31 (by first | assumption | omega) | exact tx_32 (by first | assumption | omega) | exact tx_33 (by first | assumption | omega)) (by rfl) ?_
  refine z_aload_n h dX12_minute_4 rfl ?_
  refine y_geti h dX12_minute_5 hR flX12_61 (by first | assumption | exact Nat.le_of_ble_eq_true rfl) (by first | rfl | assumption | exact tx_2 (by first | assumption | omega) | exact tx_18 (by first | assumption | omega) | exact tx_19 (by first | assumption | omega) | exact tx_20 (by first | assumption | omega) | exact tx_27 (by first | assumption | omega) | exact tx_28 (by first | assumption | omega) | exact tx_30 (by first | assumption | omega) | exact tx_31 (by first | assumption | omega) | exact tx_32 (by first | assumption | omega) | exact tx_33 (by first | assumption | omega)) (by rfl) ?_
  refine z_irem h dX12_minute_8 (fun q => by rw [(hu 13 (by omega) (by omega))] at q; rw [q] at hgap; exact absurd hgap (by decide)) ?_
  refine z_if_ne h dX12_minute_9 20 (by decide) (fun c_2 => ?_) (fun c_2 => ?_)
  · skip
    refine z_loc [(0, vr (100, 0))] ⟨rfl, trivial⟩ ?_
    exact join_20 _ (by rw [show f_seen u = c (100, 0) 25 from by rw [(hu 8 (by omega) (by omega))]; unfold f_seen; rw [if_neg (by rw [← (hu 7 (by omega) (by omega)), ← (hu 13 (by omega) (by omega))]; exact c_2)], r_cs, upd_same, r_cf_same]; exact hR)
  · skip
    refine z_aload_n h dX12_minute_12 rfl ?_
    refine z_aload_n h dX12_minute_13 rfl ?_
    refine y_geti h dX12_minute_14 hR flX12_209 (by first | assumption | exact Nat.le_of_ble_eq_true rfl) (by first | rfl | assumption | exact tx_2 (by first | assumption | omega) | exact tx_18 (by first | assumption | omega) | exact tx_19 (by first | assumption | omega) | exact tx_20 (by first | assumption | omega) | exact tx_27 (by first | assumption | omega) | exact tx_28 (by first | assumption | omega) | exact tx_30 (by first | assumption | omega) | exact tx_31 (by first | assumption | omega) | exact tx_32 (by first | assumption | omega) | exact tx_33 (by first | assumption | omega)) (by rfl) ?_
    refine y_put h dX12_minute_17 he hR flX12_212 rfl (by first | assumption | exact Nat.le_of_ble_eq_true rfl) (by first | rfl | assumption | exact tx_2 (by first | assumption | omega) | exact tx_18 (by first | assumption | omega) | exact tx_19 (by first | assumption | omega) | exact tx_20 (by first | assumption | omega) | exact tx_27 (by first | assumption | omega) | exact tx_28 (by first | assumption | omega) | exact tx_30 (by first | assumption | omega) | exact tx_31 (by first | assumption | omega) | exact tx_32 (by first | assumption | omega) | exact tx_33 (by first | assumption | omega)) (by rfl) (fun w hR => ?_)
    refine z_loc [(0, vr (100, 0))] ⟨rfl, trivial⟩ ?_
    exact join_20 _ (by rw [show f_seen u = c (100, 0) 23 from by rw [(hu 6 (by omega) (by omega))]; unfold f_seen; rw [if_pos (by rw [← (hu 7 (by omega) (by omega)), ← (hu 13 (by omega) (by omega))]; exact c_2)]]; exact hR)
