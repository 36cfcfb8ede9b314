/-! one lemma a case of the law's switch: both calls, their answers one -/
theorem lb_payC {t gX gM jX jM aC : Nat} (hg : gX ≤ 6 ∧ gM ≤ 4) (ht : t ≤ 511) (h1 : jX ≤ 1) (h2 : jM ≤ 1) (h3 : aC ≤ 2) : lb_C (t + 1) (gX + jX) (gM + jM) + 4 * jM + (4 * jX + aC) ≤ lb_C t gX gM := by
  unfold lb_C; omega
theorem lb_pow {a j : Nat} (h : j ≤ 1) (c : Nat) (hc : 2 * 2 ^ a ≤ c) : (c - 2 ^ (a + j)) + 2 ^ a * j ≤ c - 2 ^ a := by
  rcases (show j = 0 ∨ j = 1 by omega) with e | e <;> subst e
  · simp
  · rw [Nat.pow_succ]; omega
theorem lb_payS {t gX gM jX jM aS : Nat} (hg : gX ≤ 6 ∧ gM ≤ 4) (ht : t ≤ 511) (h1 : jX ≤ 1) (h2 : jM ≤ 1) (h3 : aS ≤ 12) : lb_S (t + 1) (gX + jX) (gM + jM) + 2048 * 2 ^ gM * jM + (8 * (64 * 2 ^ gX) * jX + aS) ≤ lb_S t gX gM := by
  have a1 : 2 ^ gX ≤ 64 := Nat.le_trans (Nat.pow_le_pow_right (by decide) hg.1) (by decide)
  have a2 : 2 ^ gM ≤ 16 := Nat.le_trans (Nat.pow_le_pow_right (by decide) hg.2) (by decide)
  have b1 := lb_pow (a := gX) h1 128 (by omega)
  have b2 := lb_pow (a := gM) h2 32 (by omega)
  have e1 : 8 * (64 * 2 ^ gX) * jX = 512 * (2 ^ gX * jX) := by rw [← Nat.mul_assoc, ← Nat.mul_assoc, Nat.mul_assoc]
  have e2 : 2048 * 2 ^ gM * jM = 2048 * (2 ^ gM * jM) := Nat.mul_assoc _ _ _
  unfold lb_S
  rw [e1, e2]
  omega
set_option maxHeartbeats 4000000 in
set_option maxRecDepth 100000 in
theorem lc_0 {X : z_X} {b n : Nat} {xs : Nat → Int32} (hP : lx_P X b n xs) {t gX gM : Nat} {w : z_w} (hK : KS t gX gM w) (ht : 6 * t + 6 ≤ n) (kk : lx_K X t) : z_V X (lb_C t gX gM) (lb_S t gX gM) w 168 (LL t) [] := by
  have h := hP.1
  have hn := hP.2.2.2.2.1
  obtain ⟨fs, hw⟩ := hK.x
  obtain ⟨fm, hwm⟩ := hK.m
  have hg := hK.g
  have hy : ∀ w1 : z_w, (∀ tt, ¬ dX tt → w1 tt = w tt) → ∀ t, x_E0 X t → w1 t = none := fun w1 q t ht => by
    rw [hP.2.2.2.1 t ht, q sc (show ¬ (999 < 100) by decide)]; exact hK.nosc
  refine z_less (kC' := lb_C (t + 1) gX gM + 0 + 1) (kS' := lb_S (t + 1) gX gM + 0 + 6) (by unfold lb_C; omega) (by unfold lb_S; omega) ?_
  refine z_aload_n h dL_law_168 rfl ?_
  refine l_arg hP ht 1 1 (by decide) (by decide) dL_law_169 dL_law_170 dL_law_171 dL_law_172 dL_law_173 ?_
  refine l_arg hP ht 2 2 (by decide) (by decide) dL_law_174 dL_law_175 dL_law_176 dL_law_177 dL_law_178 ?_
  refine l_arg hP ht 3 3 (by decide) (by decide) dL_law_179 dL_law_180 dL_law_181 dL_law_182 dL_law_183 ?_
  refine z_callV h dL_law_184 (l_hx rfl) (fun r w1 q => hy w1 q.1) (k_bog (x_G X) hK (xs (6 * t + 1)) (xs (6 * t + 2)) (xs (6 * t + 3))) ym_X11_bog mlL_13 im_X11_bog (ci := 11) rfl se_X11_bog icX11 rfl hw rfl (by decide) (Nat.le_of_ble_eq_true rfl) ?_
  rintro r1 w1 ⟨e1, hM⟩
  refine z_aload_n h dL_law_187 rfl ?_
  refine l_arg hP ht 1 1 (by decide) (by decide) dL_law_188 dL_law_189 dL_law_190 dL_law_191 dL_law_192 ?_
  refine l_arg hP ht 2 2 (by decide) (by decide) dL_law_193 dL_law_194 dL_law_195 dL_law_196 dL_law_197 ?_
  refine l_arg hP ht 3 3 (by decide) (by decide) dL_law_198 dL_law_199 dL_law_200 dL_law_201 dL_law_202 ?_
  refine z_callV h dL_law_203 (l_hx rfl) (fun r w2 q t ht => by rw [hP.2.2.2.1 t ht]; exact q.2.nosc) hM ym_X12_bog mlL_17 im_X12_bog (ci := 12) rfl se_X12_bog icX12 rfl ((e1 (100, 0) (show ¬ (100 < 100) by decide)).trans hwm) rfl (by decide) (l_words r1) ?_
  rintro r2 w2 ⟨⟨v, e2, e3⟩, hK2⟩
  subst e2
  subst e3
  exact z_icmp_eq h dL_law_206 1016 (by decide) (fun _ => kk _ _ _ hK2) (fun z => absurd rfl z)
set_option maxHeartbeats 4000000 in
set_option maxRecDepth 100000 in
theorem lc_1 {X : z_X} {b n : Nat} {xs : Nat → Int32} (hP : lx_P X b n xs) {t gX gM : Nat} {w : z_w} (hK : KS t gX gM w) (ht : 6 * t + 6 ≤ n) (kk : lx_K X t) : z_V X (lb_C t gX gM) (lb_S t gX gM) w 211 (LL t) [] := by
  have h := hP.1
  have hn := hP.2.2.2.2.1
  obtain ⟨fs, hw⟩ := hK.x
  obtain ⟨fm, hwm⟩ := hK.m
  have hg := hK.g
  have hy : ∀ w1 : z_w, (∀ tt, ¬ dX tt → w1 tt = w tt) → ∀ t, x_E0 X t → w1 t = none := fun w1 q t ht => by
    rw [hP.2.2.2.1 t ht, q sc (show ¬ (999 < 100) by decide)]; exact hK.nosc
  refine z_less (kC' := lb_C (t + 1) gX gM + 0 + 0) (kS' := lb_S (t + 1) gX gM + 0 + 0) (by unfold lb_C; omega) (by unfold lb_S; omega) ?_
  refine z_aload_n h dL_law_211 rfl ?_
  refine l_arg hP ht 1 1 (by decide) (by decide) dL_law_212 dL_law_213 dL_law_214 dL_law_215 dL_law_216 ?_
  refine l_arg hP ht 2 2 (by decide) (by decide) dL_law_217 dL_law_218 dL_law_219 dL_law_220 dL_law_221 ?_
  refine l_arg hP ht 3 3 (by decide) (by decide) dL_law_222 dL_law_223 dL_law_224 dL_law_225 dL_law_226 ?_
  refine z_callV h dL_law_227 (l_hx rfl) (fun r w1 q => hy w1 q.1) (k_test (x_G X) hK (xs (6 * t + 1)) (xs (6 * t + 2)) (xs (6 * t + 3))) ym_X11_test mlL_18 im_X11_test (ci := 11) rfl se_X11_test icX11 rfl hw rfl (by decide) (Nat.le_of_ble_eq_true rfl) ?_
  rintro r1 w1 ⟨e1, hM⟩
  refine z_aload_n h dL_law_230 rfl ?_
  refine l_arg hP ht 1 1 (by decide) (by decide) dL_law_231 dL_law_232 dL_law_233 dL_law_234 dL_law_235 ?_
  refine l_arg hP ht 2 2 (by decide) (by decide) dL_law_236 dL_law_237 dL_law_238 dL_law_239 dL_law_240 ?_
  refine l_arg hP ht 3 3 (by decide) (by decide) dL_law_241 dL_law_242 dL_law_243 dL_law_244 dL_law_245 ?_
  refine z_callV h dL_law_246 (l_hx rfl) (fun r w2 q t ht => by rw [hP.2.2.2.1 t ht]; exact q.2.nosc) hM ym_X12_test mlL_22 im_X12_test (ci := 12) rfl se_X12_test icX12 rfl ((e1 (100, 0) (show ¬ (100 < 100) by decide)).trans hwm) rfl (by decide) (l_words r1) ?_
  rintro r2 w2 ⟨⟨v, e2, e3⟩, hK2⟩
  subst e2
  subst e3
  exact z_icmp_eq h dL_law_249 1016 (by decide) (fun _ => kk _ _ _ hK2) (fun z => absurd rfl z)
set_option maxHeartbeats 4000000 in
set_option maxRecDepth 100000 in
theorem lc_2 {X : z_X} {b n : Nat} {xs : Nat → Int32} (hP : lx_P X b n xs) {t gX gM : Nat} {w : z_w} (hK : KS t gX gM w) (ht : 6 * t + 6 ≤ n) (kk : lx_K X t) : z_V X (lb_C t gX gM) (lb_S t gX gM) w 254 (LL t) [] := by
  have h := hP.1
  have hn := hP.2.2.2.2.1
  obtain ⟨fs, hw⟩ := hK.x
  obtain ⟨fm, hwm⟩ := hK.m
  have hg := hK.g
  have hy : ∀ w1 : z_w, (∀ tt, ¬ dX tt → w1 tt = w tt) → ∀ t, x_E0 X t → w1 t = none := fun w1 q t ht => by
    rw [hP.2.2.2.1 t ht, q sc (show ¬ (999 < 100) by decide)]; exact hK.nosc
  refine z_less (kC' := lb_C (t + 1) gX gM + 0 + 0) (kS' := lb_S (t + 1) gX gM + 0 + 0) (by unfold lb_C; omega) (by unfold lb_S; omega) ?_
  refine z_aload_n h dL_law_254 rfl ?_
  refine l_arg hP ht 1 1 (by decide) (by decide) dL_law_255 dL_law_256 dL_law_257 dL_law_258 dL_law_259 ?_
  refine l_arg hP ht 2 2 (by decide) (by decide) dL_law_260 dL_law_261 dL_law_262 dL_law_263 dL_law_264 ?_
  refine z_callV h dL_law_265 (l_hx rfl) (fun r w1 q => hy w1 q.1) (k_dig (x_G X) hK (xs (6 * t + 1)) (xs (6 * t + 2))) ym_X11_dig mlL_23 im_X11_dig (ci := 11) rfl se_X11_dig icX11 rfl hw rfl (by decide) (Nat.le_of_ble_eq_true rfl) ?_
  rintro r1 w1 ⟨e1, hM⟩
  refine z_aload_n h dL_law_268 rfl ?_
  refine l_arg hP ht 1 1 (by decide) (by decide) dL_law_269 dL_law_270 dL_law_271 dL_law_272 dL_law_273 ?_
  refine l_arg hP ht 2 2 (by decide) (by decide) dL_law_274 dL_law_275 dL_law_276 dL_law_277 dL_law_278 ?_
  refine z_callV h dL_law_279 (l_hx rfl) (fun r w2 q t ht => by rw [hP.2.2.2.1 t ht]; exact q.2.nosc) hM ym_X12_dig mlL_27 im_X12_dig (ci := 12) rfl se_X12_dig icX12 rfl ((e1 (100, 0) (show ¬ (100 < 100) by decide)).trans hwm) rfl (by decide) (l_words r1) ?_
  rintro r2 w2 ⟨⟨v, e2, e3⟩, hK2⟩
  subst e2
  subst e3
  exact z_icmp_eq h dL_law_282 1016 (by decide) (fun _ => kk _ _ _ hK2) (fun z => absurd rfl z)
set_option maxHeartbeats 4000000 in
set_option maxRecDepth 100000 in
theorem lc_3 {X : z_X} {b n : Nat} {xs : Nat → Int32} (hP : lx_P X b n xs) {t gX gM : Nat} {w : z_w} (hK : KS t gX gM w) (ht : 6 * t + 6 ≤ n) (kk : lx_K X t) : z_V X (lb_C t gX gM) (lb_S t gX gM) w 287 (LL t) [] := by
  have h := hP.1
  have hn := hP.2.2.2.2.1
  obtain ⟨fs, hw⟩ := hK.x
  obtain ⟨fm, hwm⟩ := hK.m
  have hg := hK.g
  have hy : ∀ w1 : z_w, (∀ tt, ¬ dX tt → w1 tt = w tt) → ∀ t, x_E0 X t → w1 t = none := fun w1 q t ht => by
    rw [hP.2.2.2.1 t ht, q sc (show ¬ (999 < 100) by decide)]; exact hK.nosc
  refine z_less (kC' := lb_C (t + 1) gX gM + 0 + 0) (kS' := lb_S (t + 1) gX gM + 0 + 0) (by unfold lb_C; omega) (by unfold lb_S; omega) ?_
  refine z_aload_n h dL_law_287 rfl ?_
  refine l_arg hP ht 1 1 (by decide) (by decide) dL_law_288 dL_law_289 dL_law_290 dL_law_291 dL_law_292 ?_
  refine l_arg hP ht 2 2 (by decide) (by decide) dL_law_293 dL_law_294 dL_law_295 dL_law_296 dL_law_297 ?_
  refine z_callV h dL_law_298 (l_hx rfl) (fun r w1 q => hy w1 q.1) (k_coal (x_G X) hK (xs (6 * t + 1)) (xs (6 * t + 2))) ym_X11_coal mlL_28 im_X11_coal (ci := 11) rfl se_X11_coal icX11 rfl hw rfl (by decide) (Nat.le_of_ble_eq_true rfl) ?_
  rintro r1 w1 ⟨e1, hM⟩
  refine z_aload_n h dL_law_301 rfl ?_
  refine l_arg hP ht 1 1 (by decide) (by decide) dL_law_302 dL_law_303 dL_law_304 dL_law_305 dL_law_306 ?_
  refine l_arg hP ht 2 2 (by decide) (by decide) dL_law_307 dL_law_308 dL_law_309 dL_law_310 dL_law_311 ?_
  refine z_callV h dL_law_312 (l_hx rfl) (fun r w2 q t ht => by rw [hP.2.2.2.1 t ht]; exact q.2.nosc) hM ym_X12_coal mlL_31 im_X12_coal (ci := 12) rfl se_X12_coal icX12 rfl ((e1 (100, 0) (show ¬ (100 < 100) by decide)).trans hwm) rfl (by decide) (l_words r1) ?_
  rintro r2 w2 ⟨⟨v, e2, e3⟩, hK2⟩
  subst e2
  subst e3
  exact z_icmp_eq h dL_law_315 1016 (by decide) (fun _ => kk _ _ _ hK2) (fun z => absurd rfl z)
set_option maxHeartbeats 4000000 in
set_option maxRecDepth 100000 in
theorem lc_4 {X : z_X} {b n : Nat} {xs : Nat → Int32} (hP : lx_P X b n xs) {t gX gM : Nat} {w : z_w} (hK : KS t gX gM w) (ht : 6 * t + 6 ≤ n) (kk : lx_K X t) : z_V X (lb_C t gX gM) (lb_S t gX gM) w 320 (LL t) [] := by
  have h := hP.1
  have hn := hP.2.2.2.2.1
  obtain ⟨fs, hw⟩ := hK.x
  obtain ⟨fm, hwm⟩ := hK.m
  have hg := hK.g
  have hy : ∀ w1 : z_w, (∀ tt, ¬ dX tt → w1 tt = w tt) → ∀ t, x_E0 X t → w1 t = none := fun w1 q t ht => by
    rw [hP.2.2.2.1 t ht, q sc (show ¬ (999 < 100) by decide)]; exact hK.nosc
  refine z_less (kC' := lb_C (t + 1) gX gM + 0 + 0) (kS' := lb_S (t + 1) gX gM + 0 + 0) (by unfold lb_C; omega) (by unfold lb_S; omega) ?_
  refine z_aload_n h dL_law_320 rfl ?_
  refine z_callV h dL_law_321 (l_hx rfl) (fun r w1 q => hy w1 q.1) (k_year (x_G X) hK (by omega)) ym_X11_year mlL_32 im_X11_year (ci := 11) rfl se_X11_year icX11 rfl hw rfl (by decide) (Nat.le_of_ble_eq_true rfl) ?_
  rintro r1 w1 ⟨e1, hM⟩
  refine z_aload_n h dL_law_324 rfl ?_
  refine z_callV h dL_law_325 (l_hx rfl) (fun r w2 q t ht => by rw [hP.2.2.2.1 t ht]; exact q.2.nosc) hM ym_X12_year mlL_36 im_X12_year (ci := 12) rfl se_X12_year icX12 rfl ((e1 (100, 0) (show ¬ (100 < 100) by decide)).trans hwm) rfl (by decide) (l_words r1) ?_
  rintro r2 w2 ⟨⟨v, e2, e3⟩, hK2⟩
  subst e2
  subst e3
  exact z_icmp_eq h dL_law_328 1016 (by decide) (fun _ => kk _ _ _ hK2) (fun z => absurd rfl z)
set_option maxHeartbeats 4000000 in
set_option maxRecDepth 100000 in
theorem lc_5 {X : z_X} {b n : Nat} {xs : Nat → Int32} (hP : lx_P X b n xs) {t gX gM : Nat} {w : z_w} (hK : KS t gX gM w) (ht : 6 * t + 6 ≤ n) (kk : lx_K X t) : z_V X (lb_C t gX gM) (lb_S t gX gM) w 333 (LL t) [] := by
  have h := hP.1
  have hn := hP.2.2.2.2.1
  obtain ⟨fs, hw⟩ := hK.x
  obtain ⟨fm, hwm⟩ := hK.m
  have hg := hK.g
  have hy : ∀ w1 : z_w, (∀ tt, ¬ dX tt → w1 tt = w tt) → ∀ t, x_E0 X t → w1 t = none := fun w1 q t ht => by
    rw [hP.2.2.2.1 t ht, q sc (show ¬ (999 < 100) by decide)]; exact hK.nosc
  refine z_less (kC' := lb_C (t + 1) gX gM + 0 + 0) (kS' := lb_S (t + 1) gX gM + 0 + 0) (by unfold lb_C; omega) (by unfold lb_S; omega) ?_
  refine z_aload_n h dL_law_333 rfl ?_
  refine l_arg hP ht 1 1 (by decide) (by decide) dL_law_334 dL_law_335 dL_law_336 dL_law_337 dL_law_338 ?_
  refine z_callV h dL_law_339 (l_hx rfl) (fun r w1 q => hy w1 q.1) (k_water (x_G X) hK (xs (6 * t + 1))) ym_X11_water mlL_37 im_X11_water (ci := 11) rfl se_X11_water icX11 rfl hw rfl (by decide) (Nat.le_of_ble_eq_true rfl) ?_
  rintro r1 w1 ⟨e1, hM⟩
  refine z_aload_n h dL_law_342 rfl ?_
  refine l_arg hP ht 1 1 (by decide) (by decide) dL_law_343 dL_law_344 dL_law_345 dL_law_346 dL_law_347 ?_
  refine z_callV h dL_law_348 (l_hx rfl) (fun r w2 q t ht => by rw [hP.2.2.2.1 t ht]; exact q.2.nosc) hM ym_X12_water mlL_41 im_X12_water (ci := 12) rfl se_X12_water icX12 rfl ((e1 (100, 0) (show ¬ (100 < 100) by decide)).trans hwm) rfl (by decide) (l_words r1) ?_
  rintro r2 w2 ⟨⟨v, e2, e3⟩, hK2⟩
  subst e2
  subst e3
  exact z_icmp_eq h dL_law_351 1016 (by decide) (fun _ => kk _ _ _ hK2) (fun z => absurd rfl z)
set_option maxHeartbeats 4000000 in
set_option maxRecDepth 100000 in
theorem lc_6 {X : z_X} {b n : Nat} {xs : Nat → Int32} (hP : lx_P X b n xs) {t gX gM : Nat} {w : z_w} (hK : KS t gX gM w) (ht : 6 * t + 6 ≤ n) (kk : lx_K X t) : z_V X (lb_C t gX gM) (lb_S t gX gM) w 356 (LL t) [] := by
  have h := hP.1
  have hn := hP.2.2.2.2.1
  obtain ⟨fs, hw⟩ := hK.x
  obtain ⟨fm, hwm⟩ := hK.m
  have hg := hK.g
  have hy : ∀ w1 : z_w, (∀ tt, ¬ dX tt → w1 tt = w tt) → ∀ t, x_E0 X t → w1 t = none := fun w1 q t ht => by
    rw [hP.2.2.2.1 t ht, q sc (show ¬ (999 < 100) by decide)]; exact hK.nosc
  refine z_less (kC' := lb_C (t + 1) gX gM + 0 + 0) (kS' := lb_S (t + 1) gX gM + 0 + 0) (by unfold lb_C; omega) (by unfold lb_S; omega) ?_
  refine z_aload_n h dL_law_356 rfl ?_
  refine l_arg hP ht 1 1 (by decide) (by decide) dL_law_357 dL_law_358 dL_law_359 dL_law_360 dL_law_361 ?_
  refine z_callV h dL_law_362 (l_hx rfl) (fun r w1 q => hy w1 q.1) (k_gap (x_G X) hK (xs (6 * t + 1))) ym_X11_gap mlL_42 im_X11_gap (ci := 11) rfl se_X11_gap icX11 rfl hw rfl (by decide) (Nat.le_of_ble_eq_true rfl) ?_
  rintro r1 w1 ⟨e1, hM⟩
  refine z_aload_n h dL_law_365 rfl ?_
  refine l_arg hP ht 1 1 (by decide) (by decide) dL_law_366 dL_law_367 dL_law_368 dL_law_369 dL_law_370 ?_
  refine z_callV h dL_law_371 (l_hx rfl) (fun r w2 q t ht => by rw [hP.2.2.2.1 t ht]; exact q.2.nosc) hM ym_X12_gap mlL_45 im_X12_gap (ci := 12) rfl se_X12_gap icX12 rfl ((e1 (100, 0) (show ¬ (100 < 100) by decide)).trans hwm) rfl (by decide) (l_words r1) ?_
  rintro r2 w2 ⟨⟨v, e2, e3⟩, hK2⟩
  subst e2
  subst e3
  exact z_icmp_eq h dL_law_374 1016 (by decide) (fun _ => kk _ _ _ hK2) (fun z => absurd rfl z)
set_option maxHeartbeats 4000000 in
set_option maxRecDepth 100000 in
theorem lc_7 {X : z_X} {b n : Nat} {xs : Nat → Int32} (hP : lx_P X b n xs) {t gX gM : Nat} {w : z_w} (hK : KS t gX gM w) (ht : 6 * t + 6 ≤ n) (kk : lx_K X t) : z_V X (lb_C t gX gM) (lb_S t gX gM) w 379 (LL t) [] := by
  have h := hP.1
  have hn := hP.2.2.2.2.1
  obtain ⟨fs, hw⟩ := hK.x
  obtain ⟨fm, hwm⟩ := hK.m
  have hg := hK.g
  have hy : ∀ w1 : z_w, (∀ tt, ¬ dX tt → w1 tt = w tt) → ∀ t, x_E0 X t → w1 t = none := fun w1 q t ht => by
    rw [hP.2.2.2.1 t ht, q sc (show ¬ (999 < 100) by decide)]; exact hK.nosc
  refine z_less (kC' := lb_C (t + 1) gX gM + 0 + 0) (kS' := lb_S (t + 1) gX gM + 0 + 0) (by unfold lb_C; omega) (by unfold lb_S; omega) ?_
  refine z_aload_n h dL_law_379 rfl ?_
  refine l_arg hP ht 1 1 (by decide) (by decide) dL_law_380 dL_law_381 dL_law_382 dL_law_383 dL_law_384 ?_
  refine l_arg hP ht 2 2 (by decide) (by decide) dL_law_385 dL_law_386 dL_law_387 dL_law_388 dL_law_389 ?_
  refine l_arg hP ht 3 3 (by decide) (by decide) dL_law_390 dL_law_391 dL_law_392 dL_law_393 dL_law_394 ?_
  refine l_arg hP ht 4 4 (by decide) (by decide) dL_law_395 dL_law_396 dL_law_397 dL_law_398 dL_law_399 ?_
  refine l_arg hP ht 5 5 (by decide) (by decide) dL_law_400 dL_law_401 dL_law_402 dL_law_403 dL_law_404 ?_
  refine z_callV h dL_law_405 (l_hx rfl) (fun r w1 q => hy w1 q.1) (k_feed (x_G X) hK (xs (6 * t + 1)) (xs (6 * t + 2)) (xs (6 * t + 3)) (xs (6 * t + 4)) (xs (6 * t + 5))) ym_X11_feed mlL_46 im_X11_feed (ci := 11) rfl se_X11_feed icX11 rfl hw rfl (by decide) (Nat.le_of_ble_eq_true rfl) ?_
  rintro r1 w1 ⟨e1, hM⟩
  refine z_aload_n h dL_law_408 rfl ?_
  refine l_arg hP ht 1 1 (by decide) (by decide) dL_law_409 dL_law_410 dL_law_411 dL_law_412 dL_law_413 ?_
  refine l_arg hP ht 2 2 (by decide) (by decide) dL_law_414 dL_law_415 dL_law_416 dL_law_417 dL_law_418 ?_
  refine l_arg hP ht 3 3 (by decide) (by decide) dL_law_419 dL_law_420 dL_law_421 dL_law_422 dL_law_423 ?_
  refine l_arg hP ht 4 4 (by decide) (by decide) dL_law_424 dL_law_425 dL_law_426 dL_law_427 dL_law_428 ?_
  refine l_arg hP ht 5 5 (by decide) (by decide) dL_law_429 dL_law_430 dL_law_431 dL_law_432 dL_law_433 ?_
  refine z_callV h dL_law_434 (l_hx rfl) (fun r w2 q t ht => by rw [hP.2.2.2.1 t ht]; exact q.2.nosc) hM ym_X12_feed mlL_50 im_X12_feed (ci := 12) rfl se_X12_feed icX12 rfl ((e1 (100, 0) (show ¬ (100 < 100) by decide)).trans hwm) rfl (by decide) (l_words r1) ?_
  rintro r2 w2 ⟨⟨v, e2, e3⟩, hK2⟩
  subst e2
  subst e3
  exact z_icmp_eq h dL_law_437 1016 (by decide) (fun _ => kk _ _ _ hK2) (fun z => absurd rfl z)
set_option maxHeartbeats 4000000 in
set_option maxRecDepth 100000 in
theorem lc_8 {X : z_X} {b n : Nat} {xs : Nat → Int32} (hP : lx_P X b n xs) {t gX gM : Nat} {w : z_w} (hK : KS t gX gM w) (ht : 6 * t + 6 ≤ n) (kk : lx_K X t) : z_V X (lb_C t gX gM) (lb_S t gX gM) w 442 (LL t) [] := by
  have h := hP.1
  have hn := hP.2.2.2.2.1
  obtain ⟨fs, hw⟩ := hK.x
  obtain ⟨fm, hwm⟩ := hK.m
  have hg := hK.g
  have hy : ∀ w1 : z_w, (∀ tt, ¬ dX tt → w1 tt = w tt) → ∀ t, x_E0 X t → w1 t = none := fun w1 q t ht => by
    rw [hP.2.2.2.1 t ht, q sc (show ¬ (999 < 100) by decide)]; exact hK.nosc
  refine z_less (kC' := lb_C (t + 1) gX gM + 0 + 0) (kS' := lb_S (t + 1) gX gM + 0 + 0) (by unfold lb_C; omega) (by unfold lb_S; omega) ?_
  refine z_aload_n h dL_law_442 rfl ?_
  refine l_arg hP ht 1 1 (by decide) (by decide) dL_law_443 dL_law_444 dL_law_445 dL_law_446 dL_law_447 ?_
  refine z_callV h dL_law_448 (l_hx rfl) (fun r w1 q => hy w1 q.1) (k_end (x_G X) hK (xs (6 * t + 1))) ym_X11_end mlL_51 im_X11_end (ci := 11) rfl se_X11_end icX11 rfl hw rfl (by decide) (Nat.le_of_ble_eq_true rfl) ?_
  rintro r1 w1 ⟨e1, hM⟩
  refine z_aload_n h dL_law_451 rfl ?_
  refine l_arg hP ht 1 1 (by decide) (by decide) dL_law_452 dL_law_453 dL_law_454 dL_law_455 dL_law_456 ?_
  refine z_callV h dL_law_457 (l_hx rfl) (fun r w2 q t ht => by rw [hP.2.2.2.1 t ht]; exact q.2.nosc) hM ym_X12_end mlL_54 im_X12_end (ci := 12) rfl se_X12_end icX12 rfl ((e1 (100, 0) (show ¬ (100 < 100) by decide)).trans hwm) rfl (by decide) (l_words r1) ?_
  rintro r2 w2 ⟨⟨v, e2, e3⟩, hK2⟩
  subst e2
  subst e3
  exact z_icmp_eq h dL_law_460 1016 (by decide) (fun _ => kk _ _ _ hK2) (fun z => absurd rfl z)
set_option maxHeartbeats 4000000 in
set_option maxRecDepth 100000 in
theorem lc_9 {X : z_X} {b n : Nat} {xs : Nat → Int32} (hP : lx_P X b n xs) {t gX gM : Nat} {w : z_w} (hK : KS t gX gM w) (ht : 6 * t + 6 ≤ n) (kk : lx_K X t) : z_V X (lb_C t gX gM) (lb_S t gX gM) w 465 (LL t) [] := by
  have h := hP.1
  have hn := hP.2.2.2.2.1
  obtain ⟨fs, hw⟩ := hK.x
  obtain ⟨fm, hwm⟩ := hK.m
  have hg := hK.g
  have hy : ∀ w1 : z_w, (∀ tt, ¬ dX tt → w1 tt = w tt) → ∀ t, x_E0 X t → w1 t = none := fun w1 q t ht => by
    rw [hP.2.2.2.1 t ht, q sc (show ¬ (999 < 100) by decide)]; exact hK.nosc
  refine z_less (kC' := lb_C (t + 1) gX gM + 0 + 0) (kS' := lb_S (t + 1) gX gM + 0 + 0) (by unfold lb_C; omega) (by unfold lb_S; omega) ?_
  refine z_aload_n h dL_law_465 rfl ?_
  refine z_callV h dL_law_466 (l_hx rfl) (fun r w1 q => hy w1 q.1) (k_fault (x_G X) hK) ym_X11_fault mlL_55 im_X11_fault (ci := 11) rfl se_X11_fault icX11 rfl hw rfl (by decide) (Nat.le_of_ble_eq_true rfl) ?_
  rintro r1 w1 ⟨e1, hM⟩
  refine z_aload_n h dL_law_469 rfl ?_
  refine z_callV h dL_law_470 (l_hx rfl) (fun r w2 q t ht => by rw [hP.2.2.2.1 t ht]; exact q.2.nosc) hM ym_X12_fault mlL_58 im_X12_fault (ci := 12) rfl se_X12_fault icX12 rfl ((e1 (100, 0) (show ¬ (100 < 100) by decide)).trans hwm) rfl (by decide) (l_words r1) ?_
  rintro r2 w2 ⟨⟨v, e2, e3⟩, hK2⟩
  subst e2
  subst e3
  exact z_icmp_eq h dL_law_473 1016 (by decide) (fun _ => kk _ _ _ hK2) (fun z => absurd rfl z)
set_option maxHeartbeats 4000000 in
set_option maxRecDepth 100000 in
theorem lc_10 {X : z_X} {b n : Nat} {xs : Nat → Int32} (hP : lx_P X b n xs) {t gX gM : Nat} {w : z_w} (hK : KS t gX gM w) (ht : 6 * t + 6 ≤ n) (kk : lx_K X t) : z_V X (lb_C t gX gM) (lb_S t gX gM) w 478 (LL t) [] := by
  have h := hP.1
  have hn := hP.2.2.2.2.1
  obtain ⟨fs, hw⟩ := hK.x
  obtain ⟨fm, hwm⟩ := hK.m
  have hg := hK.g
  have hy : ∀ w1 : z_w, (∀ tt, ¬ dX tt → w1 tt = w tt) → ∀ t, x_E0 X t → w1 t = none := fun w1 q t ht => by
    rw [hP.2.2.2.1 t ht, q sc (show ¬ (999 < 100) by decide)]; exact hK.nosc
  refine z_less (kC' := lb_C (t + 1) gX gM + 0 + 0) (kS' := lb_S (t + 1) gX gM + 0 + 0) (by unfold lb_C; omega) (by unfold lb_S; omega) ?_
  refine z_aload_n h dL_law_478 rfl ?_
  refine z_callV h dL_law_479 (l_hx rfl) (fun r w1 q => hy w1 q.1) (k_rules (x_G X) hK) ym_X11_rules mlL_59 im_X11_rules (ci := 11) rfl se_X11_rules icX11 rfl hw rfl (by decide) (Nat.le_of_ble_eq_true rfl) ?_
  rintro r1 w1 ⟨e1, hM⟩
  refine z_aload_n h dL_law_482 rfl ?_
  refine z_callV h dL_law_483 (l_hx rfl) (fun r w2 q t ht => by rw [hP.2.2.2.1 t ht]; exact q.2.nosc) hM ym_X12_rules mlL_63 im_X12_rules (ci := 12) rfl se_X12_rules icX12 rfl ((e1 (100, 0) (show ¬ (100 < 100) by decide)).trans hwm) rfl (by decide) (l_words r1) ?_
  rintro r2 w2 ⟨⟨v, e2, e3⟩, hK2⟩
  subst e2
  subst e3
  exact z_icmp_eq h dL_law_486 1016 (by decide) (fun _ => kk _ _ _ hK2) (fun z => absurd rfl z)
set_option maxHeartbeats 4000000 in
set_option maxRecDepth 100000 in
theorem lc_11 {X : z_X} {b n : Nat} {xs : Nat → Int32} (hP : lx_P X b n xs) {t gX gM : Nat} {w : z_w} (hK : KS t gX gM w) (ht : 6 * t + 6 ≤ n) (kk : lx_K X t) : z_V X (lb_C t gX gM) (lb_S t gX gM) w 491 (LL t) [] := by
  have h := hP.1
  have hn := hP.2.2.2.2.1
  obtain ⟨fs, hw⟩ := hK.x
  obtain ⟨fm, hwm⟩ := hK.m
  have hg := hK.g
  have hy : ∀ w1 : z_w, (∀ tt, ¬ dX tt → w1 tt = w tt) → ∀ t, x_E0 X t → w1 t = none := fun w1 q t ht => by
    rw [hP.2.2.2.1 t ht, q sc (show ¬ (999 < 100) by decide)]; exact hK.nosc
  refine z_less (kC' := lb_C (t + 1) gX gM + 0 + 0) (kS' := lb_S (t + 1) gX gM + 0 + 0) (by unfold lb_C; omega) (by unfold lb_S; omega) ?_
  refine z_aload_n h dL_law_491 rfl ?_
  refine l_arg hP ht 1 1 (by decide) (by decide) dL_law_492 dL_law_493 dL_law_494 dL_law_495 dL_law_496 ?_
  refine l_arg hP ht 2 2 (by decide) (by decide) dL_law_497 dL_law_498 dL_law_499 dL_law_500 dL_law_501 ?_
  refine z_callV h dL_law_502 (l_hx rfl) (fun r w1 q => hy w1 q.1) (k_charge (x_G X) hK (by omega) (xs (6 * t + 1)) (xs (6 * t + 2))) ym_X11_charge mlL_64 im_X11_charge (ci := 11) rfl se_X11_charge icX11 rfl hw rfl (by decide) (Nat.le_of_ble_eq_true rfl) ?_
  rintro r1 w1 ⟨e1, hM⟩
  refine z_aload_n h dL_law_505 rfl ?_
  refine l_arg hP ht 1 1 (by decide) (by decide) dL_law_506 dL_law_507 dL_law_508 dL_law_509 dL_law_510 ?_
  refine l_arg hP ht 2 2 (by decide) (by decide) dL_law_511 dL_law_512 dL_law_513 dL_law_514 dL_law_515 ?_
  refine z_callV h dL_law_516 (l_hx rfl) (fun r w2 q t ht => by rw [hP.2.2.2.1 t ht]; exact q.2.nosc) hM ym_X12_charge mlL_68 im_X12_charge (ci := 12) rfl se_X12_charge icX12 rfl ((e1 (100, 0) (show ¬ (100 < 100) by decide)).trans hwm) rfl (by decide) (l_words r1) ?_
  rintro r2 w2 ⟨⟨v, e2, e3⟩, hK2⟩
  subst e2
  subst e3
  exact z_icmp_eq h dL_law_519 1016 (by decide) (fun _ => kk _ _ _ hK2) (fun z => absurd rfl z)
set_option maxHeartbeats 4000000 in
set_option maxRecDepth 100000 in
theorem lc_12 {X : z_X} {b n : Nat} {xs : Nat → Int32} (hP : lx_P X b n xs) {t gX gM : Nat} {w : z_w} (hK : KS t gX gM w) (ht : 6 * t + 6 ≤ n) (kk : lx_K X t) : z_V X (lb_C t gX gM) (lb_S t gX gM) w 524 (LL t) [] := by
  have h := hP.1
  have hn := hP.2.2.2.2.1
  obtain ⟨fs, hw⟩ := hK.x
  obtain ⟨fm, hwm⟩ := hK.m
  have hg := hK.g
  have hy : ∀ w1 : z_w, (∀ tt, ¬ dX tt → w1 tt = w tt) → ∀ t, x_E0 X t → w1 t = none := fun w1 q t ht => by
    rw [hP.2.2.2.1 t ht, q sc (show ¬ (999 < 100) by decide)]; exact hK.nosc
  refine z_less (kC' := lb_C (t + 1) gX gM + 0 + 0) (kS' := lb_S (t + 1) gX gM + 0 + 0) (by unfold lb_C; omega) (by unfold lb_S; omega) ?_
  refine z_aload_n h dL_law_524 rfl ?_
  refine l_arg hP ht 1 1 (by decide) (by decide) dL_law_525 dL_law_526 dL_law_527 dL_law_528 dL_law_529 ?_
  refine z_callV h dL_law_530 (l_hx rfl) (fun r w1 q => hy w1 q.1) (k_blow (x_G X) hK (by omega) (xs (6 * t + 1))) ym_X11_blow mlL_69 im_X11_blow (ci := 11) rfl se_X11_blow icX11 rfl hw rfl (by decide) (Nat.le_of_ble_eq_true rfl) ?_
  rintro r1 w1 ⟨e1, hM⟩
  refine z_aload_n h dL_law_533 rfl ?_
  refine l_arg hP ht 1 1 (by decide) (by decide) dL_law_534 dL_law_535 dL_law_536 dL_law_537 dL_law_538 ?_
  refine z_callV h dL_law_539 (l_hx rfl) (fun r w2 q t ht => by rw [hP.2.2.2.1 t ht]; exact q.2.nosc) hM ym_X12_blow mlL_73 im_X12_blow (ci := 12) rfl se_X12_blow icX12 rfl ((e1 (100, 0) (show ¬ (100 < 100) by decide)).trans hwm) rfl (by decide) (l_words r1) ?_
  rintro r2 w2 ⟨⟨v, e2, e3⟩, hK2⟩
  subst e2
  subst e3
  exact z_icmp_eq h dL_law_542 1016 (by decide) (fun _ => kk _ _ _ hK2) (fun z => absurd rfl z)
set_option maxHeartbeats 4000000 in
set_option maxRecDepth 100000 in
theorem lc_13 {X : z_X} {b n : Nat} {xs : Nat → Int32} (hP : lx_P X b n xs) {t gX gM : Nat} {w : z_w} (hK : KS t gX gM w) (ht : 6 * t + 6 ≤ n) (kk : lx_K X t) : z_V X (lb_C t gX gM) (lb_S t gX gM) w 547 (LL t) [] := by
  have h := hP.1
  have hn := hP.2.2.2.2.1
  obtain ⟨fs, hw⟩ := hK.x
  obtain ⟨fm, hwm⟩ := hK.m
  have hg := hK.g
  have hy : ∀ w1 : z_w, (∀ tt, ¬ dX tt → w1 tt = w tt) → ∀ t, x_E0 X t → w1 t = none := fun w1 q t ht => by
    rw [hP.2.2.2.1 t ht, q sc (show ¬ (999 < 100) by decide)]; exact hK.nosc
  refine z_less (kC' := lb_C (t + 1) gX gM + 0 + 3) (kS' := lb_S (t + 1) gX gM + 0 + 27) (by unfold lb_C; omega) (by unfold lb_S; omega) ?_
  refine z_aload_n h dL_law_547 rfl ?_
  refine z_callV h dL_law_548 (l_hx rfl) (fun r w1 q => hy w1 q.1) (k_draw (x_G X) hK (by omega)) ym_X11_draw mlL_74 im_X11_draw (ci := 11) rfl se_X11_draw icX11 rfl hw rfl (by decide) (Nat.le_of_ble_eq_true rfl) ?_
  rintro r1 w1 ⟨e1, hM⟩
  refine z_aload_n h dL_law_551 rfl ?_
  refine z_callV h dL_law_552 (l_hx rfl) (fun r w2 q t ht => by rw [hP.2.2.2.1 t ht]; exact q.2.nosc) hM ym_X12_draw mlL_77 im_X12_draw (ci := 12) rfl se_X12_draw icX12 rfl ((e1 (100, 0) (show ¬ (100 < 100) by decide)).trans hwm) rfl (by decide) (l_words r1) ?_
  rintro r2 w2 ⟨⟨v, e2, e3⟩, hK2⟩
  subst e2
  subst e3
  exact z_icmp_eq h dL_law_555 1016 (by decide) (fun _ => kk _ _ _ hK2) (fun z => absurd rfl z)
set_option maxHeartbeats 4000000 in
set_option maxRecDepth 100000 in
theorem lc_14 {X : z_X} {b n : Nat} {xs : Nat → Int32} (hP : lx_P X b n xs) {t gX gM : Nat} {w : z_w} (hK : KS t gX gM w) (ht : 6 * t + 6 ≤ n) (kk : lx_K X t) : z_V X (lb_C t gX gM) (lb_S t gX gM) w 560 (LL t) [] := by
  have h := hP.1
  have hn := hP.2.2.2.2.1
  obtain ⟨fs, hw⟩ := hK.x
  obtain ⟨fm, hwm⟩ := hK.m
  have hg := hK.g
  have hy : ∀ w1 : z_w, (∀ tt, ¬ dX tt → w1 tt = w tt) → ∀ t, x_E0 X t → w1 t = none := fun w1 q t ht => by
    rw [hP.2.2.2.1 t ht, q sc (show ¬ (999 < 100) by decide)]; exact hK.nosc
  refine z_less (kC' := lb_C (t + 1) gX gM + 0 + 0) (kS' := lb_S (t + 1) gX gM + 0 + 0) (by unfold lb_C; omega) (by unfold lb_S; omega) ?_
  refine z_aload_n h dL_law_560 rfl ?_
  refine l_arg hP ht 1 1 (by decide) (by decide) dL_law_561 dL_law_562 dL_law_563 dL_law_564 dL_law_565 ?_
  refine z_callV h dL_law_566 (l_hx rfl) (fun r w1 q => hy w1 q.1) (k_furnace (x_G X) hK (xs (6 * t + 1))) ym_X11_furnace mlL_78 im_X11_furnace (ci := 11) rfl se_X11_furnace icX11 rfl hw rfl (by decide) (Nat.le_of_ble_eq_true rfl) ?_
  rintro r1 w1 ⟨e1, hM⟩
  refine z_aload_n h dL_law_569 rfl ?_
  refine l_arg hP ht 1 1 (by decide) (by decide) dL_law_570 dL_law_571 dL_law_572 dL_law_573 dL_law_574 ?_
  refine z_callV h dL_law_575 (l_hx rfl) (fun r w2 q t ht => by rw [hP.2.2.2.1 t ht]; exact q.2.nosc) hM ym_X12_furnace mlL_81 im_X12_furnace (ci := 12) rfl se_X12_furnace icX12 rfl ((e1 (100, 0) (show ¬ (100 < 100) by decide)).trans hwm) rfl (by decide) (l_words r1) ?_
  rintro r2 w2 ⟨⟨v, e2, e3⟩, hK2⟩
  subst e2
  subst e3
  exact z_icmp_eq h dL_law_578 1016 (by decide) (fun _ => kk _ _ _ hK2) (fun z => absurd rfl z)
