/-! the law's loop -/
abbrev lK (nm : String) : m_K := (RL, cL_law, 7, ret, nm, 0, 0, 0)
abbrev lvL (i : Nat) : List (Nat × Value) := [(4, .int (nI i)), (3, .ref 239), (2, .ref 218), (1, .ref 0), (0, .ref 1300000)]
/-- what holds all along the law -/
def lC (g : g_C) (L : Nat) (xs : Nat → Int32) (nm : String) : Prop := gC (lK nm) g ∧ (g_l g).stackTraces = false ∧ g_R g = room_1 ∧ xKK (g_G g) (g_s g) ∧ va_X ((g_G g).2.2.2 1300000) L xs (g_s g) (g_s g).heap ∧ (g_G g).2.2.2 1300000 < (g_s g).heap.size ∧ (g_G g).2.2.2 1300000 < (g_G g).1 ∧ L ≤ 3072 ∧ ∀ (z : Nat × Nat) (lv : List (Nat × Value)) (h : m_H), z.1 ≤ 601024 → z.2 ≤ 7293034 → GW (lK nm) g 1465 z lv [] h
section LL
variable {g : g_C} {L : Nat} {xs : Nat → Int32} {nm : String} {i : Nat} {X : X_}
theorem l_z (hL : lC g L xs nm) (hi : i + 6 ≤ L) : 240 + i ≤ (g_R g).cells ∧ 9924 + 6 * i ≤ (g_R g).slots := by
  have h := hL.2.2.2.2.2.2.2.1
  rw [hL.2.2.1]
  refine ⟨?_, ?_⟩
  · show 240 + i ≤ 601024; omega
  · show 9924 + 6 * i ≤ 7293034; omega
theorem l_z1 (hL : lC g L xs nm) (hi : i + 6 ≤ L) : 240 + i + 1 ≤ (g_R g).cells ∧ 9924 + 6 * i + 6 ≤ (g_R g).slots := by
  have h := hL.2.2.2.2.2.2.2.1
  rw [hL.2.2.1]
  refine ⟨?_, ?_⟩
  · show 240 + i + 1 ≤ 601024; omega
  · show 9924 + 6 * i + 6 ≤ 7293034; omega
theorem l_end (hL : lC g L xs nm) {z : Nat × Nat} (h1 : z.1 ≤ 240 + (i + 6)) (h2 : z.2 ≤ 9924 + 6 * (i + 6)) (ih : GW (lK nm) g 23 (240 + (i + 6), 9924 + 6 * (i + 6)) (lvL (i + 6)) [] (m_w qL X)) : GW (lK nm) g 1459 z (lvL i) [] (m_w qL X) := by
  have hC := hL.1
  refine gw_widen (z' := (240 + (i + 6), 9924 + 6 * (i + 6))) h1 h2 ?_
  refine gw_iinc hC 0 (nI (i + 6)) (lvL (i + 6)) dL_law_1459 rfl (nI_add i 6) (Nat.le_of_ble_eq_true rfl) rfl ?_
  exact gw_goto (tgt := 23) hC dL_law_1462 (by decide) ih
theorem l_arg (hL : lC g L xs nm) {pc j0 j4 : Nat} {z : Nat × Nat} {lv : List (Nat × Value)} {st : List Value} {h : m_H} (k : Nat) {kI : Int} (d1 : decode cL_law pc = .ok (.aload_n 0, 1)) (h0 : lv[j0]? = some (0, .ref 1300000)) (d2 : decode cL_law (pc + 1) = .ok (.iload 4, 2)) (h4 : lv[j4]? = some (4, .int (nI i))) (d3 : decode cL_law (pc + 3) = .ok (.iconst kI, 1)) (hk : Int32.ofInt kI = nI k) (d4 : decode cL_law (pc + 4) = .ok (.iadd, 1)) (d5 : decode cL_law (pc + 5) = .ok (.iaload, 1)) (hi : i + k < L)
    (kk : GW (lK nm) g (pc + 6) z lv (.int (xs (i + k)) :: st) h) : GW (lK nm) g pc z lv st h := by
  have hC := hL.1
  have hl := hL.2.2.2.2.2.2.2.1
  refine gw_aload_n hC j0 d1 h0 ?_
  refine gw_iload hC j4 d2 h4 ?_
  refine gw_iconst hC (v := nI k) d3 hk ?_
  refine gw_iadd hC d4 ?_
  refine gw_top (nI_add i k) ?_
  exact gw_sld hC (i + k) (by decide) hL.2.2.2.2.1 hL.2.2.2.2.2.1 hL.2.2.2.2.2.2.1 hi (by omega) rfl d5 kk
theorem qL_9 : s_A qL 239 1 1 := ⟨by decide +kernel, by decide +kernel⟩
set_option maxRecDepth 100000 in
theorem l_c0 (hL : lC g L xs nm) (hX : Inv X) (hi : i + 6 ≤ L) (ih : ∀ X', Inv X' → GW (lK nm) g 23 (240 + (i + 6), 9924 + 6 * (i + 6)) (lvL (i + 6)) [] (m_w qL X')) : GW (lK nm) g 236 (240 + i, 9924 + 6 * i) (lvL i) [] (m_w qL X) := by
  have hC := hL.1
  obtain ⟨v, X1, X2, e1, e2, i2⟩ := sim_feed (xs (i + 1)) (xs (i + 2)) (xs (i + 3)) (xs (i + 4)) (xs (i + 5)) X hX
  refine gw_aload_n hC 3 dL_law_236 rfl ?_
  refine l_arg hL (j0 := 4) (j4 := 0) 1 dL_law_237 rfl dL_law_238 rfl dL_law_240 rfl dL_law_241 dL_law_242 (by omega) ?_
  refine l_arg hL (j0 := 4) (j4 := 0) 2 dL_law_243 rfl dL_law_244 rfl dL_law_246 rfl dL_law_247 dL_law_248 (by omega) ?_
  refine l_arg hL (j0 := 4) (j4 := 0) 3 dL_law_249 rfl dL_law_250 rfl dL_law_252 rfl dL_law_253 dL_law_254 (by omega) ?_
  refine l_arg hL (j0 := 4) (j4 := 0) 4 dL_law_255 rfl dL_law_256 rfl dL_law_258 rfl dL_law_259 dL_law_260 (by omega) ?_
  refine l_arg hL (j0 := 4) (j4 := 0) 5 dL_law_261 rfl dL_law_262 rfl dL_law_264 rfl dL_law_265 dL_law_266 (by omega) ?_
  refine gw_cVi (q := qL) (X' := X1) (v := v) (rest := []) hC [.int (xs (i + 1)), .int (xs (i + 2)), .int (xs (i + 3)), .int (xs (i + 4)), .int (xs (i + 5))] (aX11_feed 0 qL qL_W (xs (i + 1)) (xs (i + 2)) (xs (i + 3)) (xs (i + 4)) (xs (i + 5)) X v X1 e1) mY_X11_feed dL_law_267 ml_L_23 (lf_o (S := qL) qL_LF) (by rw [hL.2.2.1]; exact ⟨Nat.le_of_ble_eq_true rfl, Nat.le_of_ble_eq_true rfl⟩) rfl (Nat.le_of_ble_eq_true rfl) (l_z hL hi) rfl ?_
  refine gw_aload_n hC 2 dL_law_270 rfl ?_
  refine l_arg hL (j0 := 4) (j4 := 0) 1 dL_law_271 rfl dL_law_272 rfl dL_law_274 rfl dL_law_275 dL_law_276 (by omega) ?_
  refine l_arg hL (j0 := 4) (j4 := 0) 2 dL_law_277 rfl dL_law_278 rfl dL_law_280 rfl dL_law_281 dL_law_282 (by omega) ?_
  refine l_arg hL (j0 := 4) (j4 := 0) 3 dL_law_283 rfl dL_law_284 rfl dL_law_286 rfl dL_law_287 dL_law_288 (by omega) ?_
  refine l_arg hL (j0 := 4) (j4 := 0) 4 dL_law_289 rfl dL_law_290 rfl dL_law_292 rfl dL_law_293 dL_law_294 (by omega) ?_
  refine l_arg hL (j0 := 4) (j4 := 0) 5 dL_law_295 rfl dL_law_296 rfl dL_law_298 rfl dL_law_299 dL_law_300 (by omega) ?_
  refine gw_cVi (q := qL) (X' := X2) (v := v) (rest := [.int v]) hC [.int (xs (i + 1)), .int (xs (i + 2)), .int (xs (i + 3)), .int (xs (i + 4)), .int (xs (i + 5))] (aX12_feed 0 qL qL_M (xs (i + 1)) (xs (i + 2)) (xs (i + 3)) (xs (i + 4)) (xs (i + 5)) X1 v X2 e2) mY_X12_feed dL_law_301 ml_L_27 (mo_o (S := qL) qL_M) (by rw [hL.2.2.1]; exact ⟨Nat.le_of_ble_eq_true rfl, Nat.le_of_ble_eq_true rfl⟩) rfl (Nat.le_of_ble_eq_true rfl) (l_z hL hi) rfl ?_
  refine gw_icmp_eq (tgt := 1459) hC dL_law_304 (by decide) (fun _ => ?_) (fun q => absurd rfl q)
  exact l_end hL (by show 240 + i ≤ _; omega) (by show 9924 + 6 * i ≤ _; omega) (ih X2 i2)
set_option maxRecDepth 100000 in
theorem l_c1 (hL : lC g L xs nm) (hX : Inv X) (hi : i + 6 ≤ L) (ih : ∀ X', Inv X' → GW (lK nm) g 23 (240 + (i + 6), 9924 + 6 * (i + 6)) (lvL (i + 6)) [] (m_w qL X')) : GW (lK nm) g 309 (240 + i, 9924 + 6 * i) (lvL i) [] (m_w qL X) := by
  have hC := hL.1
  obtain ⟨v, X1, X2, e1, e2, i2⟩ := sim_end (xs (i + 1)) X hX
  refine gw_aload_n hC 3 dL_law_309 rfl ?_
  refine l_arg hL (j0 := 4) (j4 := 0) 1 dL_law_310 rfl dL_law_311 rfl dL_law_313 rfl dL_law_314 dL_law_315 (by omega) ?_
  refine gw_cVi (q := qL) (X' := X1) (v := v) (rest := []) hC [.int (xs (i + 1))] (aX11_end 0 qL qL_W (xs (i + 1)) X v X1 e1) mY_X11_end dL_law_316 ml_L_28 (lf_o (S := qL) qL_LF) (by rw [hL.2.2.1]; exact ⟨Nat.le_of_ble_eq_true rfl, Nat.le_of_ble_eq_true rfl⟩) rfl (Nat.le_of_ble_eq_true rfl) (l_z hL hi) rfl ?_
  refine gw_aload_n hC 2 dL_law_319 rfl ?_
  refine l_arg hL (j0 := 4) (j4 := 0) 1 dL_law_320 rfl dL_law_321 rfl dL_law_323 rfl dL_law_324 dL_law_325 (by omega) ?_
  refine gw_cVi (q := qL) (X' := X2) (v := v) (rest := [.int v]) hC [.int (xs (i + 1))] (aX12_end 0 qL qL_M (xs (i + 1)) X1 v X2 e2) mY_X12_end dL_law_326 ml_L_32 (mo_o (S := qL) qL_M) (by rw [hL.2.2.1]; exact ⟨Nat.le_of_ble_eq_true rfl, Nat.le_of_ble_eq_true rfl⟩) rfl (Nat.le_of_ble_eq_true rfl) (l_z hL hi) rfl ?_
  refine gw_icmp_eq (tgt := 1459) hC dL_law_329 (by decide) (fun _ => ?_) (fun q => absurd rfl q)
  exact l_end hL (by show 240 + i ≤ _; omega) (by show 9924 + 6 * i ≤ _; omega) (ih X2 i2)
set_option maxRecDepth 100000 in
theorem l_c2 (hL : lC g L xs nm) (hX : Inv X) (hi : i + 6 ≤ L) (ih : ∀ X', Inv X' → GW (lK nm) g 23 (240 + (i + 6), 9924 + 6 * (i + 6)) (lvL (i + 6)) [] (m_w qL X')) : GW (lK nm) g 334 (240 + i, 9924 + 6 * i) (lvL i) [] (m_w qL X) := by
  have hC := hL.1
  obtain ⟨v, X1, X2, e1, e2, i2⟩ := sim_layout X hX
  refine gw_aload_n hC 3 dL_law_334 rfl ?_
  refine gw_cVi (q := qL) (X' := X1) (v := v) (rest := []) hC [] (aX11_layout 0 qL qL_W X v X1 e1) mY_X11_layout dL_law_335 ml_L_33 (lf_o (S := qL) qL_LF) (by rw [hL.2.2.1]; exact ⟨Nat.le_of_ble_eq_true rfl, Nat.le_of_ble_eq_true rfl⟩) rfl (Nat.le_of_ble_eq_true rfl) (l_z hL hi) rfl ?_
  refine gw_aload_n hC 2 dL_law_338 rfl ?_
  refine gw_cVi (q := qL) (X' := X2) (v := v) (rest := [.int v]) hC [] (aX12_layout 0 qL qL_M X1 v X2 e2) mY_X12_layout dL_law_339 ml_L_37 (mo_o (S := qL) qL_M) (by rw [hL.2.2.1]; exact ⟨Nat.le_of_ble_eq_true rfl, Nat.le_of_ble_eq_true rfl⟩) rfl (Nat.le_of_ble_eq_true rfl) (l_z hL hi) rfl ?_
  refine gw_icmp_eq (tgt := 1459) hC dL_law_342 (by decide) (fun _ => ?_) (fun q => absurd rfl q)
  exact l_end hL (by show 240 + i ≤ _; omega) (by show 9924 + 6 * i ≤ _; omega) (ih X2 i2)
set_option maxRecDepth 100000 in
theorem l_c3 (hL : lC g L xs nm) (hX : Inv X) (hi : i + 6 ≤ L) (ih : ∀ X', Inv X' → GW (lK nm) g 23 (240 + (i + 6), 9924 + 6 * (i + 6)) (lvL (i + 6)) [] (m_w qL X')) : GW (lK nm) g 347 (240 + i, 9924 + 6 * i) (lvL i) [] (m_w qL X) := by
  have hC := hL.1
  obtain ⟨v, X1, X2, e1, e2, i2⟩ := sim_fault X hX
  refine gw_aload_n hC 3 dL_law_347 rfl ?_
  refine gw_cVi (q := qL) (X' := X1) (v := v) (rest := []) hC [] (aX11_fault 0 qL qL_W X v X1 e1) mY_X11_fault dL_law_348 ml_L_38 (lf_o (S := qL) qL_LF) (by rw [hL.2.2.1]; exact ⟨Nat.le_of_ble_eq_true rfl, Nat.le_of_ble_eq_true rfl⟩) rfl (Nat.le_of_ble_eq_true rfl) (l_z hL hi) rfl ?_
  refine gw_aload_n hC 2 dL_law_351 rfl ?_
  refine gw_cVi (q := qL) (X' := X2) (v := v) (rest := [.int v]) hC [] (aX12_fault 0 qL qL_M X1 v X2 e2) mY_X12_fault dL_law_352 ml_L_41 (mo_o (S := qL) qL_M) (by rw [hL.2.2.1]; exact ⟨Nat.le_of_ble_eq_true rfl, Nat.le_of_ble_eq_true rfl⟩) rfl (Nat.le_of_ble_eq_true rfl) (l_z hL hi) rfl ?_
  refine gw_icmp_eq (tgt := 1459) hC dL_law_355 (by decide) (fun _ => ?_) (fun q => absurd rfl q)
  exact l_end hL (by show 240 + i ≤ _; omega) (by show 9924 + 6 * i ≤ _; omega) (ih X2 i2)
set_option maxRecDepth 100000 in
theorem l_c4 (hL : lC g L xs nm) (hX : Inv X) (hi : i + 6 ≤ L) (ih : ∀ X', Inv X' → GW (lK nm) g 23 (240 + (i + 6), 9924 + 6 * (i + 6)) (lvL (i + 6)) [] (m_w qL X')) : GW (lK nm) g 360 (240 + i, 9924 + 6 * i) (lvL i) [] (m_w qL X) := by
  have hC := hL.1
  obtain ⟨v, X1, X2, e1, e2, i2⟩ := sim_section (xs (i + 1)) (xs (i + 2)) X hX
  refine gw_aload_n hC 3 dL_law_360 rfl ?_
  refine l_arg hL (j0 := 4) (j4 := 0) 1 dL_law_361 rfl dL_law_362 rfl dL_law_364 rfl dL_law_365 dL_law_366 (by omega) ?_
  refine l_arg hL (j0 := 4) (j4 := 0) 2 dL_law_367 rfl dL_law_368 rfl dL_law_370 rfl dL_law_371 dL_law_372 (by omega) ?_
  refine gw_cVi (q := qL) (X' := X1) (v := v) (rest := []) hC [.int (xs (i + 1)), .int (xs (i + 2))] (aX11_section 0 qL qL_W (xs (i + 1)) (xs (i + 2)) X v X1 e1) mY_X11_section dL_law_373 ml_L_42 (lf_o (S := qL) qL_LF) (by rw [hL.2.2.1]; exact ⟨Nat.le_of_ble_eq_true rfl, Nat.le_of_ble_eq_true rfl⟩) rfl (Nat.le_of_ble_eq_true rfl) (l_z hL hi) rfl ?_
  refine gw_aload_n hC 2 dL_law_376 rfl ?_
  refine l_arg hL (j0 := 4) (j4 := 0) 1 dL_law_377 rfl dL_law_378 rfl dL_law_380 rfl dL_law_381 dL_law_382 (by omega) ?_
  refine l_arg hL (j0 := 4) (j4 := 0) 2 dL_law_383 rfl dL_law_384 rfl dL_law_386 rfl dL_law_387 dL_law_388 (by omega) ?_
  refine gw_cVi (q := qL) (X' := X2) (v := v) (rest := [.int v]) hC [.int (xs (i + 1)), .int (xs (i + 2))] (aX12_section 0 qL qL_M (xs (i + 1)) (xs (i + 2)) X1 v X2 e2) mY_X12_section dL_law_389 ml_L_45 (mo_o (S := qL) qL_M) (by rw [hL.2.2.1]; exact ⟨Nat.le_of_ble_eq_true rfl, Nat.le_of_ble_eq_true rfl⟩) rfl (Nat.le_of_ble_eq_true rfl) (l_z hL hi) rfl ?_
  refine gw_icmp_eq (tgt := 1459) hC dL_law_392 (by decide) (fun _ => ?_) (fun q => absurd rfl q)
  exact l_end hL (by show 240 + i ≤ _; omega) (by show 9924 + 6 * i ≤ _; omega) (ih X2 i2)
set_option maxRecDepth 100000 in
theorem l_c5 (hL : lC g L xs nm) (hX : Inv X) (hi : i + 6 ≤ L) (ih : ∀ X', Inv X' → GW (lK nm) g 23 (240 + (i + 6), 9924 + 6 * (i + 6)) (lvL (i + 6)) [] (m_w qL X')) : GW (lK nm) g 397 (240 + i, 9924 + 6 * i) (lvL i) [] (m_w qL X) := by
  have hC := hL.1
  obtain ⟨v, X1, X2, e1, e2, i2⟩ := sim_points (xs (i + 1)) (xs (i + 2)) X hX
  refine gw_aload_n hC 3 dL_law_397 rfl ?_
  refine l_arg hL (j0 := 4) (j4 := 0) 1 dL_law_398 rfl dL_law_399 rfl dL_law_401 rfl dL_law_402 dL_law_403 (by omega) ?_
  refine l_arg hL (j0 := 4) (j4 := 0) 2 dL_law_404 rfl dL_law_405 rfl dL_law_407 rfl dL_law_408 dL_law_409 (by omega) ?_
  refine gw_cVi (q := qL) (X' := X1) (v := v) (rest := []) hC [.int (xs (i + 1)), .int (xs (i + 2))] (aX11_points 0 qL qL_W (xs (i + 1)) (xs (i + 2)) X v X1 e1) mY_X11_points dL_law_410 ml_L_46 (lf_o (S := qL) qL_LF) (by rw [hL.2.2.1]; exact ⟨Nat.le_of_ble_eq_true rfl, Nat.le_of_ble_eq_true rfl⟩) rfl (Nat.le_of_ble_eq_true rfl) (l_z hL hi) rfl ?_
  refine gw_aload_n hC 2 dL_law_413 rfl ?_
  refine l_arg hL (j0 := 4) (j4 := 0) 1 dL_law_414 rfl dL_law_415 rfl dL_law_417 rfl dL_law_418 dL_law_419 (by omega) ?_
  refine l_arg hL (j0 := 4) (j4 := 0) 2 dL_law_420 rfl dL_law_421 rfl dL_law_423 rfl dL_law_424 dL_law_425 (by omega) ?_
  refine gw_cVi (q := qL) (X' := X2) (v := v) (rest := [.int v]) hC [.int (xs (i + 1)), .int (xs (i + 2))] (aX12_points 0 qL qL_M (xs (i + 1)) (xs (i + 2)) X1 v X2 e2) mY_X12_points dL_law_426 ml_L_49 (mo_o (S := qL) qL_M) (by rw [hL.2.2.1]; exact ⟨Nat.le_of_ble_eq_true rfl, Nat.le_of_ble_eq_true rfl⟩) rfl (Nat.le_of_ble_eq_true rfl) (l_z hL hi) rfl ?_
  refine gw_icmp_eq (tgt := 1459) hC dL_law_429 (by decide) (fun _ => ?_) (fun q => absurd rfl q)
  exact l_end hL (by show 240 + i ≤ _; omega) (by show 9924 + 6 * i ≤ _; omega) (ih X2 i2)
set_option maxRecDepth 100000 in
theorem l_c6 (hL : lC g L xs nm) (hX : Inv X) (hi : i + 6 ≤ L) (ih : ∀ X', Inv X' → GW (lK nm) g 23 (240 + (i + 6), 9924 + 6 * (i + 6)) (lvL (i + 6)) [] (m_w qL X')) : GW (lK nm) g 434 (240 + i, 9924 + 6 * i) (lvL i) [] (m_w qL X) := by
  have hC := hL.1
  obtain ⟨v, X1, X2, e1, e2, i2⟩ := sim_signal (xs (i + 1)) (xs (i + 2)) X hX
  refine gw_aload_n hC 3 dL_law_434 rfl ?_
  refine l_arg hL (j0 := 4) (j4 := 0) 1 dL_law_435 rfl dL_law_436 rfl dL_law_438 rfl dL_law_439 dL_law_440 (by omega) ?_
  refine l_arg hL (j0 := 4) (j4 := 0) 2 dL_law_441 rfl dL_law_442 rfl dL_law_444 rfl dL_law_445 dL_law_446 (by omega) ?_
  refine gw_cVi (q := qL) (X' := X1) (v := v) (rest := []) hC [.int (xs (i + 1)), .int (xs (i + 2))] (aX11_signal 0 qL qL_W (xs (i + 1)) (xs (i + 2)) X v X1 e1) mY_X11_signal dL_law_447 ml_L_50 (lf_o (S := qL) qL_LF) (by rw [hL.2.2.1]; exact ⟨Nat.le_of_ble_eq_true rfl, Nat.le_of_ble_eq_true rfl⟩) rfl (Nat.le_of_ble_eq_true rfl) (l_z hL hi) rfl ?_
  refine gw_aload_n hC 2 dL_law_450 rfl ?_
  refine l_arg hL (j0 := 4) (j4 := 0) 1 dL_law_451 rfl dL_law_452 rfl dL_law_454 rfl dL_law_455 dL_law_456 (by omega) ?_
  refine l_arg hL (j0 := 4) (j4 := 0) 2 dL_law_457 rfl dL_law_458 rfl dL_law_460 rfl dL_law_461 dL_law_462 (by omega) ?_
  refine gw_cVi (q := qL) (X' := X2) (v := v) (rest := [.int v]) hC [.int (xs (i + 1)), .int (xs (i + 2))] (aX12_signal 0 qL qL_M (xs (i + 1)) (xs (i + 2)) X1 v X2 e2) mY_X12_signal dL_law_463 ml_L_53 (mo_o (S := qL) qL_M) (by rw [hL.2.2.1]; exact ⟨Nat.le_of_ble_eq_true rfl, Nat.le_of_ble_eq_true rfl⟩) rfl (Nat.le_of_ble_eq_true rfl) (l_z hL hi) rfl ?_
  refine gw_icmp_eq (tgt := 1459) hC dL_law_466 (by decide) (fun _ => ?_) (fun q => absurd rfl q)
  exact l_end hL (by show 240 + i ≤ _; omega) (by show 9924 + 6 * i ≤ _; omega) (ih X2 i2)
set_option maxRecDepth 100000 in
theorem l_c7 (hL : lC g L xs nm) (hX : Inv X) (hi : i + 6 ≤ L) (ih : ∀ X', Inv X' → GW (lK nm) g 23 (240 + (i + 6), 9924 + 6 * (i + 6)) (lvL (i + 6)) [] (m_w qL X')) : GW (lK nm) g 471 (240 + i, 9924 + 6 * i) (lvL i) [] (m_w qL X) := by
  have hC := hL.1
  obtain ⟨v, X1, X2, e1, e2, i2⟩ := sim_route (xs (i + 1)) (xs (i + 2)) X hX
  refine gw_aload_n hC 3 dL_law_471 rfl ?_
  refine l_arg hL (j0 := 4) (j4 := 0) 1 dL_law_472 rfl dL_law_473 rfl dL_law_475 rfl dL_law_476 dL_law_477 (by omega) ?_
  refine l_arg hL (j0 := 4) (j4 := 0) 2 dL_law_478 rfl dL_law_479 rfl dL_law_481 rfl dL_law_482 dL_law_483 (by omega) ?_
  refine gw_cVi (q := qL) (X' := X1) (v := v) (rest := []) hC [.int (xs (i + 1)), .int (xs (i + 2))] (aX11_route 0 qL qL_W (xs (i + 1)) (xs (i + 2)) X v X1 e1) mY_X11_route dL_law_484 ml_L_54 (lf_o (S := qL) qL_LF) (by rw [hL.2.2.1]; exact ⟨Nat.le_of_ble_eq_true rfl, Nat.le_of_ble_eq_true rfl⟩) rfl (Nat.le_of_ble_eq_true rfl) (l_z hL hi) rfl ?_
  refine gw_aload_n hC 2 dL_law_487 rfl ?_
  refine l_arg hL (j0 := 4) (j4 := 0) 1 dL_law_488 rfl dL_law_489 rfl dL_law_491 rfl dL_law_492 dL_law_493 (by omega) ?_
  refine l_arg hL (j0 := 4) (j4 := 0) 2 dL_law_494 rfl dL_law_495 rfl dL_law_497 rfl dL_law_498 dL_law_499 (by omega) ?_
  refine gw_cVi (q := qL) (X' := X2) (v := v) (rest := [.int v]) hC [.int (xs (i + 1)), .int (xs (i + 2))] (aX12_route 0 qL qL_M (xs (i + 1)) (xs (i + 2)) X1 v X2 e2) mY_X12_route dL_law_500 ml_L_57 (mo_o (S := qL) qL_M) (by rw [hL.2.2.1]; exact ⟨Nat.le_of_ble_eq_true rfl, Nat.le_of_ble_eq_true rfl⟩) rfl (Nat.le_of_ble_eq_true rfl) (l_z hL hi) rfl ?_
  refine gw_icmp_eq (tgt := 1459) hC dL_law_503 (by decide) (fun _ => ?_) (fun q => absurd rfl q)
  exact l_end hL (by show 240 + i ≤ _; omega) (by show 9924 + 6 * i ≤ _; omega) (ih X2 i2)
set_option maxRecDepth 100000 in
theorem l_c8 (hL : lC g L xs nm) (hX : Inv X) (hi : i + 6 ≤ L) (ih : ∀ X', Inv X' → GW (lK nm) g 23 (240 + (i + 6), 9924 + 6 * (i + 6)) (lvL (i + 6)) [] (m_w qL X')) : GW (lK nm) g 508 (240 + i, 9924 + 6 * i) (lvL i) [] (m_w qL X) := by
  have hC := hL.1
  obtain ⟨v, X1, X2, e1, e2, i2⟩ := sim_over (xs (i + 1)) (xs (i + 2)) X hX
  refine gw_aload_n hC 3 dL_law_508 rfl ?_
  refine l_arg hL (j0 := 4) (j4 := 0) 1 dL_law_509 rfl dL_law_510 rfl dL_law_512 rfl dL_law_513 dL_law_514 (by omega) ?_
  refine l_arg hL (j0 := 4) (j4 := 0) 2 dL_law_515 rfl dL_law_516 rfl dL_law_518 rfl dL_law_519 dL_law_520 (by omega) ?_
  refine gw_cVi (q := qL) (X' := X1) (v := v) (rest := []) hC [.int (xs (i + 1)), .int (xs (i + 2))] (aX11_over 0 qL qL_W (xs (i + 1)) (xs (i + 2)) X v X1 e1) mY_X11_over dL_law_521 ml_L_58 (lf_o (S := qL) qL_LF) (by rw [hL.2.2.1]; exact ⟨Nat.le_of_ble_eq_true rfl, Nat.le_of_ble_eq_true rfl⟩) rfl (Nat.le_of_ble_eq_true rfl) (l_z hL hi) rfl ?_
  refine gw_aload_n hC 2 dL_law_524 rfl ?_
  refine l_arg hL (j0 := 4) (j4 := 0) 1 dL_law_525 rfl dL_law_526 rfl dL_law_528 rfl dL_law_529 dL_law_530 (by omega) ?_
  refine l_arg hL (j0 := 4) (j4 := 0) 2 dL_law_531 rfl dL_law_532 rfl dL_law_534 rfl dL_law_535 dL_law_536 (by omega) ?_
  refine gw_cVi (q := qL) (X' := X2) (v := v) (rest := [.int v]) hC [.int (xs (i + 1)), .int (xs (i + 2))] (aX12_over 0 qL qL_M (xs (i + 1)) (xs (i + 2)) X1 v X2 e2) mY_X12_over dL_law_537 ml_L_61 (mo_o (S := qL) qL_M) (by rw [hL.2.2.1]; exact ⟨Nat.le_of_ble_eq_true rfl, Nat.le_of_ble_eq_true rfl⟩) rfl (Nat.le_of_ble_eq_true rfl) (l_z hL hi) rfl ?_
  refine gw_icmp_eq (tgt := 1459) hC dL_law_540 (by decide) (fun _ => ?_) (fun q => absurd rfl q)
  exact l_end hL (by show 240 + i ≤ _; omega) (by show 9924 + 6 * i ≤ _; omega) (ih X2 i2)
set_option maxRecDepth 100000 in
theorem l_c10 (hL : lC g L xs nm) (hX : Inv X) (hi : i + 6 ≤ L) (ih : ∀ X', Inv X' → GW (lK nm) g 23 (240 + (i + 6), 9924 + 6 * (i + 6)) (lvL (i + 6)) [] (m_w qL X')) : GW (lK nm) g 613 (240 + i, 9924 + 6 * i) (lvL i) [] (m_w qL X) := by
  have hC := hL.1
  obtain ⟨v, X1, X2, e1, e2, i2⟩ := sim_now (xs (i + 1)) X hX
  refine gw_aload_n hC 3 dL_law_613 rfl ?_
  refine l_arg hL (j0 := 4) (j4 := 0) 1 dL_law_614 rfl dL_law_615 rfl dL_law_617 rfl dL_law_618 dL_law_619 (by omega) ?_
  refine gw_cVi (q := qL) (X' := X1) (v := v) (rest := []) hC [.int (xs (i + 1))] (aX11_now 0 qL qL_W (xs (i + 1)) X v X1 e1) mY_X11_now dL_law_620 ml_L_71 (lf_o (S := qL) qL_LF) (by rw [hL.2.2.1]; exact ⟨Nat.le_of_ble_eq_true rfl, Nat.le_of_ble_eq_true rfl⟩) rfl (Nat.le_of_ble_eq_true rfl) (l_z hL hi) rfl ?_
  refine gw_aload_n hC 2 dL_law_623 rfl ?_
  refine l_arg hL (j0 := 4) (j4 := 0) 1 dL_law_624 rfl dL_law_625 rfl dL_law_627 rfl dL_law_628 dL_law_629 (by omega) ?_
  refine gw_cVi (q := qL) (X' := X2) (v := v) (rest := [.int v]) hC [.int (xs (i + 1))] (aX12_now 0 qL qL_M (xs (i + 1)) X1 v X2 e2) mY_X12_now dL_law_630 ml_L_74 (mo_o (S := qL) qL_M) (by rw [hL.2.2.1]; exact ⟨Nat.le_of_ble_eq_true rfl, Nat.le_of_ble_eq_true rfl⟩) rfl (Nat.le_of_ble_eq_true rfl) (l_z hL hi) rfl ?_
  refine gw_icmp_eq (tgt := 1459) hC dL_law_633 (by decide) (fun _ => ?_) (fun q => absurd rfl q)
  exact l_end hL (by show 240 + i ≤ _; omega) (by show 9924 + 6 * i ≤ _; omega) (ih X2 i2)
set_option maxRecDepth 100000 in
theorem l_c11 (hL : lC g L xs nm) (hX : Inv X) (hi : i + 6 ≤ L) (ih : ∀ X', Inv X' → GW (lK nm) g 23 (240 + (i + 6), 9924 + 6 * (i + 6)) (lvL (i + 6)) [] (m_w qL X')) : GW (lK nm) g 638 (240 + i, 9924 + 6 * i) (lvL i) [] (m_w qL X) := by
  have hC := hL.1
  obtain ⟨v, X1, X2, e1, e2, i2⟩ := sim_set (xs (i + 1)) X hX
  refine gw_aload_n hC 3 dL_law_638 rfl ?_
  refine l_arg hL (j0 := 4) (j4 := 0) 1 dL_law_639 rfl dL_law_640 rfl dL_law_642 rfl dL_law_643 dL_law_644 (by omega) ?_
  refine gw_cVi (q := qL) (X' := X1) (v := v) (rest := []) hC [.int (xs (i + 1))] (aX11_set 0 qL qL_W (xs (i + 1)) X v X1 e1) mY_X11_set dL_law_645 ml_L_75 (lf_o (S := qL) qL_LF) (by rw [hL.2.2.1]; exact ⟨Nat.le_of_ble_eq_true rfl, Nat.le_of_ble_eq_true rfl⟩) rfl (Nat.le_of_ble_eq_true rfl) (l_z hL hi) rfl ?_
  refine gw_aload_n hC 2 dL_law_648 rfl ?_
  refine l_arg hL (j0 := 4) (j4 := 0) 1 dL_law_649 rfl dL_law_650 rfl dL_law_652 rfl dL_law_653 dL_law_654 (by omega) ?_
  refine gw_cVi (q := qL) (X' := X2) (v := v) (rest := [.int v]) hC [.int (xs (i + 1))] (aX12_set 0 qL qL_M (xs (i + 1)) X1 v X2 e2) mY_X12_set dL_law_655 ml_L_78 (mo_o (S := qL) qL_M) (by rw [hL.2.2.1]; exact ⟨Nat.le_of_ble_eq_true rfl, Nat.le_of_ble_eq_true rfl⟩) rfl (Nat.le_of_ble_eq_true rfl) (l_z hL hi) rfl ?_
  refine gw_icmp_eq (tgt := 1459) hC dL_law_658 (by decide) (fun _ => ?_) (fun q => absurd rfl q)
  exact l_end hL (by show 240 + i ≤ _; omega) (by show 9924 + 6 * i ≤ _; omega) (ih X2 i2)
set_option maxRecDepth 100000 in
theorem l_c12 (hL : lC g L xs nm) (hX : Inv X) (hi : i + 6 ≤ L) (ih : ∀ X', Inv X' → GW (lK nm) g 23 (240 + (i + 6), 9924 + 6 * (i + 6)) (lvL (i + 6)) [] (m_w qL X')) : GW (lK nm) g 663 (240 + i, 9924 + 6 * i) (lvL i) [] (m_w qL X) := by
  have hC := hL.1
  obtain ⟨v, X1, X2, e1, e2, i2⟩ := sim_back (xs (i + 1)) X hX
  refine gw_aload_n hC 3 dL_law_663 rfl ?_
  refine l_arg hL (j0 := 4) (j4 := 0) 1 dL_law_664 rfl dL_law_665 rfl dL_law_667 rfl dL_law_668 dL_law_669 (by omega) ?_
  refine gw_cVi (q := qL) (X' := X1) (v := v) (rest := []) hC [.int (xs (i + 1))] (aX11_back 0 qL qL_W (xs (i + 1)) X v X1 e1) mY_X11_back dL_law_670 ml_L_79 (lf_o (S := qL) qL_LF) (by rw [hL.2.2.1]; exact ⟨Nat.le_of_ble_eq_true rfl, Nat.le_of_ble_eq_true rfl⟩) rfl (Nat.le_of_ble_eq_true rfl) (l_z hL hi) rfl ?_
  refine gw_aload_n hC 2 dL_law_673 rfl ?_
  refine l_arg hL (j0 := 4) (j4 := 0) 1 dL_law_674 rfl dL_law_675 rfl dL_law_677 rfl dL_law_678 dL_law_679 (by omega) ?_
  refine gw_cVi (q := qL) (X' := X2) (v := v) (rest := [.int v]) hC [.int (xs (i + 1))] (aX12_back 0 qL qL_M (xs (i + 1)) X1 v X2 e2) mY_X12_back dL_law_680 ml_L_82 (mo_o (S := qL) qL_M) (by rw [hL.2.2.1]; exact ⟨Nat.le_of_ble_eq_true rfl, Nat.le_of_ble_eq_true rfl⟩) rfl (Nat.le_of_ble_eq_true rfl) (l_z hL hi) rfl ?_
  refine gw_icmp_eq (tgt := 1459) hC dL_law_683 (by decide) (fun _ => ?_) (fun q => absurd rfl q)
  exact l_end hL (by show 240 + i ≤ _; omega) (by show 9924 + 6 * i ≤ _; omega) (ih X2 i2)
set_option maxRecDepth 100000 in
theorem l_c13 (hL : lC g L xs nm) (hX : Inv X) (hi : i + 6 ≤ L) (ih : ∀ X', Inv X' → GW (lK nm) g 23 (240 + (i + 6), 9924 + 6 * (i + 6)) (lvL (i + 6)) [] (m_w qL X')) : GW (lK nm) g 688 (240 + i, 9924 + 6 * i) (lvL i) [] (m_w qL X) := by
  have hC := hL.1
  obtain ⟨v, X1, X2, e1, e2, i2⟩ := sim_turn (xs (i + 1)) X hX
  refine gw_aload_n hC 3 dL_law_688 rfl ?_
  refine l_arg hL (j0 := 4) (j4 := 0) 1 dL_law_689 rfl dL_law_690 rfl dL_law_692 rfl dL_law_693 dL_law_694 (by omega) ?_
  refine gw_cVi (q := qL) (X' := X1) (v := v) (rest := []) hC [.int (xs (i + 1))] (aX11_turn 0 qL qL_W (xs (i + 1)) X v X1 e1) mY_X11_turn dL_law_695 ml_L_83 (lf_o (S := qL) qL_LF) (by rw [hL.2.2.1]; exact ⟨Nat.le_of_ble_eq_true rfl, Nat.le_of_ble_eq_true rfl⟩) rfl (Nat.le_of_ble_eq_true rfl) (l_z hL hi) rfl ?_
  refine gw_aload_n hC 2 dL_law_698 rfl ?_
  refine l_arg hL (j0 := 4) (j4 := 0) 1 dL_law_699 rfl dL_law_700 rfl dL_law_702 rfl dL_law_703 dL_law_704 (by omega) ?_
  refine gw_cVi (q := qL) (X' := X2) (v := v) (rest := [.int v]) hC [.int (xs (i + 1))] (aX12_turn 0 qL qL_M (xs (i + 1)) X1 v X2 e2) mY_X12_turn dL_law_705 ml_L_86 (mo_o (S := qL) qL_M) (by rw [hL.2.2.1]; exact ⟨Nat.le_of_ble_eq_true rfl, Nat.le_of_ble_eq_true rfl⟩) rfl (Nat.le_of_ble_eq_true rfl) (l_z hL hi) rfl ?_
  refine gw_icmp_eq (tgt := 1459) hC dL_law_708 (by decide) (fun _ => ?_) (fun q => absurd rfl q)
  exact l_end hL (by show 240 + i ≤ _; omega) (by show 9924 + 6 * i ≤ _; omega) (ih X2 i2)
set_option maxRecDepth 100000 in
theorem l_c14 (hL : lC g L xs nm) (hX : Inv X) (hi : i + 6 ≤ L) (ih : ∀ X', Inv X' → GW (lK nm) g 23 (240 + (i + 6), 9924 + 6 * (i + 6)) (lvL (i + 6)) [] (m_w qL X')) : GW (lK nm) g 713 (240 + i, 9924 + 6 * i) (lvL i) [] (m_w qL X) := by
  have hC := hL.1
  obtain ⟨v, X1, X2, e1, e2, i2⟩ := sim_fail (xs (i + 1)) (xs (i + 2)) X hX
  refine gw_aload_n hC 3 dL_law_713 rfl ?_
  refine l_arg hL (j0 := 4) (j4 := 0) 1 dL_law_714 rfl dL_law_715 rfl dL_law_717 rfl dL_law_718 dL_law_719 (by omega) ?_
  refine l_arg hL (j0 := 4) (j4 := 0) 2 dL_law_720 rfl dL_law_721 rfl dL_law_723 rfl dL_law_724 dL_law_725 (by omega) ?_
  refine gw_cVi (q := qL) (X' := X1) (v := v) (rest := []) hC [.int (xs (i + 1)), .int (xs (i + 2))] (aX11_fail 0 qL qL_W (xs (i + 1)) (xs (i + 2)) X v X1 e1) mY_X11_fail dL_law_726 ml_L_87 (lf_o (S := qL) qL_LF) (by rw [hL.2.2.1]; exact ⟨Nat.le_of_ble_eq_true rfl, Nat.le_of_ble_eq_true rfl⟩) rfl (Nat.le_of_ble_eq_true rfl) (l_z hL hi) rfl ?_
  refine gw_aload_n hC 2 dL_law_729 rfl ?_
  refine l_arg hL (j0 := 4) (j4 := 0) 1 dL_law_730 rfl dL_law_731 rfl dL_law_733 rfl dL_law_734 dL_law_735 (by omega) ?_
  refine l_arg hL (j0 := 4) (j4 := 0) 2 dL_law_736 rfl dL_law_737 rfl dL_law_739 rfl dL_law_740 dL_law_741 (by omega) ?_
  refine gw_cVi (q := qL) (X' := X2) (v := v) (rest := [.int v]) hC [.int (xs (i + 1)), .int (xs (i + 2))] (aX12_fail 0 qL qL_M (xs (i + 1)) (xs (i + 2)) X1 v X2 e2) mY_X12_fail dL_law_742 ml_L_90 (mo_o (S := qL) qL_M) (by rw [hL.2.2.1]; exact ⟨Nat.le_of_ble_eq_true rfl, Nat.le_of_ble_eq_true rfl⟩) rfl (Nat.le_of_ble_eq_true rfl) (l_z hL hi) rfl ?_
  refine gw_icmp_eq (tgt := 1459) hC dL_law_745 (by decide) (fun _ => ?_) (fun q => absurd rfl q)
  exact l_end hL (by show 240 + i ≤ _; omega) (by show 9924 + 6 * i ≤ _; omega) (ih X2 i2)
set_option maxRecDepth 100000 in
theorem l_c15 (hL : lC g L xs nm) (hX : Inv X) (hi : i + 6 ≤ L) (ih : ∀ X', Inv X' → GW (lK nm) g 23 (240 + (i + 6), 9924 + 6 * (i + 6)) (lvL (i + 6)) [] (m_w qL X')) : GW (lK nm) g 750 (240 + i, 9924 + 6 * i) (lvL i) [] (m_w qL X) := by
  have hC := hL.1
  obtain ⟨v, X1, X2, e1, e2, i2⟩ := sim_mend (xs (i + 1)) X hX
  refine gw_aload_n hC 3 dL_law_750 rfl ?_
  refine l_arg hL (j0 := 4) (j4 := 0) 1 dL_law_751 rfl dL_law_752 rfl dL_law_754 rfl dL_law_755 dL_law_756 (by omega) ?_
  refine gw_cVi (q := qL) (X' := X1) (v := v) (rest := []) hC [.int (xs (i + 1))] (aX11_mend 0 qL qL_W (xs (i + 1)) X v X1 e1) mY_X11_mend dL_law_757 ml_L_91 (lf_o (S := qL) qL_LF) (by rw [hL.2.2.1]; exact ⟨Nat.le_of_ble_eq_true rfl, Nat.le_of_ble_eq_true rfl⟩) rfl (Nat.le_of_ble_eq_true rfl) (l_z hL hi) rfl ?_
  refine gw_aload_n hC 2 dL_law_760 rfl ?_
  refine l_arg hL (j0 := 4) (j4 := 0) 1 dL_law_761 rfl dL_law_762 rfl dL_law_764 rfl dL_law_765 dL_law_766 (by omega) ?_
  refine gw_cVi (q := qL) (X' := X2) (v := v) (rest := [.int v]) hC [.int (xs (i + 1))] (aX12_mend 0 qL qL_M (xs (i + 1)) X1 v X2 e2) mY_X12_mend dL_law_767 ml_L_94 (mo_o (S := qL) qL_M) (by rw [hL.2.2.1]; exact ⟨Nat.le_of_ble_eq_true rfl, Nat.le_of_ble_eq_true rfl⟩) rfl (Nat.le_of_ble_eq_true rfl) (l_z hL hi) rfl ?_
  refine gw_icmp_eq (tgt := 1459) hC dL_law_770 (by decide) (fun _ => ?_) (fun q => absurd rfl q)
  exact l_end hL (by show 240 + i ≤ _; omega) (by show 9924 + 6 * i ≤ _; omega) (ih X2 i2)
set_option maxRecDepth 100000 in
theorem l_c16 (hL : lC g L xs nm) (hX : Inv X) (hi : i + 6 ≤ L) (ih : ∀ X', Inv X' → GW (lK nm) g 23 (240 + (i + 6), 9924 + 6 * (i + 6)) (lvL (i + 6)) [] (m_w qL X')) : GW (lK nm) g 775 (240 + i, 9924 + 6 * i) (lvL i) [] (m_w qL X) := by
  have hC := hL.1
  obtain ⟨v, X1, X2, e1, e2, i2⟩ := sim_ticks (xs (i + 1)) X hX
  refine gw_aload_n hC 3 dL_law_775 rfl ?_
  refine l_arg hL (j0 := 4) (j4 := 0) 1 dL_law_776 rfl dL_law_777 rfl dL_law_779 rfl dL_law_780 dL_law_781 (by omega) ?_
  refine gw_cVi (q := qL) (X' := X1) (v := v) (rest := []) hC [.int (xs (i + 1))] (aX11_ticks 0 qL qL_W (xs (i + 1)) X v X1 e1) mY_X11_ticks dL_law_782 ml_L_95 (lf_o (S := qL) qL_LF) (by rw [hL.2.2.1]; exact ⟨Nat.le_of_ble_eq_true rfl, Nat.le_of_ble_eq_true rfl⟩) rfl (Nat.le_of_ble_eq_true rfl) (l_z hL hi) rfl ?_
  refine gw_aload_n hC 2 dL_law_785 rfl ?_
  refine l_arg hL (j0 := 4) (j4 := 0) 1 dL_law_786 rfl dL_law_787 rfl dL_law_789 rfl dL_law_790 dL_law_791 (by omega) ?_
  refine gw_cVi (q := qL) (X' := X2) (v := v) (rest := [.int v]) hC [.int (xs (i + 1))] (aX12_ticks 0 qL qL_M (xs (i + 1)) X1 v X2 e2) mY_X12_ticks dL_law_792 ml_L_98 (mo_o (S := qL) qL_M) (by rw [hL.2.2.1]; exact ⟨Nat.le_of_ble_eq_true rfl, Nat.le_of_ble_eq_true rfl⟩) rfl (Nat.le_of_ble_eq_true rfl) (l_z hL hi) rfl ?_
  refine gw_icmp_eq (tgt := 1459) hC dL_law_795 (by decide) (fun _ => ?_) (fun q => absurd rfl q)
  exact l_end hL (by show 240 + i ≤ _; omega) (by show 9924 + 6 * i ≤ _; omega) (ih X2 i2)
set_option maxRecDepth 100000 in
theorem l_c17 (hL : lC g L xs nm) (hX : Inv X) (hi : i + 6 ≤ L) (ih : ∀ X', Inv X' → GW (lK nm) g 23 (240 + (i + 6), 9924 + 6 * (i + 6)) (lvL (i + 6)) [] (m_w qL X')) : GW (lK nm) g 800 (240 + i, 9924 + 6 * i) (lvL i) [] (m_w qL X) := by
  have hC := hL.1
  obtain ⟨v, X1, X2, e1, e2, i2⟩ := sim_undo X hX
  refine gw_aload_n hC 3 dL_law_800 rfl ?_
  refine gw_cVi (q := qL) (X' := X1) (v := v) (rest := []) hC [] (aX11_undo 0 qL qL_W X v X1 e1) mY_X11_undo dL_law_801 ml_L_99 (lf_o (S := qL) qL_LF) (by rw [hL.2.2.1]; exact ⟨Nat.le_of_ble_eq_true rfl, Nat.le_of_ble_eq_true rfl⟩) rfl (Nat.le_of_ble_eq_true rfl) (l_z hL hi) rfl ?_
  refine gw_aload_n hC 2 dL_law_804 rfl ?_
  refine gw_cVi (q := qL) (X' := X2) (v := v) (rest := [.int v]) hC [] (aX12_undo 0 qL qL_M X1 v X2 e2) mY_X12_undo dL_law_805 ml_L_102 (mo_o (S := qL) qL_M) (by rw [hL.2.2.1]; exact ⟨Nat.le_of_ble_eq_true rfl, Nat.le_of_ble_eq_true rfl⟩) rfl (Nat.le_of_ble_eq_true rfl) (l_z hL hi) rfl ?_
  refine gw_icmp_eq (tgt := 1459) hC dL_law_808 (by decide) (fun _ => ?_) (fun q => absurd rfl q)
  exact l_end hL (by show 240 + i ≤ _; omega) (by show 9924 + 6 * i ≤ _; omega) (ih X2 i2)
set_option maxRecDepth 100000 in
theorem l_c18 (hL : lC g L xs nm) (hX : Inv X) (hi : i + 6 ≤ L) (ih : ∀ X', Inv X' → GW (lK nm) g 23 (240 + (i + 6), 9924 + 6 * (i + 6)) (lvL (i + 6)) [] (m_w qL X')) : GW (lK nm) g 813 (240 + i, 9924 + 6 * i) (lvL i) [] (m_w qL X) := by
  have hC := hL.1
  obtain ⟨v, X1, X2, e1, e2, i2⟩ := sim_lacking X hX
  refine gw_aload_n hC 3 dL_law_813 rfl ?_
  refine gw_cVi (q := qL) (X' := X1) (v := v) (rest := []) hC [] (aX11_lacking 0 qL qL_W X v X1 e1) mY_X11_lacking dL_law_814 ml_L_103 (lf_o (S := qL) qL_LF) (by rw [hL.2.2.1]; exact ⟨Nat.le_of_ble_eq_true rfl, Nat.le_of_ble_eq_true rfl⟩) rfl (Nat.le_of_ble_eq_true rfl) (l_z hL hi) rfl ?_
  refine gw_aload_n hC 2 dL_law_817 rfl ?_
  refine gw_cVi (q := qL) (X' := X2) (v := v) (rest := [.int v]) hC [] (aX12_lacking 0 qL qL_M X1 v X2 e2) mY_X12_lacking dL_law_818 ml_L_106 (mo_o (S := qL) qL_M) (by rw [hL.2.2.1]; exact ⟨Nat.le_of_ble_eq_true rfl, Nat.le_of_ble_eq_true rfl⟩) rfl (Nat.le_of_ble_eq_true rfl) (l_z hL hi) rfl ?_
  refine gw_icmp_eq (tgt := 1459) hC dL_law_821 (by decide) (fun _ => ?_) (fun q => absurd rfl q)
  exact l_end hL (by show 240 + i ≤ _; omega) (by show 9924 + 6 * i ≤ _; omega) (ih X2 i2)
set_option maxRecDepth 100000 in
theorem l_c19 (hL : lC g L xs nm) (hX : Inv X) (hi : i + 6 ≤ L) (ih : ∀ X', Inv X' → GW (lK nm) g 23 (240 + (i + 6), 9924 + 6 * (i + 6)) (lvL (i + 6)) [] (m_w qL X')) : GW (lK nm) g 826 (240 + i, 9924 + 6 * i) (lvL i) [] (m_w qL X) := by
  have hC := hL.1
  obtain ⟨v, X1, X2, e1, e2, i2⟩ := sim_lacks (xs (i + 1)) X hX
  refine gw_aload_n hC 3 dL_law_826 rfl ?_
  refine l_arg hL (j0 := 4) (j4 := 0) 1 dL_law_827 rfl dL_law_828 rfl dL_law_830 rfl dL_law_831 dL_law_832 (by omega) ?_
  refine gw_cVi (q := qL) (X' := X1) (v := v) (rest := []) hC [.int (xs (i + 1))] (aX11_lacks 0 qL qL_W (xs (i + 1)) X v X1 e1) mY_X11_lacks dL_law_833 ml_L_107 (lf_o (S := qL) qL_LF) (by rw [hL.2.2.1]; exact ⟨Nat.le_of_ble_eq_true rfl, Nat.le_of_ble_eq_true rfl⟩) rfl (Nat.le_of_ble_eq_true rfl) (l_z hL hi) rfl ?_
  refine gw_aload_n hC 2 dL_law_836 rfl ?_
  refine l_arg hL (j0 := 4) (j4 := 0) 1 dL_law_837 rfl dL_law_838 rfl dL_law_840 rfl dL_law_841 dL_law_842 (by omega) ?_
  refine gw_cVi (q := qL) (X' := X2) (v := v) (rest := [.int v]) hC [.int (xs (i + 1))] (aX12_lacks 0 qL qL_M (xs (i + 1)) X1 v X2 e2) mY_X12_lacks dL_law_843 ml_L_110 (mo_o (S := qL) qL_M) (by rw [hL.2.2.1]; exact ⟨Nat.le_of_ble_eq_true rfl, Nat.le_of_ble_eq_true rfl⟩) rfl (Nat.le_of_ble_eq_true rfl) (l_z hL hi) rfl ?_
  refine gw_icmp_eq (tgt := 1459) hC dL_law_846 (by decide) (fun _ => ?_) (fun q => absurd rfl q)
  exact l_end hL (by show 240 + i ≤ _; omega) (by show 9924 + 6 * i ≤ _; omega) (ih X2 i2)
set_option maxRecDepth 100000 in
theorem l_c20 (hL : lC g L xs nm) (hX : Inv X) (hi : i + 6 ≤ L) (ih : ∀ X', Inv X' → GW (lK nm) g 23 (240 + (i + 6), 9924 + 6 * (i + 6)) (lvL (i + 6)) [] (m_w qL X')) : GW (lK nm) g 851 (240 + i, 9924 + 6 * i) (lvL i) [] (m_w qL X) := by
  have hC := hL.1
  obtain ⟨v, X1, X2, e1, e2, i2⟩ := sim_spare X hX
  refine gw_aload_n hC 3 dL_law_851 rfl ?_
  refine gw_cVi (q := qL) (X' := X1) (v := v) (rest := []) hC [] (aX11_spare 0 qL qL_W X v X1 e1) mY_X11_spare dL_law_852 ml_L_111 (lf_o (S := qL) qL_LF) (by rw [hL.2.2.1]; exact ⟨Nat.le_of_ble_eq_true rfl, Nat.le_of_ble_eq_true rfl⟩) rfl (Nat.le_of_ble_eq_true rfl) (l_z hL hi) rfl ?_
  refine gw_aload_n hC 2 dL_law_855 rfl ?_
  refine gw_cVi (q := qL) (X' := X2) (v := v) (rest := [.int v]) hC [] (aX12_spare 0 qL qL_M X1 v X2 e2) mY_X12_spare dL_law_856 ml_L_114 (mo_o (S := qL) qL_M) (by rw [hL.2.2.1]; exact ⟨Nat.le_of_ble_eq_true rfl, Nat.le_of_ble_eq_true rfl⟩) rfl (Nat.le_of_ble_eq_true rfl) (l_z hL hi) rfl ?_
  refine gw_icmp_eq (tgt := 1459) hC dL_law_859 (by decide) (fun _ => ?_) (fun q => absurd rfl q)
  exact l_end hL (by show 240 + i ≤ _; omega) (by show 9924 + 6 * i ≤ _; omega) (ih X2 i2)
set_option maxRecDepth 100000 in
theorem l_c21 (hL : lC g L xs nm) (hX : Inv X) (hi : i + 6 ≤ L) (ih : ∀ X', Inv X' → GW (lK nm) g 23 (240 + (i + 6), 9924 + 6 * (i + 6)) (lvL (i + 6)) [] (m_w qL X')) : GW (lK nm) g 864 (240 + i, 9924 + 6 * i) (lvL i) [] (m_w qL X) := by
  have hC := hL.1
  obtain ⟨v, X1, X2, e1, e2, i2⟩ := sim_pulls (xs (i + 1)) X hX
  refine gw_aload_n hC 3 dL_law_864 rfl ?_
  refine l_arg hL (j0 := 4) (j4 := 0) 1 dL_law_865 rfl dL_law_866 rfl dL_law_868 rfl dL_law_869 dL_law_870 (by omega) ?_
  refine gw_cVi (q := qL) (X' := X1) (v := v) (rest := []) hC [.int (xs (i + 1))] (aX11_pulls 0 qL qL_W (xs (i + 1)) X v X1 e1) mY_X11_pulls dL_law_871 ml_L_115 (lf_o (S := qL) qL_LF) (by rw [hL.2.2.1]; exact ⟨Nat.le_of_ble_eq_true rfl, Nat.le_of_ble_eq_true rfl⟩) rfl (Nat.le_of_ble_eq_true rfl) (l_z hL hi) rfl ?_
  refine gw_aload_n hC 2 dL_law_874 rfl ?_
  refine l_arg hL (j0 := 4) (j4 := 0) 1 dL_law_875 rfl dL_law_876 rfl dL_law_878 rfl dL_law_879 dL_law_880 (by omega) ?_
  refine gw_cVi (q := qL) (X' := X2) (v := v) (rest := [.int v]) hC [.int (xs (i + 1))] (aX12_pulls 0 qL qL_M (xs (i + 1)) X1 v X2 e2) mY_X12_pulls dL_law_881 ml_L_118 (mo_o (S := qL) qL_M) (by rw [hL.2.2.1]; exact ⟨Nat.le_of_ble_eq_true rfl, Nat.le_of_ble_eq_true rfl⟩) rfl (Nat.le_of_ble_eq_true rfl) (l_z hL hi) rfl ?_
  refine gw_icmp_eq (tgt := 1459) hC dL_law_884 (by decide) (fun _ => ?_) (fun q => absurd rfl q)
  exact l_end hL (by show 240 + i ≤ _; omega) (by show 9924 + 6 * i ≤ _; omega) (ih X2 i2)
set_option maxRecDepth 100000 in
theorem l_c22 (hL : lC g L xs nm) (hX : Inv X) (hi : i + 6 ≤ L) (ih : ∀ X', Inv X' → GW (lK nm) g 23 (240 + (i + 6), 9924 + 6 * (i + 6)) (lvL (i + 6)) [] (m_w qL X')) : GW (lK nm) g 889 (240 + i, 9924 + 6 * i) (lvL i) [] (m_w qL X) := by
  have hC := hL.1
  obtain ⟨v, X1, X2, e1, e2, i2⟩ := sim_pullsAt (xs (i + 1)) X hX
  refine gw_aload_n hC 3 dL_law_889 rfl ?_
  refine l_arg hL (j0 := 4) (j4 := 0) 1 dL_law_890 rfl dL_law_891 rfl dL_law_893 rfl dL_law_894 dL_law_895 (by omega) ?_
  refine gw_cVi (q := qL) (X' := X1) (v := v) (rest := []) hC [.int (xs (i + 1))] (aX11_pullsAt 0 qL qL_W (xs (i + 1)) X v X1 e1) mY_X11_pullsAt dL_law_896 ml_L_119 (lf_o (S := qL) qL_LF) (by rw [hL.2.2.1]; exact ⟨Nat.le_of_ble_eq_true rfl, Nat.le_of_ble_eq_true rfl⟩) rfl (Nat.le_of_ble_eq_true rfl) (l_z hL hi) rfl ?_
  refine gw_aload_n hC 2 dL_law_899 rfl ?_
  refine l_arg hL (j0 := 4) (j4 := 0) 1 dL_law_900 rfl dL_law_901 rfl dL_law_903 rfl dL_law_904 dL_law_905 (by omega) ?_
  refine gw_cVi (q := qL) (X' := X2) (v := v) (rest := [.int v]) hC [.int (xs (i + 1))] (aX12_pullsAt 0 qL qL_M (xs (i + 1)) X1 v X2 e2) mY_X12_pullsAt dL_law_906 ml_L_122 (mo_o (S := qL) qL_M) (by rw [hL.2.2.1]; exact ⟨Nat.le_of_ble_eq_true rfl, Nat.le_of_ble_eq_true rfl⟩) rfl (Nat.le_of_ble_eq_true rfl) (l_z hL hi) rfl ?_
  refine gw_icmp_eq (tgt := 1459) hC dL_law_909 (by decide) (fun _ => ?_) (fun q => absurd rfl q)
  exact l_end hL (by show 240 + i ≤ _; omega) (by show 9924 + 6 * i ≤ _; omega) (ih X2 i2)
set_option maxRecDepth 100000 in
theorem l_c23 (hL : lC g L xs nm) (hX : Inv X) (hi : i + 6 ≤ L) (ih : ∀ X', Inv X' → GW (lK nm) g 23 (240 + (i + 6), 9924 + 6 * (i + 6)) (lvL (i + 6)) [] (m_w qL X')) : GW (lK nm) g 914 (240 + i, 9924 + 6 * i) (lvL i) [] (m_w qL X) := by
  have hC := hL.1
  obtain ⟨v, X1, X2, e1, e2, i2⟩ := sim_together X hX
  refine gw_aload_n hC 3 dL_law_914 rfl ?_
  refine gw_cVi (q := qL) (X' := X1) (v := v) (rest := []) hC [] (aX11_together 0 qL qL_W X v X1 e1) mY_X11_together dL_law_915 ml_L_123 (lf_o (S := qL) qL_LF) (by rw [hL.2.2.1]; exact ⟨Nat.le_of_ble_eq_true rfl, Nat.le_of_ble_eq_true rfl⟩) rfl (Nat.le_of_ble_eq_true rfl) (l_z hL hi) rfl ?_
  refine gw_aload_n hC 2 dL_law_918 rfl ?_
  refine gw_cVi (q := qL) (X' := X2) (v := v) (rest := [.int v]) hC [] (aX12_together 0 qL qL_M X1 v X2 e2) mY_X12_together dL_law_919 ml_L_126 (mo_o (S := qL) qL_M) (by rw [hL.2.2.1]; exact ⟨Nat.le_of_ble_eq_true rfl, Nat.le_of_ble_eq_true rfl⟩) rfl (Nat.le_of_ble_eq_true rfl) (l_z hL hi) rfl ?_
  refine gw_icmp_eq (tgt := 1459) hC dL_law_922 (by decide) (fun _ => ?_) (fun q => absurd rfl q)
  exact l_end hL (by show 240 + i ≤ _; omega) (by show 9924 + 6 * i ≤ _; omega) (ih X2 i2)
set_option maxRecDepth 100000 in
theorem l_c24 (hL : lC g L xs nm) (hX : Inv X) (hi : i + 6 ≤ L) (ih : ∀ X', Inv X' → GW (lK nm) g 23 (240 + (i + 6), 9924 + 6 * (i + 6)) (lvL (i + 6)) [] (m_w qL X')) : GW (lK nm) g 927 (240 + i, 9924 + 6 * i) (lvL i) [] (m_w qL X) := by
  have hC := hL.1
  obtain ⟨v, X1, X2, e1, e2, i2⟩ := sim_those X hX
  refine gw_aload_n hC 3 dL_law_927 rfl ?_
  refine gw_cVi (q := qL) (X' := X1) (v := v) (rest := []) hC [] (aX11_those 0 qL qL_W X v X1 e1) mY_X11_those dL_law_928 ml_L_127 (lf_o (S := qL) qL_LF) (by rw [hL.2.2.1]; exact ⟨Nat.le_of_ble_eq_true rfl, Nat.le_of_ble_eq_true rfl⟩) rfl (Nat.le_of_ble_eq_true rfl) (l_z hL hi) rfl ?_
  refine gw_aload_n hC 2 dL_law_931 rfl ?_
  refine gw_cVi (q := qL) (X' := X2) (v := v) (rest := [.int v]) hC [] (aX12_those 0 qL qL_M X1 v X2 e2) mY_X12_those dL_law_932 ml_L_130 (mo_o (S := qL) qL_M) (by rw [hL.2.2.1]; exact ⟨Nat.le_of_ble_eq_true rfl, Nat.le_of_ble_eq_true rfl⟩) rfl (Nat.le_of_ble_eq_true rfl) (l_z hL hi) rfl ?_
  refine gw_icmp_eq (tgt := 1459) hC dL_law_935 (by decide) (fun _ => ?_) (fun q => absurd rfl q)
  exact l_end hL (by show 240 + i ≤ _; omega) (by show 9924 + 6 * i ≤ _; omega) (ih X2 i2)
set_option maxRecDepth 100000 in
theorem l_c25 (hL : lC g L xs nm) (hX : Inv X) (hi : i + 6 ≤ L) (ih : ∀ X', Inv X' → GW (lK nm) g 23 (240 + (i + 6), 9924 + 6 * (i + 6)) (lvL (i + 6)) [] (m_w qL X')) : GW (lK nm) g 940 (240 + i, 9924 + 6 * i) (lvL i) [] (m_w qL X) := by
  have hC := hL.1
  obtain ⟨v, X1, X2, e1, e2, i2⟩ := sim_rounds X hX
  refine gw_aload_n hC 3 dL_law_940 rfl ?_
  refine gw_cVi (q := qL) (X' := X1) (v := v) (rest := []) hC [] (aX11_rounds 0 qL qL_W X v X1 e1) mY_X11_rounds dL_law_941 ml_L_131 (lf_o (S := qL) qL_LF) (by rw [hL.2.2.1]; exact ⟨Nat.le_of_ble_eq_true rfl, Nat.le_of_ble_eq_true rfl⟩) rfl (Nat.le_of_ble_eq_true rfl) (l_z hL hi) rfl ?_
  refine gw_aload_n hC 2 dL_law_944 rfl ?_
  refine gw_cVi (q := qL) (X' := X2) (v := v) (rest := [.int v]) hC [] (aX12_rounds 0 qL qL_M X1 v X2 e2) mY_X12_rounds dL_law_945 ml_L_134 (mo_o (S := qL) qL_M) (by rw [hL.2.2.1]; exact ⟨Nat.le_of_ble_eq_true rfl, Nat.le_of_ble_eq_true rfl⟩) rfl (Nat.le_of_ble_eq_true rfl) (l_z hL hi) rfl ?_
  refine gw_icmp_eq (tgt := 1459) hC dL_law_948 (by decide) (fun _ => ?_) (fun q => absurd rfl q)
  exact l_end hL (by show 240 + i ≤ _; omega) (by show 9924 + 6 * i ≤ _; omega) (ih X2 i2)
set_option maxRecDepth 100000 in
theorem l_c26 (hL : lC g L xs nm) (hX : Inv X) (hi : i + 6 ≤ L) (ih : ∀ X', Inv X' → GW (lK nm) g 23 (240 + (i + 6), 9924 + 6 * (i + 6)) (lvL (i + 6)) [] (m_w qL X')) : GW (lK nm) g 953 (240 + i, 9924 + 6 * i) (lvL i) [] (m_w qL X) := by
  have hC := hL.1
  obtain ⟨v, X1, X2, e1, e2, i2⟩ := sim_path (xs (i + 1)) (xs (i + 2)) X hX
  refine gw_aload_n hC 3 dL_law_953 rfl ?_
  refine l_arg hL (j0 := 4) (j4 := 0) 1 dL_law_954 rfl dL_law_955 rfl dL_law_957 rfl dL_law_958 dL_law_959 (by omega) ?_
  refine l_arg hL (j0 := 4) (j4 := 0) 2 dL_law_960 rfl dL_law_961 rfl dL_law_963 rfl dL_law_964 dL_law_965 (by omega) ?_
  refine gw_cVi (q := qL) (X' := X1) (v := v) (rest := []) hC [.int (xs (i + 1)), .int (xs (i + 2))] (aX11_path 0 qL qL_W (xs (i + 1)) (xs (i + 2)) X v X1 e1) mY_X11_path dL_law_966 ml_L_135 (lf_o (S := qL) qL_LF) (by rw [hL.2.2.1]; exact ⟨Nat.le_of_ble_eq_true rfl, Nat.le_of_ble_eq_true rfl⟩) rfl (Nat.le_of_ble_eq_true rfl) (l_z hL hi) rfl ?_
  refine gw_aload_n hC 2 dL_law_969 rfl ?_
  refine l_arg hL (j0 := 4) (j4 := 0) 1 dL_law_970 rfl dL_law_971 rfl dL_law_973 rfl dL_law_974 dL_law_975 (by omega) ?_
  refine l_arg hL (j0 := 4) (j4 := 0) 2 dL_law_976 rfl dL_law_977 rfl dL_law_979 rfl dL_law_980 dL_law_981 (by omega) ?_
  refine gw_cVi (q := qL) (X' := X2) (v := v) (rest := [.int v]) hC [.int (xs (i + 1)), .int (xs (i + 2))] (aX12_path 0 qL qL_M (xs (i + 1)) (xs (i + 2)) X1 v X2 e2) mY_X12_path dL_law_982 ml_L_138 (mo_o (S := qL) qL_M) (by rw [hL.2.2.1]; exact ⟨Nat.le_of_ble_eq_true rfl, Nat.le_of_ble_eq_true rfl⟩) rfl (Nat.le_of_ble_eq_true rfl) (l_z hL hi) rfl ?_
  refine gw_icmp_eq (tgt := 1459) hC dL_law_985 (by decide) (fun _ => ?_) (fun q => absurd rfl q)
  exact l_end hL (by show 240 + i ≤ _; omega) (by show 9924 + 6 * i ≤ _; omega) (ih X2 i2)
set_option maxRecDepth 100000 in
theorem l_c27 (hL : lC g L xs nm) (hX : Inv X) (hi : i + 6 ≤ L) (ih : ∀ X', Inv X' → GW (lK nm) g 23 (240 + (i + 6), 9924 + 6 * (i + 6)) (lvL (i + 6)) [] (m_w qL X')) : GW (lK nm) g 990 (240 + i, 9924 + 6 * i) (lvL i) [] (m_w qL X) := by
  have hC := hL.1
  obtain ⟨v, X1, X2, e1, e2, i2⟩ := sim_pathAt (xs (i + 1)) X hX
  refine gw_aload_n hC 3 dL_law_990 rfl ?_
  refine l_arg hL (j0 := 4) (j4 := 0) 1 dL_law_991 rfl dL_law_992 rfl dL_law_994 rfl dL_law_995 dL_law_996 (by omega) ?_
  refine gw_cVi (q := qL) (X' := X1) (v := v) (rest := []) hC [.int (xs (i + 1))] (aX11_pathAt 0 qL qL_W (xs (i + 1)) X v X1 e1) mY_X11_pathAt dL_law_997 ml_L_139 (lf_o (S := qL) qL_LF) (by rw [hL.2.2.1]; exact ⟨Nat.le_of_ble_eq_true rfl, Nat.le_of_ble_eq_true rfl⟩) rfl (Nat.le_of_ble_eq_true rfl) (l_z hL hi) rfl ?_
  refine gw_aload_n hC 2 dL_law_1000 rfl ?_
  refine l_arg hL (j0 := 4) (j4 := 0) 1 dL_law_1001 rfl dL_law_1002 rfl dL_law_1004 rfl dL_law_1005 dL_law_1006 (by omega) ?_
  refine gw_cVi (q := qL) (X' := X2) (v := v) (rest := [.int v]) hC [.int (xs (i + 1))] (aX12_pathAt 0 qL qL_M (xs (i + 1)) X1 v X2 e2) mY_X12_pathAt dL_law_1007 ml_L_142 (mo_o (S := qL) qL_M) (by rw [hL.2.2.1]; exact ⟨Nat.le_of_ble_eq_true rfl, Nat.le_of_ble_eq_true rfl⟩) rfl (Nat.le_of_ble_eq_true rfl) (l_z hL hi) rfl ?_
  refine gw_icmp_eq (tgt := 1459) hC dL_law_1010 (by decide) (fun _ => ?_) (fun q => absurd rfl q)
  exact l_end hL (by show 240 + i ≤ _; omega) (by show 9924 + 6 * i ≤ _; omega) (ih X2 i2)
set_option maxRecDepth 100000 in
theorem l_c28 (hL : lC g L xs nm) (hX : Inv X) (hi : i + 6 ≤ L) (ih : ∀ X', Inv X' → GW (lK nm) g 23 (240 + (i + 6), 9924 + 6 * (i + 6)) (lvL (i + 6)) [] (m_w qL X')) : GW (lK nm) g 1015 (240 + i, 9924 + 6 * i) (lvL i) [] (m_w qL X) := by
  have hC := hL.1
  obtain ⟨v, X1, X2, e1, e2, i2⟩ := sim_comes (xs (i + 1)) (xs (i + 2)) X hX
  refine gw_aload_n hC 3 dL_law_1015 rfl ?_
  refine l_arg hL (j0 := 4) (j4 := 0) 1 dL_law_1016 rfl dL_law_1017 rfl dL_law_1019 rfl dL_law_1020 dL_law_1021 (by omega) ?_
  refine l_arg hL (j0 := 4) (j4 := 0) 2 dL_law_1022 rfl dL_law_1023 rfl dL_law_1025 rfl dL_law_1026 dL_law_1027 (by omega) ?_
  refine gw_cVi (q := qL) (X' := X1) (v := v) (rest := []) hC [.int (xs (i + 1)), .int (xs (i + 2))] (aX11_comes 0 qL qL_W (xs (i + 1)) (xs (i + 2)) X v X1 e1) mY_X11_comes dL_law_1028 ml_L_143 (lf_o (S := qL) qL_LF) (by rw [hL.2.2.1]; exact ⟨Nat.le_of_ble_eq_true rfl, Nat.le_of_ble_eq_true rfl⟩) rfl (Nat.le_of_ble_eq_true rfl) (l_z hL hi) rfl ?_
  refine gw_aload_n hC 2 dL_law_1031 rfl ?_
  refine l_arg hL (j0 := 4) (j4 := 0) 1 dL_law_1032 rfl dL_law_1033 rfl dL_law_1035 rfl dL_law_1036 dL_law_1037 (by omega) ?_
  refine l_arg hL (j0 := 4) (j4 := 0) 2 dL_law_1038 rfl dL_law_1039 rfl dL_law_1041 rfl dL_law_1042 dL_law_1043 (by omega) ?_
  refine gw_cVi (q := qL) (X' := X2) (v := v) (rest := [.int v]) hC [.int (xs (i + 1)), .int (xs (i + 2))] (aX12_comes 0 qL qL_M (xs (i + 1)) (xs (i + 2)) X1 v X2 e2) mY_X12_comes dL_law_1044 ml_L_146 (mo_o (S := qL) qL_M) (by rw [hL.2.2.1]; exact ⟨Nat.le_of_ble_eq_true rfl, Nat.le_of_ble_eq_true rfl⟩) rfl (Nat.le_of_ble_eq_true rfl) (l_z hL hi) rfl ?_
  refine gw_icmp_eq (tgt := 1459) hC dL_law_1047 (by decide) (fun _ => ?_) (fun q => absurd rfl q)
  exact l_end hL (by show 240 + i ≤ _; omega) (by show 9924 + 6 * i ≤ _; omega) (ih X2 i2)
set_option maxRecDepth 100000 in
theorem l_c29 (hL : lC g L xs nm) (hX : Inv X) (hi : i + 6 ≤ L) (ih : ∀ X', Inv X' → GW (lK nm) g 23 (240 + (i + 6), 9924 + 6 * (i + 6)) (lvL (i + 6)) [] (m_w qL X')) : GW (lK nm) g 1052 (240 + i, 9924 + 6 * i) (lvL i) [] (m_w qL X) := by
  have hC := hL.1
  obtain ⟨v, X1, X2, e1, e2, i2⟩ := sim_meet X hX
  refine gw_aload_n hC 3 dL_law_1052 rfl ?_
  refine gw_cVi (q := qL) (X' := X1) (v := v) (rest := []) hC [] (aX11_meet 0 qL qL_W X v X1 e1) mY_X11_meet dL_law_1053 ml_L_147 (lf_o (S := qL) qL_LF) (by rw [hL.2.2.1]; exact ⟨Nat.le_of_ble_eq_true rfl, Nat.le_of_ble_eq_true rfl⟩) rfl (Nat.le_of_ble_eq_true rfl) (l_z hL hi) rfl ?_
  refine gw_aload_n hC 2 dL_law_1056 rfl ?_
  refine gw_cVi (q := qL) (X' := X2) (v := v) (rest := [.int v]) hC [] (aX12_meet 0 qL qL_M X1 v X2 e2) mY_X12_meet dL_law_1057 ml_L_150 (mo_o (S := qL) qL_M) (by rw [hL.2.2.1]; exact ⟨Nat.le_of_ble_eq_true rfl, Nat.le_of_ble_eq_true rfl⟩) rfl (Nat.le_of_ble_eq_true rfl) (l_z hL hi) rfl ?_
  refine gw_icmp_eq (tgt := 1459) hC dL_law_1060 (by decide) (fun _ => ?_) (fun q => absurd rfl q)
  exact l_end hL (by show 240 + i ≤ _; omega) (by show 9924 + 6 * i ≤ _; omega) (ih X2 i2)
set_option maxRecDepth 100000 in
theorem l_c30 (hL : lC g L xs nm) (hX : Inv X) (hi : i + 6 ≤ L) (ih : ∀ X', Inv X' → GW (lK nm) g 23 (240 + (i + 6), 9924 + 6 * (i + 6)) (lvL (i + 6)) [] (m_w qL X')) : GW (lK nm) g 1065 (240 + i, 9924 + 6 * i) (lvL i) [] (m_w qL X) := by
  have hC := hL.1
  obtain ⟨v, X1, X2, e1, e2, i2⟩ := sim_fits X hX
  refine gw_aload_n hC 3 dL_law_1065 rfl ?_
  refine gw_cVi (q := qL) (X' := X1) (v := v) (rest := []) hC [] (aX11_fits 0 qL qL_W X v X1 e1) mY_X11_fits dL_law_1066 ml_L_151 (lf_o (S := qL) qL_LF) (by rw [hL.2.2.1]; exact ⟨Nat.le_of_ble_eq_true rfl, Nat.le_of_ble_eq_true rfl⟩) rfl (Nat.le_of_ble_eq_true rfl) (l_z hL hi) rfl ?_
  refine gw_aload_n hC 2 dL_law_1069 rfl ?_
  refine gw_cVi (q := qL) (X' := X2) (v := v) (rest := [.int v]) hC [] (aX12_fits 0 qL qL_M X1 v X2 e2) mY_X12_fits dL_law_1070 ml_L_154 (mo_o (S := qL) qL_M) (by rw [hL.2.2.1]; exact ⟨Nat.le_of_ble_eq_true rfl, Nat.le_of_ble_eq_true rfl⟩) rfl (Nat.le_of_ble_eq_true rfl) (l_z hL hi) rfl ?_
  refine gw_icmp_eq (tgt := 1459) hC dL_law_1073 (by decide) (fun _ => ?_) (fun q => absurd rfl q)
  exact l_end hL (by show 240 + i ≤ _; omega) (by show 9924 + 6 * i ≤ _; omega) (ih X2 i2)
set_option maxRecDepth 100000 in
theorem l_c31 (hL : lC g L xs nm) (hX : Inv X) (hi : i + 6 ≤ L) (ih : ∀ X', Inv X' → GW (lK nm) g 23 (240 + (i + 6), 9924 + 6 * (i + 6)) (lvL (i + 6)) [] (m_w qL X')) : GW (lK nm) g 1078 (240 + i, 9924 + 6 * i) (lvL i) [] (m_w qL X) := by
  have hC := hL.1
  obtain ⟨v, X1, X2, e1, e2, i2⟩ := sim_fitsAt (xs (i + 1)) X hX
  refine gw_aload_n hC 3 dL_law_1078 rfl ?_
  refine l_arg hL (j0 := 4) (j4 := 0) 1 dL_law_1079 rfl dL_law_1080 rfl dL_law_1082 rfl dL_law_1083 dL_law_1084 (by omega) ?_
  refine gw_cVi (q := qL) (X' := X1) (v := v) (rest := []) hC [.int (xs (i + 1))] (aX11_fitsAt 0 qL qL_W (xs (i + 1)) X v X1 e1) mY_X11_fitsAt dL_law_1085 ml_L_155 (lf_o (S := qL) qL_LF) (by rw [hL.2.2.1]; exact ⟨Nat.le_of_ble_eq_true rfl, Nat.le_of_ble_eq_true rfl⟩) rfl (Nat.le_of_ble_eq_true rfl) (l_z hL hi) rfl ?_
  refine gw_aload_n hC 2 dL_law_1088 rfl ?_
  refine l_arg hL (j0 := 4) (j4 := 0) 1 dL_law_1089 rfl dL_law_1090 rfl dL_law_1092 rfl dL_law_1093 dL_law_1094 (by omega) ?_
  refine gw_cVi (q := qL) (X' := X2) (v := v) (rest := [.int v]) hC [.int (xs (i + 1))] (aX12_fitsAt 0 qL qL_M (xs (i + 1)) X1 v X2 e2) mY_X12_fitsAt dL_law_1095 ml_L_158 (mo_o (S := qL) qL_M) (by rw [hL.2.2.1]; exact ⟨Nat.le_of_ble_eq_true rfl, Nat.le_of_ble_eq_true rfl⟩) rfl (Nat.le_of_ble_eq_true rfl) (l_z hL hi) rfl ?_
  refine gw_icmp_eq (tgt := 1459) hC dL_law_1098 (by decide) (fun _ => ?_) (fun q => absurd rfl q)
  exact l_end hL (by show 240 + i ≤ _; omega) (by show 9924 + 6 * i ≤ _; omega) (ih X2 i2)
set_option maxRecDepth 100000 in
theorem l_c32 (hL : lC g L xs nm) (hX : Inv X) (hi : i + 6 ≤ L) (ih : ∀ X', Inv X' → GW (lK nm) g 23 (240 + (i + 6), 9924 + 6 * (i + 6)) (lvL (i + 6)) [] (m_w qL X')) : GW (lK nm) g 1103 (240 + i, 9924 + 6 * i) (lvL i) [] (m_w qL X) := by
  have hC := hL.1
  obtain ⟨v, X1, X2, e1, e2, i2⟩ := sim_ask X hX
  refine gw_aload_n hC 3 dL_law_1103 rfl ?_
  refine gw_cVi (q := qL) (X' := X1) (v := v) (rest := []) hC [] (aX11_ask 0 qL qL_W X v X1 e1) mY_X11_ask dL_law_1104 ml_L_159 (lf_o (S := qL) qL_LF) (by rw [hL.2.2.1]; exact ⟨Nat.le_of_ble_eq_true rfl, Nat.le_of_ble_eq_true rfl⟩) rfl (Nat.le_of_ble_eq_true rfl) (l_z hL hi) rfl ?_
  refine gw_aload_n hC 2 dL_law_1107 rfl ?_
  refine gw_cVi (q := qL) (X' := X2) (v := v) (rest := [.int v]) hC [] (aX12_ask 0 qL qL_M X1 v X2 e2) mY_X12_ask dL_law_1108 ml_L_162 (mo_o (S := qL) qL_M) (by rw [hL.2.2.1]; exact ⟨Nat.le_of_ble_eq_true rfl, Nat.le_of_ble_eq_true rfl⟩) rfl (Nat.le_of_ble_eq_true rfl) (l_z hL hi) rfl ?_
  refine gw_icmp_eq (tgt := 1459) hC dL_law_1111 (by decide) (fun _ => ?_) (fun q => absurd rfl q)
  exact l_end hL (by show 240 + i ≤ _; omega) (by show 9924 + 6 * i ≤ _; omega) (ih X2 i2)
set_option maxRecDepth 100000 in
theorem l_c34 (hL : lC g L xs nm) (hX : Inv X) (hi : i + 6 ≤ L) (ih : ∀ X', Inv X' → GW (lK nm) g 23 (240 + (i + 6), 9924 + 6 * (i + 6)) (lvL (i + 6)) [] (m_w qL X')) : GW (lK nm) g 1172 (240 + i, 9924 + 6 * i) (lvL i) [] (m_w qL X) := by
  have hC := hL.1
  obtain ⟨v, X1, X2, e1, e2, i2⟩ := sim_tag (xs (i + 1)) X hX
  refine gw_aload_n hC 3 dL_law_1172 rfl ?_
  refine l_arg hL (j0 := 4) (j4 := 0) 1 dL_law_1173 rfl dL_law_1174 rfl dL_law_1176 rfl dL_law_1177 dL_law_1178 (by omega) ?_
  refine gw_cVi (q := qL) (X' := X1) (v := v) (rest := []) hC [.int (xs (i + 1))] (aX11_tag 0 qL qL_W (xs (i + 1)) X v X1 e1) mY_X11_tag dL_law_1179 ml_L_167 (lf_o (S := qL) qL_LF) (by rw [hL.2.2.1]; exact ⟨Nat.le_of_ble_eq_true rfl, Nat.le_of_ble_eq_true rfl⟩) rfl (Nat.le_of_ble_eq_true rfl) (l_z hL hi) rfl ?_
  refine gw_aload_n hC 2 dL_law_1182 rfl ?_
  refine l_arg hL (j0 := 4) (j4 := 0) 1 dL_law_1183 rfl dL_law_1184 rfl dL_law_1186 rfl dL_law_1187 dL_law_1188 (by omega) ?_
  refine gw_cVi (q := qL) (X' := X2) (v := v) (rest := [.int v]) hC [.int (xs (i + 1))] (aX12_tag 0 qL qL_M (xs (i + 1)) X1 v X2 e2) mY_X12_tag dL_law_1189 ml_L_170 (mo_o (S := qL) qL_M) (by rw [hL.2.2.1]; exact ⟨Nat.le_of_ble_eq_true rfl, Nat.le_of_ble_eq_true rfl⟩) rfl (Nat.le_of_ble_eq_true rfl) (l_z hL hi) rfl ?_
  refine gw_icmp_eq (tgt := 1459) hC dL_law_1192 (by decide) (fun _ => ?_) (fun q => absurd rfl q)
  exact l_end hL (by show 240 + i ≤ _; omega) (by show 9924 + 6 * i ≤ _; omega) (ih X2 i2)
set_option maxRecDepth 100000 in
theorem l_c35 (hL : lC g L xs nm) (hX : Inv X) (hi : i + 6 ≤ L) (ih : ∀ X', Inv X' → GW (lK nm) g 23 (240 + (i + 6), 9924 + 6 * (i + 6)) (lvL (i + 6)) [] (m_w qL X')) : GW (lK nm) g 1197 (240 + i, 9924 + 6 * i) (lvL i) [] (m_w qL X) := by
  have hC := hL.1
  obtain ⟨v, X1, X2, e1, e2, i2⟩ := sim_byteAt (xs (i + 1)) X hX
  refine gw_aload_n hC 3 dL_law_1197 rfl ?_
  refine l_arg hL (j0 := 4) (j4 := 0) 1 dL_law_1198 rfl dL_law_1199 rfl dL_law_1201 rfl dL_law_1202 dL_law_1203 (by omega) ?_
  refine gw_cVi (q := qL) (X' := X1) (v := v) (rest := []) hC [.int (xs (i + 1))] (aX11_byteAt 0 qL qL_W (xs (i + 1)) X v X1 e1) mY_X11_byteAt dL_law_1204 ml_L_171 (lf_o (S := qL) qL_LF) (by rw [hL.2.2.1]; exact ⟨Nat.le_of_ble_eq_true rfl, Nat.le_of_ble_eq_true rfl⟩) rfl (Nat.le_of_ble_eq_true rfl) (l_z hL hi) rfl ?_
  refine gw_aload_n hC 2 dL_law_1207 rfl ?_
  refine l_arg hL (j0 := 4) (j4 := 0) 1 dL_law_1208 rfl dL_law_1209 rfl dL_law_1211 rfl dL_law_1212 dL_law_1213 (by omega) ?_
  refine gw_cVi (q := qL) (X' := X2) (v := v) (rest := [.int v]) hC [.int (xs (i + 1))] (aX12_byteAt 0 qL qL_M (xs (i + 1)) X1 v X2 e2) mY_X12_byteAt dL_law_1214 ml_L_174 (mo_o (S := qL) qL_M) (by rw [hL.2.2.1]; exact ⟨Nat.le_of_ble_eq_true rfl, Nat.le_of_ble_eq_true rfl⟩) rfl (Nat.le_of_ble_eq_true rfl) (l_z hL hi) rfl ?_
  refine gw_icmp_eq (tgt := 1459) hC dL_law_1217 (by decide) (fun _ => ?_) (fun q => absurd rfl q)
  exact l_end hL (by show 240 + i ≤ _; omega) (by show 9924 + 6 * i ≤ _; omega) (ih X2 i2)
set_option maxRecDepth 100000 in
theorem l_c36 (hL : lC g L xs nm) (hX : Inv X) (hi : i + 6 ≤ L) (ih : ∀ X', Inv X' → GW (lK nm) g 23 (240 + (i + 6), 9924 + 6 * (i + 6)) (lvL (i + 6)) [] (m_w qL X')) : GW (lK nm) g 1222 (240 + i, 9924 + 6 * i) (lvL i) [] (m_w qL X) := by
  have hC := hL.1
  obtain ⟨v, X1, X2, e1, e2, i2⟩ := sim_drawn (xs (i + 1)) (xs (i + 2)) X hX
  refine gw_aload_n hC 3 dL_law_1222 rfl ?_
  refine l_arg hL (j0 := 4) (j4 := 0) 1 dL_law_1223 rfl dL_law_1224 rfl dL_law_1226 rfl dL_law_1227 dL_law_1228 (by omega) ?_
  refine l_arg hL (j0 := 4) (j4 := 0) 2 dL_law_1229 rfl dL_law_1230 rfl dL_law_1232 rfl dL_law_1233 dL_law_1234 (by omega) ?_
  refine gw_cVi (q := qL) (X' := X1) (v := v) (rest := []) hC [.int (xs (i + 1)), .int (xs (i + 2))] (aX11_drawn 0 qL qL_W (xs (i + 1)) (xs (i + 2)) X v X1 e1) mY_X11_drawn dL_law_1235 ml_L_175 (lf_o (S := qL) qL_LF) (by rw [hL.2.2.1]; exact ⟨Nat.le_of_ble_eq_true rfl, Nat.le_of_ble_eq_true rfl⟩) rfl (Nat.le_of_ble_eq_true rfl) (l_z hL hi) rfl ?_
  refine gw_aload_n hC 2 dL_law_1238 rfl ?_
  refine l_arg hL (j0 := 4) (j4 := 0) 1 dL_law_1239 rfl dL_law_1240 rfl dL_law_1242 rfl dL_law_1243 dL_law_1244 (by omega) ?_
  refine l_arg hL (j0 := 4) (j4 := 0) 2 dL_law_1245 rfl dL_law_1246 rfl dL_law_1248 rfl dL_law_1249 dL_law_1250 (by omega) ?_
  refine gw_cVi (q := qL) (X' := X2) (v := v) (rest := [.int v]) hC [.int (xs (i + 1)), .int (xs (i + 2))] (aX12_drawn 0 qL qL_M (xs (i + 1)) (xs (i + 2)) X1 v X2 e2) mY_X12_drawn dL_law_1251 ml_L_178 (mo_o (S := qL) qL_M) (by rw [hL.2.2.1]; exact ⟨Nat.le_of_ble_eq_true rfl, Nat.le_of_ble_eq_true rfl⟩) rfl (Nat.le_of_ble_eq_true rfl) (l_z hL hi) rfl ?_
  refine gw_icmp_eq (tgt := 1459) hC dL_law_1254 (by decide) (fun _ => ?_) (fun q => absurd rfl q)
  exact l_end hL (by show 240 + i ≤ _; omega) (by show 9924 + 6 * i ≤ _; omega) (ih X2 i2)
set_option maxRecDepth 100000 in
theorem l_c37 (hL : lC g L xs nm) (hX : Inv X) (hi : i + 6 ≤ L) (ih : ∀ X', Inv X' → GW (lK nm) g 23 (240 + (i + 6), 9924 + 6 * (i + 6)) (lvL (i + 6)) [] (m_w qL X')) : GW (lK nm) g 1259 (240 + i, 9924 + 6 * i) (lvL i) [] (m_w qL X) := by
  have hC := hL.1
  obtain ⟨v, X1, X2, e1, e2, i2⟩ := sim_odds (xs (i + 1)) (xs (i + 2)) X hX
  refine gw_aload_n hC 3 dL_law_1259 rfl ?_
  refine l_arg hL (j0 := 4) (j4 := 0) 1 dL_law_1260 rfl dL_law_1261 rfl dL_law_1263 rfl dL_law_1264 dL_law_1265 (by omega) ?_
  refine l_arg hL (j0 := 4) (j4 := 0) 2 dL_law_1266 rfl dL_law_1267 rfl dL_law_1269 rfl dL_law_1270 dL_law_1271 (by omega) ?_
  refine gw_cVi (q := qL) (X' := X1) (v := v) (rest := []) hC [.int (xs (i + 1)), .int (xs (i + 2))] (aX11_odds 0 qL qL_W (xs (i + 1)) (xs (i + 2)) X v X1 e1) mY_X11_odds dL_law_1272 ml_L_179 (lf_o (S := qL) qL_LF) (by rw [hL.2.2.1]; exact ⟨Nat.le_of_ble_eq_true rfl, Nat.le_of_ble_eq_true rfl⟩) rfl (Nat.le_of_ble_eq_true rfl) (l_z hL hi) rfl ?_
  refine gw_aload_n hC 2 dL_law_1275 rfl ?_
  refine l_arg hL (j0 := 4) (j4 := 0) 1 dL_law_1276 rfl dL_law_1277 rfl dL_law_1279 rfl dL_law_1280 dL_law_1281 (by omega) ?_
  refine l_arg hL (j0 := 4) (j4 := 0) 2 dL_law_1282 rfl dL_law_1283 rfl dL_law_1285 rfl dL_law_1286 dL_law_1287 (by omega) ?_
  refine gw_cVi (q := qL) (X' := X2) (v := v) (rest := [.int v]) hC [.int (xs (i + 1)), .int (xs (i + 2))] (aX12_odds 0 qL qL_M (xs (i + 1)) (xs (i + 2)) X1 v X2 e2) mY_X12_odds dL_law_1288 ml_L_182 (mo_o (S := qL) qL_M) (by rw [hL.2.2.1]; exact ⟨Nat.le_of_ble_eq_true rfl, Nat.le_of_ble_eq_true rfl⟩) rfl (Nat.le_of_ble_eq_true rfl) (l_z hL hi) rfl ?_
  refine gw_icmp_eq (tgt := 1459) hC dL_law_1291 (by decide) (fun _ => ?_) (fun q => absurd rfl q)
  exact l_end hL (by show 240 + i ≤ _; omega) (by show 9924 + 6 * i ≤ _; omega) (ih X2 i2)
set_option maxRecDepth 100000 in
theorem l_c38 (hL : lC g L xs nm) (hX : Inv X) (hi : i + 6 ≤ L) (ih : ∀ X', Inv X' → GW (lK nm) g 23 (240 + (i + 6), 9924 + 6 * (i + 6)) (lvL (i + 6)) [] (m_w qL X')) : GW (lK nm) g 1296 (240 + i, 9924 + 6 * i) (lvL i) [] (m_w qL X) := by
  have hC := hL.1
  obtain ⟨v, X1, X2, e1, e2, i2⟩ := sim_book (xs (i + 1)) X hX
  refine gw_aload_n hC 3 dL_law_1296 rfl ?_
  refine l_arg hL (j0 := 4) (j4 := 0) 1 dL_law_1297 rfl dL_law_1298 rfl dL_law_1300 rfl dL_law_1301 dL_law_1302 (by omega) ?_
  refine gw_cVi (q := qL) (X' := X1) (v := v) (rest := []) hC [.int (xs (i + 1))] (aX11_book 0 qL qL_W (xs (i + 1)) X v X1 e1) mY_X11_book dL_law_1303 ml_L_183 (lf_o (S := qL) qL_LF) (by rw [hL.2.2.1]; exact ⟨Nat.le_of_ble_eq_true rfl, Nat.le_of_ble_eq_true rfl⟩) rfl (Nat.le_of_ble_eq_true rfl) (l_z hL hi) rfl ?_
  refine gw_aload_n hC 2 dL_law_1306 rfl ?_
  refine l_arg hL (j0 := 4) (j4 := 0) 1 dL_law_1307 rfl dL_law_1308 rfl dL_law_1310 rfl dL_law_1311 dL_law_1312 (by omega) ?_
  refine gw_cVi (q := qL) (X' := X2) (v := v) (rest := [.int v]) hC [.int (xs (i + 1))] (aX12_book 0 qL qL_M (xs (i + 1)) X1 v X2 e2) mY_X12_book dL_law_1313 ml_L_186 (mo_o (S := qL) qL_M) (by rw [hL.2.2.1]; exact ⟨Nat.le_of_ble_eq_true rfl, Nat.le_of_ble_eq_true rfl⟩) rfl (Nat.le_of_ble_eq_true rfl) (l_z hL hi) rfl ?_
  refine gw_icmp_eq (tgt := 1459) hC dL_law_1316 (by decide) (fun _ => ?_) (fun q => absurd rfl q)
  exact l_end hL (by show 240 + i ≤ _; omega) (by show 9924 + 6 * i ≤ _; omega) (ih X2 i2)
set_option maxRecDepth 100000 in
theorem l_c39 (hL : lC g L xs nm) (hX : Inv X) (hi : i + 6 ≤ L) (ih : ∀ X', Inv X' → GW (lK nm) g 23 (240 + (i + 6), 9924 + 6 * (i + 6)) (lvL (i + 6)) [] (m_w qL X')) : GW (lK nm) g 1321 (240 + i, 9924 + 6 * i) (lvL i) [] (m_w qL X) := by
  have hC := hL.1
  obtain ⟨v, X1, X2, e1, e2, i2⟩ := sim_told (xs (i + 1)) X hX
  refine gw_aload_n hC 3 dL_law_1321 rfl ?_
  refine l_arg hL (j0 := 4) (j4 := 0) 1 dL_law_1322 rfl dL_law_1323 rfl dL_law_1325 rfl dL_law_1326 dL_law_1327 (by omega) ?_
  refine gw_cVi (q := qL) (X' := X1) (v := v) (rest := []) hC [.int (xs (i + 1))] (aX11_told 0 qL qL_W (xs (i + 1)) X v X1 e1) mY_X11_told dL_law_1328 ml_L_187 (lf_o (S := qL) qL_LF) (by rw [hL.2.2.1]; exact ⟨Nat.le_of_ble_eq_true rfl, Nat.le_of_ble_eq_true rfl⟩) rfl (Nat.le_of_ble_eq_true rfl) (l_z hL hi) rfl ?_
  refine gw_aload_n hC 2 dL_law_1331 rfl ?_
  refine l_arg hL (j0 := 4) (j4 := 0) 1 dL_law_1332 rfl dL_law_1333 rfl dL_law_1335 rfl dL_law_1336 dL_law_1337 (by omega) ?_
  refine gw_cVi (q := qL) (X' := X2) (v := v) (rest := [.int v]) hC [.int (xs (i + 1))] (aX12_told 0 qL qL_M (xs (i + 1)) X1 v X2 e2) mY_X12_told dL_law_1338 ml_L_190 (mo_o (S := qL) qL_M) (by rw [hL.2.2.1]; exact ⟨Nat.le_of_ble_eq_true rfl, Nat.le_of_ble_eq_true rfl⟩) rfl (Nat.le_of_ble_eq_true rfl) (l_z hL hi) rfl ?_
  refine gw_icmp_eq (tgt := 1459) hC dL_law_1341 (by decide) (fun _ => ?_) (fun q => absurd rfl q)
  exact l_end hL (by show 240 + i ≤ _; omega) (by show 9924 + 6 * i ≤ _; omega) (ih X2 i2)
set_option maxRecDepth 100000 in
theorem l_c40 (hL : lC g L xs nm) (hX : Inv X) (hi : i + 6 ≤ L) (ih : ∀ X', Inv X' → GW (lK nm) g 23 (240 + (i + 6), 9924 + 6 * (i + 6)) (lvL (i + 6)) [] (m_w qL X')) : GW (lK nm) g 1346 (240 + i, 9924 + 6 * i) (lvL i) [] (m_w qL X) := by
  have hC := hL.1
  obtain ⟨v, X1, X2, e1, e2, i2⟩ := sim_sentence X hX
  refine gw_aload_n hC 3 dL_law_1346 rfl ?_
  refine gw_cVi (q := qL) (X' := X1) (v := v) (rest := []) hC [] (aX11_sentence 0 qL qL_W X v X1 e1) mY_X11_sentence dL_law_1347 ml_L_191 (lf_o (S := qL) qL_LF) (by rw [hL.2.2.1]; exact ⟨Nat.le_of_ble_eq_true rfl, Nat.le_of_ble_eq_true rfl⟩) rfl (Nat.le_of_ble_eq_true rfl) (l_z hL hi) rfl ?_
  refine gw_aload_n hC 2 dL_law_1350 rfl ?_
  refine gw_cVi (q := qL) (X' := X2) (v := v) (rest := [.int v]) hC [] (aX12_sentence 0 qL qL_M X1 v X2 e2) mY_X12_sentence dL_law_1351 ml_L_194 (mo_o (S := qL) qL_M) (by rw [hL.2.2.1]; exact ⟨Nat.le_of_ble_eq_true rfl, Nat.le_of_ble_eq_true rfl⟩) rfl (Nat.le_of_ble_eq_true rfl) (l_z hL hi) rfl ?_
  refine gw_icmp_eq (tgt := 1459) hC dL_law_1354 (by decide) (fun _ => ?_) (fun q => absurd rfl q)
  exact l_end hL (by show 240 + i ≤ _; omega) (by show 9924 + 6 * i ≤ _; omega) (ih X2 i2)
set_option maxRecDepth 100000 in
theorem l_c41 (hL : lC g L xs nm) (hX : Inv X) (hi : i + 6 ≤ L) (ih : ∀ X', Inv X' → GW (lK nm) g 23 (240 + (i + 6), 9924 + 6 * (i + 6)) (lvL (i + 6)) [] (m_w qL X')) : GW (lK nm) g 1359 (240 + i, 9924 + 6 * i) (lvL i) [] (m_w qL X) := by
  have hC := hL.1
  obtain ⟨v, X1, X2, e1, e2, i2⟩ := sim_said (xs (i + 1)) X hX
  refine gw_aload_n hC 3 dL_law_1359 rfl ?_
  refine l_arg hL (j0 := 4) (j4 := 0) 1 dL_law_1360 rfl dL_law_1361 rfl dL_law_1363 rfl dL_law_1364 dL_law_1365 (by omega) ?_
  refine gw_cVi (q := qL) (X' := X1) (v := v) (rest := []) hC [.int (xs (i + 1))] (aX11_said 0 qL qL_W (xs (i + 1)) X v X1 e1) mY_X11_said dL_law_1366 ml_L_195 (lf_o (S := qL) qL_LF) (by rw [hL.2.2.1]; exact ⟨Nat.le_of_ble_eq_true rfl, Nat.le_of_ble_eq_true rfl⟩) rfl (Nat.le_of_ble_eq_true rfl) (l_z hL hi) rfl ?_
  refine gw_aload_n hC 2 dL_law_1369 rfl ?_
  refine l_arg hL (j0 := 4) (j4 := 0) 1 dL_law_1370 rfl dL_law_1371 rfl dL_law_1373 rfl dL_law_1374 dL_law_1375 (by omega) ?_
  refine gw_cVi (q := qL) (X' := X2) (v := v) (rest := [.int v]) hC [.int (xs (i + 1))] (aX12_said 0 qL qL_M (xs (i + 1)) X1 v X2 e2) mY_X12_said dL_law_1376 ml_L_198 (mo_o (S := qL) qL_M) (by rw [hL.2.2.1]; exact ⟨Nat.le_of_ble_eq_true rfl, Nat.le_of_ble_eq_true rfl⟩) rfl (Nat.le_of_ble_eq_true rfl) (l_z hL hi) rfl ?_
  refine gw_icmp_eq (tgt := 1459) hC dL_law_1379 (by decide) (fun _ => ?_) (fun q => absurd rfl q)
  exact l_end hL (by show 240 + i ≤ _; omega) (by show 9924 + 6 * i ≤ _; omega) (ih X2 i2)
set_option maxRecDepth 100000 in
theorem l_c42 (hL : lC g L xs nm) (hX : Inv X) (hi : i + 6 ≤ L) (ih : ∀ X', Inv X' → GW (lK nm) g 23 (240 + (i + 6), 9924 + 6 * (i + 6)) (lvL (i + 6)) [] (m_w qL X')) : GW (lK nm) g 1384 (240 + i, 9924 + 6 * i) (lvL i) [] (m_w qL X) := by
  have hC := hL.1
  obtain ⟨v, X1, X2, e1, e2, i2⟩ := sim_image (xs (i + 1)) X hX
  refine gw_aload_n hC 3 dL_law_1384 rfl ?_
  refine l_arg hL (j0 := 4) (j4 := 0) 1 dL_law_1385 rfl dL_law_1386 rfl dL_law_1388 rfl dL_law_1389 dL_law_1390 (by omega) ?_
  refine gw_cVi (q := qL) (X' := X1) (v := v) (rest := []) hC [.int (xs (i + 1))] (aX11_image 0 qL qL_W (xs (i + 1)) X v X1 e1) mY_X11_image dL_law_1391 ml_L_199 (lf_o (S := qL) qL_LF) (by rw [hL.2.2.1]; exact ⟨Nat.le_of_ble_eq_true rfl, Nat.le_of_ble_eq_true rfl⟩) rfl (Nat.le_of_ble_eq_true rfl) (l_z hL hi) rfl ?_
  refine gw_aload_n hC 2 dL_law_1394 rfl ?_
  refine l_arg hL (j0 := 4) (j4 := 0) 1 dL_law_1395 rfl dL_law_1396 rfl dL_law_1398 rfl dL_law_1399 dL_law_1400 (by omega) ?_
  refine gw_cVi (q := qL) (X' := X2) (v := v) (rest := [.int v]) hC [.int (xs (i + 1))] (aX12_image 0 qL qL_M (xs (i + 1)) X1 v X2 e2) mY_X12_image dL_law_1401 ml_L_202 (mo_o (S := qL) qL_M) (by rw [hL.2.2.1]; exact ⟨Nat.le_of_ble_eq_true rfl, Nat.le_of_ble_eq_true rfl⟩) rfl (Nat.le_of_ble_eq_true rfl) (l_z hL hi) rfl ?_
  refine gw_icmp_eq (tgt := 1459) hC dL_law_1404 (by decide) (fun _ => ?_) (fun q => absurd rfl q)
  exact l_end hL (by show 240 + i ≤ _; omega) (by show 9924 + 6 * i ≤ _; omega) (ih X2 i2)
set_option maxRecDepth 100000 in
theorem l_c43 (hL : lC g L xs nm) (hX : Inv X) (hi : i + 6 ≤ L) (ih : ∀ X', Inv X' → GW (lK nm) g 23 (240 + (i + 6), 9924 + 6 * (i + 6)) (lvL (i + 6)) [] (m_w qL X')) : GW (lK nm) g 1409 (240 + i, 9924 + 6 * i) (lvL i) [] (m_w qL X) := by
  have hC := hL.1
  obtain ⟨v, X1, X2, e1, e2, i2⟩ := sim_restore (xs (i + 1)) X hX
  refine gw_aload_n hC 3 dL_law_1409 rfl ?_
  refine l_arg hL (j0 := 4) (j4 := 0) 1 dL_law_1410 rfl dL_law_1411 rfl dL_law_1413 rfl dL_law_1414 dL_law_1415 (by omega) ?_
  refine gw_cVi (q := qL) (X' := X1) (v := v) (rest := []) hC [.int (xs (i + 1))] (aX11_restore 0 qL qL_W (xs (i + 1)) X v X1 e1) mY_X11_restore dL_law_1416 ml_L_203 (lf_o (S := qL) qL_LF) (by rw [hL.2.2.1]; exact ⟨Nat.le_of_ble_eq_true rfl, Nat.le_of_ble_eq_true rfl⟩) rfl (Nat.le_of_ble_eq_true rfl) (l_z hL hi) rfl ?_
  refine gw_aload_n hC 2 dL_law_1419 rfl ?_
  refine l_arg hL (j0 := 4) (j4 := 0) 1 dL_law_1420 rfl dL_law_1421 rfl dL_law_1423 rfl dL_law_1424 dL_law_1425 (by omega) ?_
  refine gw_cVi (q := qL) (X' := X2) (v := v) (rest := [.int v]) hC [.int (xs (i + 1))] (aX12_restore 0 qL qL_M (xs (i + 1)) X1 v X2 e2) mY_X12_restore dL_law_1426 ml_L_206 (mo_o (S := qL) qL_M) (by rw [hL.2.2.1]; exact ⟨Nat.le_of_ble_eq_true rfl, Nat.le_of_ble_eq_true rfl⟩) rfl (Nat.le_of_ble_eq_true rfl) (l_z hL hi) rfl ?_
  refine gw_icmp_eq (tgt := 1459) hC dL_law_1429 (by decide) (fun _ => ?_) (fun q => absurd rfl q)
  exact l_end hL (by show 240 + i ≤ _; omega) (by show 9924 + 6 * i ≤ _; omega) (ih X2 i2)
set_option maxRecDepth 100000 in
theorem l_c44 (hL : lC g L xs nm) (hX : Inv X) (hi : i + 6 ≤ L) (ih : ∀ X', Inv X' → GW (lK nm) g 23 (240 + (i + 6), 9924 + 6 * (i + 6)) (lvL (i + 6)) [] (m_w qL X')) : GW (lK nm) g 1434 (240 + i, 9924 + 6 * i) (lvL i) [] (m_w qL X) := by
  have hC := hL.1
  obtain ⟨v, X1, X2, e1, e2, i2⟩ := sim_count (xs (i + 1)) X hX
  refine gw_aload_n hC 3 dL_law_1434 rfl ?_
  refine l_arg hL (j0 := 4) (j4 := 0) 1 dL_law_1435 rfl dL_law_1436 rfl dL_law_1438 rfl dL_law_1439 dL_law_1440 (by omega) ?_
  refine gw_cVi (q := qL) (X' := X1) (v := v) (rest := []) hC [.int (xs (i + 1))] (aX11_count 0 qL qL_W (xs (i + 1)) X v X1 e1) mY_X11_count dL_law_1441 ml_L_207 (lf_o (S := qL) qL_LF) (by rw [hL.2.2.1]; exact ⟨Nat.le_of_ble_eq_true rfl, Nat.le_of_ble_eq_true rfl⟩) rfl (Nat.le_of_ble_eq_true rfl) (l_z hL hi) rfl ?_
  refine gw_aload_n hC 2 dL_law_1444 rfl ?_
  refine l_arg hL (j0 := 4) (j4 := 0) 1 dL_law_1445 rfl dL_law_1446 rfl dL_law_1448 rfl dL_law_1449 dL_law_1450 (by omega) ?_
  refine gw_cVi (q := qL) (X' := X2) (v := v) (rest := [.int v]) hC [.int (xs (i + 1))] (aX12_count 0 qL qL_M (xs (i + 1)) X1 v X2 e2) mY_X12_count dL_law_1451 ml_L_210 (mo_o (S := qL) qL_M) (by rw [hL.2.2.1]; exact ⟨Nat.le_of_ble_eq_true rfl, Nat.le_of_ble_eq_true rfl⟩) rfl (Nat.le_of_ble_eq_true rfl) (l_z hL hi) rfl ?_
  refine gw_icmp_eq (tgt := 1459) hC dL_law_1454 (by decide) (fun _ => ?_) (fun q => absurd rfl q)
  exact l_end hL (by show 240 + i ≤ _; omega) (by show 9924 + 6 * i ≤ _; omega) (ih X2 i2)
set_option maxRecDepth 100000 in
theorem l_c9 (hL : lC g L xs nm) (hX : Inv X) (hi : i + 6 ≤ L) (ih : ∀ X', Inv X' → GW (lK nm) g 23 (240 + (i + 6), 9924 + 6 * (i + 6)) (lvL (i + 6)) [] (m_w qL X')) : GW (lK nm) g 545 (240 + i, 9924 + 6 * i) (lvL i) [] (m_w qL X) := by
  have hC := hL.1
  have hl := hL.2.1
  refine gw_aload_n hC 3 dL_law_545 rfl ?_
  refine l_arg hL (j0 := 4) (j4 := 0) 1 dL_law_546 rfl dL_law_547 rfl dL_law_549 rfl dL_law_550 dL_law_551 (by omega) ?_
  refine l_arg hL (j0 := 4) (j4 := 0) 2 dL_law_552 rfl dL_law_553 rfl dL_law_555 rfl dL_law_556 dL_law_557 (by omega) ?_
  refine gw_aload_n hC 1 dL_law_558 rfl ?_
  refine gw_callH (n := 4) (As := [.ref 0, .int (xs (i + 1)), .int (xs (i + 2)), .ref 239]) (rest := []) hC rfl (h_train 0 qL_W qL_9 (xs (i + 1)) (xs (i + 2)) X hl (g_G g) (fun (r : Option Value) (h' : m_H) => (∃ v, okTrain X (xs (i + 1)) (xs (i + 2)) ∧ fX11_train (xs (i + 1)) (xs (i + 2)) X = some (v, X) ∧ r = some (.int 0) ∧ h' = m_w qL (sJ X 239 0 v.toInt64)) ∨ (¬ okTrain X (xs (i + 1)) (xs (i + 2)) ∧ r = some (.int 1) ∧ h' = m_w qL X)) (fun v e ok => Or.inl ⟨v, ok, e, rfl, rfl⟩) (fun no => Or.inr ⟨no, rfl, rfl⟩) (fun ok => by obtain ⟨v, e, -⟩ := sim_train (xs (i + 1)) (xs (i + 2)) X hX ok; exact ⟨v, e⟩)) (m_tb_in (by decide +kernel) rfl) (m_tb_in (by decide +kernel) rfl) in_L ⟨by decide +kernel, by decide +kernel, by decide +kernel⟩ dL_law_559 ml_L_62 (by rw [hL.2.2.1]; exact ⟨Nat.le_of_ble_eq_true rfl, Nat.le_of_ble_eq_true rfl⟩) rfl (Nat.le_of_ble_eq_true rfl) hL.2.2.2.1 (l_z1 hL hi) rfl (fun r h' hq => ?_)
  rcases hq with ⟨v, ok, e1, rfl, rfl⟩ | ⟨no, rfl, rfl⟩
  · have hX1 : Inv (sJ X 239 0 v.toInt64) := hX.out
    obtain ⟨v', f1, f2⟩ := sim_train (xs (i + 1)) (xs (i + 2)) (sJ X 239 0 v.toInt64) hX1 ok
    have f3 := F9_train (xs (i + 1)) (xs (i + 2)) X v.toInt64 v X e1
    rw [f3] at f1
    obtain ⟨rfl, -⟩ := Prod.mk.inj (Option.some.inj f1)
    show GW (lK nm) g 562 _ (lvL i) [.int 0] _
    refine gw_istore hC [(5, .int 0), (4, .int (nI i)), (3, .ref 239), (2, .ref 218), (1, .ref 0), (0, .ref 1300000)] dL_law_562 (Nat.le_of_ble_eq_true rfl) rfl ?_
    refine gw_aload_n hC 3 dL_law_564 rfl ?_
    refine l_arg hL (j0 := 5) (j4 := 1) 1 dL_law_565 rfl dL_law_566 rfl dL_law_568 rfl dL_law_569 dL_law_570 (by omega) ?_
    refine l_arg hL (j0 := 5) (j4 := 1) 2 dL_law_571 rfl dL_law_572 rfl dL_law_574 rfl dL_law_575 dL_law_576 (by omega) ?_
    refine gw_cVi (q := qL) (X' := (sI (sJ X 239 0 v.toInt64) 218 0 0)) (v := v) (rest := []) hC [.int (xs (i + 1)), .int (xs (i + 2))] (aX12_train 0 qL qL_M (xs (i + 1)) (xs (i + 2)) (sJ X 239 0 v.toInt64) v (sI (sJ X 239 0 v.toInt64) 218 0 0) f2) mY_X12_train dL_law_577 ml_L_67 (mo_o (S := qL) qL_M) (by rw [hL.2.2.1]; exact ⟨Nat.le_of_ble_eq_true rfl, Nat.le_of_ble_eq_true rfl⟩) rfl (Nat.le_of_ble_eq_true rfl) (l_z1 hL hi) rfl ?_
    refine gw_istore hC [(6, .int v), (5, .int 0), (4, .int (nI i)), (3, .ref 239), (2, .ref 218), (1, .ref 0), (0, .ref 1300000)] dL_law_580 (Nat.le_of_ble_eq_true rfl) rfl ?_
    refine gw_aload_n hC 4 dL_law_582 rfl ?_
    refine gw_cVi (q := qL) (X' := (sI (sJ X 239 0 v.toInt64) 218 0 0)) (v := 0) (rest := []) hC [] (aX12_thrown 0 qL qL_M (sI (sJ X 239 0 v.toInt64) 218 0 0) 0 (sI (sJ X 239 0 v.toInt64) 218 0 0) rfl) mY_X12_thrown dL_law_583 ml_L_68 (mo_o (S := qL) qL_M) (by rw [hL.2.2.1]; exact ⟨Nat.le_of_ble_eq_true rfl, Nat.le_of_ble_eq_true rfl⟩) rfl (Nat.le_of_ble_eq_true rfl) (l_z1 hL hi) rfl ?_
    refine gw_iload hC 1 dL_law_586 rfl ?_
    refine gw_icmp_eq (tgt := 593) hC dL_law_588 (by decide) (fun _ => ?_) (fun q => absurd rfl q)
    refine gw_iload hC 1 dL_law_593 rfl ?_
    refine gw_if_ne (tgt := 610) hC dL_law_595 (by decide) (fun q => absurd rfl q) (fun _ => ?_)
    refine gw_aload_n hC 3 dL_law_598 rfl ?_
    refine gw_iconst hC (v := 0) dL_law_599 rfl ?_
    refine gw_laN hC 0 dL_law_600 qL_9 (by decide) (by decide) rfl ?_
    refine gw_iload hC 0 dL_law_601 rfl ?_
    refine gw_i2l hC dL_law_603 ?_
    refine gw_lcmp hC dL_law_604 ?_
    refine gw_if_eq (tgt := 610) hC dL_law_605 (by decide) (fun _ => ?_) (fun q => absurd (lg_cmp_self v.toInt64) q)
    refine gw_goto (tgt := 1459) hC dL_law_610 (by decide) ?_
    refine gw_sub [2, 3, 4, 5, 6] rfl ?_
    exact l_end hL (by show 240 + i + 1 ≤ _; omega) (by show 9924 + 6 * i + 6 ≤ _; omega) (ih (sI (sJ X 239 0 v.toInt64) 218 0 0) hX1.thrown)
  · have hX1 := hX
    have f2 := thr_train (xs (i + 1)) (xs (i + 2)) X hX no
    show GW (lK nm) g 562 _ (lvL i) [.int 1] _
    refine gw_istore hC [(5, .int 1), (4, .int (nI i)), (3, .ref 239), (2, .ref 218), (1, .ref 0), (0, .ref 1300000)] dL_law_562 (Nat.le_of_ble_eq_true rfl) rfl ?_
    refine gw_aload_n hC 3 dL_law_564 rfl ?_
    refine l_arg hL (j0 := 5) (j4 := 1) 1 dL_law_565 rfl dL_law_566 rfl dL_law_568 rfl dL_law_569 dL_law_570 (by omega) ?_
    refine l_arg hL (j0 := 5) (j4 := 1) 2 dL_law_571 rfl dL_law_572 rfl dL_law_574 rfl dL_law_575 dL_law_576 (by omega) ?_
    refine gw_cVi (q := qL) (X' := (sI X 218 0 1)) (v := 0) (rest := []) hC [.int (xs (i + 1)), .int (xs (i + 2))] (aX12_train 0 qL qL_M (xs (i + 1)) (xs (i + 2)) X 0 (sI X 218 0 1) f2) mY_X12_train dL_law_577 ml_L_67 (mo_o (S := qL) qL_M) (by rw [hL.2.2.1]; exact ⟨Nat.le_of_ble_eq_true rfl, Nat.le_of_ble_eq_true rfl⟩) rfl (Nat.le_of_ble_eq_true rfl) (l_z1 hL hi) rfl ?_
    refine gw_istore hC [(6, .int 0), (5, .int 1), (4, .int (nI i)), (3, .ref 239), (2, .ref 218), (1, .ref 0), (0, .ref 1300000)] dL_law_580 (Nat.le_of_ble_eq_true rfl) rfl ?_
    refine gw_aload_n hC 4 dL_law_582 rfl ?_
    refine gw_cVi (q := qL) (X' := (sI X 218 0 1)) (v := 1) (rest := []) hC [] (aX12_thrown 0 qL qL_M (sI X 218 0 1) 1 (sI X 218 0 1) rfl) mY_X12_thrown dL_law_583 ml_L_68 (mo_o (S := qL) qL_M) (by rw [hL.2.2.1]; exact ⟨Nat.le_of_ble_eq_true rfl, Nat.le_of_ble_eq_true rfl⟩) rfl (Nat.le_of_ble_eq_true rfl) (l_z1 hL hi) rfl ?_
    refine gw_iload hC 1 dL_law_586 rfl ?_
    refine gw_icmp_eq (tgt := 593) hC dL_law_588 (by decide) (fun _ => ?_) (fun q => absurd rfl q)
    refine gw_iload hC 1 dL_law_593 rfl ?_
    refine gw_if_ne (tgt := 610) hC dL_law_595 (by decide) (fun _ => ?_) (fun q => absurd q (by decide))
    refine gw_goto (tgt := 1459) hC dL_law_610 (by decide) ?_
    refine gw_sub [2, 3, 4, 5, 6] rfl ?_
    exact l_end hL (by show 240 + i + 1 ≤ _; omega) (by show 9924 + 6 * i + 6 ≤ _; omega) (ih (sI X 218 0 1) hX1.thrown)
set_option maxRecDepth 100000 in
theorem l_c33 (hL : lC g L xs nm) (hX : Inv X) (hi : i + 6 ≤ L) (ih : ∀ X', Inv X' → GW (lK nm) g 23 (240 + (i + 6), 9924 + 6 * (i + 6)) (lvL (i + 6)) [] (m_w qL X')) : GW (lK nm) g 1116 (240 + i, 9924 + 6 * i) (lvL i) [] (m_w qL X) := by
  have hC := hL.1
  have hl := hL.2.1
  refine gw_aload_n hC 3 dL_law_1116 rfl ?_
  refine l_arg hL (j0 := 4) (j4 := 0) 1 dL_law_1117 rfl dL_law_1118 rfl dL_law_1120 rfl dL_law_1121 dL_law_1122 (by omega) ?_
  refine gw_aload_n hC 1 dL_law_1123 rfl ?_
  refine gw_callH (n := 3) (As := [.ref 0, .int (xs (i + 1)), .ref 239]) (rest := []) hC rfl (h_mean 0 qL_W qL_9 (xs (i + 1)) X hX hl (g_G g) (fun (r : Option Value) (h' : m_H) => (∃ v, okMean X (xs (i + 1)) ∧ fX11_mean (xs (i + 1)) X = some (v, X) ∧ r = some (.int 0) ∧ h' = m_w qL (sJ X 239 0 v.toInt64)) ∨ (¬ okMean X (xs (i + 1)) ∧ r = some (.int 1) ∧ h' = m_w qL X)) (fun v e ok => Or.inl ⟨v, ok, e, rfl, rfl⟩) (fun no => Or.inr ⟨no, rfl, rfl⟩) (fun ok => by obtain ⟨v, e, -⟩ := sim_mean (xs (i + 1)) X hX ok; exact ⟨v, e⟩)) (m_tb_in (by decide +kernel) rfl) (m_tb_in (by decide +kernel) rfl) in_L ⟨by decide +kernel, by decide +kernel, by decide +kernel⟩ dL_law_1124 ml_L_163 (by rw [hL.2.2.1]; exact ⟨Nat.le_of_ble_eq_true rfl, Nat.le_of_ble_eq_true rfl⟩) rfl (Nat.le_of_ble_eq_true rfl) hL.2.2.2.1 (l_z1 hL hi) rfl (fun r h' hq => ?_)
  rcases hq with ⟨v, ok, e1, rfl, rfl⟩ | ⟨no, rfl, rfl⟩
  · have hX1 : Inv (sJ X 239 0 v.toInt64) := hX.out
    obtain ⟨v', f1, f2⟩ := sim_mean (xs (i + 1)) (sJ X 239 0 v.toInt64) hX1 ok
    have f3 := F9_mean (xs (i + 1)) X v.toInt64 v X e1
    rw [f3] at f1
    obtain ⟨rfl, -⟩ := Prod.mk.inj (Option.some.inj f1)
    show GW (lK nm) g 1127 _ (lvL i) [.int 0] _
    refine gw_istore hC [(5, .int 0), (4, .int (nI i)), (3, .ref 239), (2, .ref 218), (1, .ref 0), (0, .ref 1300000)] dL_law_1127 (Nat.le_of_ble_eq_true rfl) rfl ?_
    refine gw_aload_n hC 3 dL_law_1129 rfl ?_
    refine l_arg hL (j0 := 5) (j4 := 1) 1 dL_law_1130 rfl dL_law_1131 rfl dL_law_1133 rfl dL_law_1134 dL_law_1135 (by omega) ?_
    refine gw_cVi (q := qL) (X' := (sI (sJ X 239 0 v.toInt64) 218 0 0)) (v := v) (rest := []) hC [.int (xs (i + 1))] (aX12_mean 0 qL qL_M (xs (i + 1)) (sJ X 239 0 v.toInt64) v (sI (sJ X 239 0 v.toInt64) 218 0 0) f2) mY_X12_mean dL_law_1136 ml_L_166 (mo_o (S := qL) qL_M) (by rw [hL.2.2.1]; exact ⟨Nat.le_of_ble_eq_true rfl, Nat.le_of_ble_eq_true rfl⟩) rfl (Nat.le_of_ble_eq_true rfl) (l_z1 hL hi) rfl ?_
    refine gw_istore hC [(6, .int v), (5, .int 0), (4, .int (nI i)), (3, .ref 239), (2, .ref 218), (1, .ref 0), (0, .ref 1300000)] dL_law_1139 (Nat.le_of_ble_eq_true rfl) rfl ?_
    refine gw_aload_n hC 4 dL_law_1141 rfl ?_
    refine gw_cVi (q := qL) (X' := (sI (sJ X 239 0 v.toInt64) 218 0 0)) (v := 0) (rest := []) hC [] (aX12_thrown 0 qL qL_M (sI (sJ X 239 0 v.toInt64) 218 0 0) 0 (sI (sJ X 239 0 v.toInt64) 218 0 0) rfl) mY_X12_thrown dL_law_1142 ml_L_68 (mo_o (S := qL) qL_M) (by rw [hL.2.2.1]; exact ⟨Nat.le_of_ble_eq_true rfl, Nat.le_of_ble_eq_true rfl⟩) rfl (Nat.le_of_ble_eq_true rfl) (l_z1 hL hi) rfl ?_
    refine gw_iload hC 1 dL_law_1145 rfl ?_
    refine gw_icmp_eq (tgt := 1152) hC dL_law_1147 (by decide) (fun _ => ?_) (fun q => absurd rfl q)
    refine gw_iload hC 1 dL_law_1152 rfl ?_
    refine gw_if_ne (tgt := 1169) hC dL_law_1154 (by decide) (fun q => absurd rfl q) (fun _ => ?_)
    refine gw_aload_n hC 3 dL_law_1157 rfl ?_
    refine gw_iconst hC (v := 0) dL_law_1158 rfl ?_
    refine gw_laN hC 0 dL_law_1159 qL_9 (by decide) (by decide) rfl ?_
    refine gw_iload hC 0 dL_law_1160 rfl ?_
    refine gw_i2l hC dL_law_1162 ?_
    refine gw_lcmp hC dL_law_1163 ?_
    refine gw_if_eq (tgt := 1169) hC dL_law_1164 (by decide) (fun _ => ?_) (fun q => absurd (lg_cmp_self v.toInt64) q)
    refine gw_goto (tgt := 1459) hC dL_law_1169 (by decide) ?_
    refine gw_sub [2, 3, 4, 5, 6] rfl ?_
    exact l_end hL (by show 240 + i + 1 ≤ _; omega) (by show 9924 + 6 * i + 6 ≤ _; omega) (ih (sI (sJ X 239 0 v.toInt64) 218 0 0) hX1.thrown)
  · have hX1 := hX
    have f2 := thr_mean (xs (i + 1)) X hX no
    show GW (lK nm) g 1127 _ (lvL i) [.int 1] _
    refine gw_istore hC [(5, .int 1), (4, .int (nI i)), (3, .ref 239), (2, .ref 218), (1, .ref 0), (0, .ref 1300000)] dL_law_1127 (Nat.le_of_ble_eq_true rfl) rfl ?_
    refine gw_aload_n hC 3 dL_law_1129 rfl ?_
    refine l_arg hL (j0 := 5) (j4 := 1) 1 dL_law_1130 rfl dL_law_1131 rfl dL_law_1133 rfl dL_law_1134 dL_law_1135 (by omega) ?_
    refine gw_cVi (q := qL) (X' := (sI X 218 0 1)) (v := 0) (rest := []) hC [.int (xs (i + 1))] (aX12_mean 0 qL qL_M (xs (i + 1)) X 0 (sI X 218 0 1) f2) mY_X12_mean dL_law_1136 ml_L_166 (mo_o (S := qL) qL_M) (by rw [hL.2.2.1]; exact ⟨Nat.le_of_ble_eq_true rfl, Nat.le_of_ble_eq_true rfl⟩) rfl (Nat.le_of_ble_eq_true rfl) (l_z1 hL hi) rfl ?_
    refine gw_istore hC [(6, .int 0), (5, .int 1), (4, .int (nI i)), (3, .ref 239), (2, .ref 218), (1, .ref 0), (0, .ref 1300000)] dL_law_1139 (Nat.le_of_ble_eq_true rfl) rfl ?_
    refine gw_aload_n hC 4 dL_law_1141 rfl ?_
    refine gw_cVi (q := qL) (X' := (sI X 218 0 1)) (v := 1) (rest := []) hC [] (aX12_thrown 0 qL qL_M (sI X 218 0 1) 1 (sI X 218 0 1) rfl) mY_X12_thrown dL_law_1142 ml_L_68 (mo_o (S := qL) qL_M) (by rw [hL.2.2.1]; exact ⟨Nat.le_of_ble_eq_true rfl, Nat.le_of_ble_eq_true rfl⟩) rfl (Nat.le_of_ble_eq_true rfl) (l_z1 hL hi) rfl ?_
    refine gw_iload hC 1 dL_law_1145 rfl ?_
    refine gw_icmp_eq (tgt := 1152) hC dL_law_1147 (by decide) (fun _ => ?_) (fun q => absurd rfl q)
    refine gw_iload hC 1 dL_law_1152 rfl ?_
    refine gw_if_ne (tgt := 1169) hC dL_law_1154 (by decide) (fun _ => ?_) (fun q => absurd q (by decide))
    refine gw_goto (tgt := 1459) hC dL_law_1169 (by decide) ?_
    refine gw_sub [2, 3, 4, 5, 6] rfl ?_
    exact l_end hL (by show 240 + i + 1 ≤ _; omega) (by show 9924 + 6 * i + 6 ≤ _; omega) (ih (sI X 218 0 1) hX1.thrown)
set_option maxRecDepth 100000 in
theorem l_sw (hL : lC g L xs nm) (hX : Inv X) (hi : i + 6 ≤ L) (ih : ∀ X', Inv X' → GW (lK nm) g 23 (240 + (i + 6), 9924 + 6 * (i + 6)) (lvL (i + 6)) [] (m_w qL X')) {x : Int32} : GW (lK nm) g 40 (240 + i, 9924 + 6 * i) (lvL i) [.int x] (m_w qL X) := by
  have hC := hL.1
  by_cases hx : x.toInt < 0 ∨ 44 < x.toInt
  · exact gw_tabOut (tgt := 1459) hC dL_law_40 hx (by decide) (l_end hL (by show 240 + i ≤ _; omega) (by show 9924 + 6 * i ≤ _; omega) (ih X hX))
  · have h0 : 0 ≤ x := by
      rw [i32_le]
      have z : (0 : Int32).toInt = 0 := by decide
      omega
    have h1 : x < nI 45 := by
      rw [i32_lt]
      have z : (nI 45).toInt = 45 := by decide
      omega
    obtain ⟨n, hn, rfl⟩ := idx_of (by decide) ⟨h0, h1⟩
    clear h0 h1 hx
    match n, hn with
    | 0, _ => exact gw_tabIn (tgt := 236) (off := 196) hC dL_law_40 (by decide) (by decide) (by decide) (by decide) (l_c0 hL hX hi ih)
    | 1, _ => exact gw_tabIn (tgt := 309) (off := 269) hC dL_law_40 (by decide) (by decide) (by decide) (by decide) (l_c1 hL hX hi ih)
    | 2, _ => exact gw_tabIn (tgt := 334) (off := 294) hC dL_law_40 (by decide) (by decide) (by decide) (by decide) (l_c2 hL hX hi ih)
    | 3, _ => exact gw_tabIn (tgt := 347) (off := 307) hC dL_law_40 (by decide) (by decide) (by decide) (by decide) (l_c3 hL hX hi ih)
    | 4, _ => exact gw_tabIn (tgt := 360) (off := 320) hC dL_law_40 (by decide) (by decide) (by decide) (by decide) (l_c4 hL hX hi ih)
    | 5, _ => exact gw_tabIn (tgt := 397) (off := 357) hC dL_law_40 (by decide) (by decide) (by decide) (by decide) (l_c5 hL hX hi ih)
    | 6, _ => exact gw_tabIn (tgt := 434) (off := 394) hC dL_law_40 (by decide) (by decide) (by decide) (by decide) (l_c6 hL hX hi ih)
    | 7, _ => exact gw_tabIn (tgt := 471) (off := 431) hC dL_law_40 (by decide) (by decide) (by decide) (by decide) (l_c7 hL hX hi ih)
    | 8, _ => exact gw_tabIn (tgt := 508) (off := 468) hC dL_law_40 (by decide) (by decide) (by decide) (by decide) (l_c8 hL hX hi ih)
    | 9, _ => exact gw_tabIn (tgt := 545) (off := 505) hC dL_law_40 (by decide) (by decide) (by decide) (by decide) (l_c9 hL hX hi ih)
    | 10, _ => exact gw_tabIn (tgt := 613) (off := 573) hC dL_law_40 (by decide) (by decide) (by decide) (by decide) (l_c10 hL hX hi ih)
    | 11, _ => exact gw_tabIn (tgt := 638) (off := 598) hC dL_law_40 (by decide) (by decide) (by decide) (by decide) (l_c11 hL hX hi ih)
    | 12, _ => exact gw_tabIn (tgt := 663) (off := 623) hC dL_law_40 (by decide) (by decide) (by decide) (by decide) (l_c12 hL hX hi ih)
    | 13, _ => exact gw_tabIn (tgt := 688) (off := 648) hC dL_law_40 (by decide) (by decide) (by decide) (by decide) (l_c13 hL hX hi ih)
    | 14, _ => exact gw_tabIn (tgt := 713) (off := 673) hC dL_law_40 (by decide) (by decide) (by decide) (by decide) (l_c14 hL hX hi ih)
    | 15, _ => exact gw_tabIn (tgt := 750) (off := 710) hC dL_law_40 (by decide) (by decide) (by decide) (by decide) (l_c15 hL hX hi ih)
    | 16, _ => exact gw_tabIn (tgt := 775) (off := 735) hC dL_law_40 (by decide) (by decide) (by decide) (by decide) (l_c16 hL hX hi ih)
    | 17, _ => exact gw_tabIn (tgt := 800) (off := 760) hC dL_law_40 (by decide) (by decide) (by decide) (by decide) (l_c17 hL hX hi ih)
    | 18, _ => exact gw_tabIn (tgt := 813) (off := 773) hC dL_law_40 (by decide) (by decide) (by decide) (by decide) (l_c18 hL hX hi ih)
    | 19, _ => exact gw_tabIn (tgt := 826) (off := 786) hC dL_law_40 (by decide) (by decide) (by decide) (by decide) (l_c19 hL hX hi ih)
    | 20, _ => exact gw_tabIn (tgt := 851) (off := 811) hC dL_law_40 (by decide) (by decide) (by decide) (by decide) (l_c20 hL hX hi ih)
    | 21, _ => exact gw_tabIn (tgt := 864) (off := 824) hC dL_law_40 (by decide) (by decide) (by decide) (by decide) (l_c21 hL hX hi ih)
    | 22, _ => exact gw_tabIn (tgt := 889) (off := 849) hC dL_law_40 (by decide) (by decide) (by decide) (by decide) (l_c22 hL hX hi ih)
    | 23, _ => exact gw_tabIn (tgt := 914) (off := 874) hC dL_law_40 (by decide) (by decide) (by decide) (by decide) (l_c23 hL hX hi ih)
    | 24, _ => exact gw_tabIn (tgt := 927) (off := 887) hC dL_law_40 (by decide) (by decide) (by decide) (by decide) (l_c24 hL hX hi ih)
    | 25, _ => exact gw_tabIn (tgt := 940) (off := 900) hC dL_law_40 (by decide) (by decide) (by decide) (by decide) (l_c25 hL hX hi ih)
    | 26, _ => exact gw_tabIn (tgt := 953) (off := 913) hC dL_law_40 (by decide) (by decide) (by decide) (by decide) (l_c26 hL hX hi ih)
    | 27, _ => exact gw_tabIn (tgt := 990) (off := 950) hC dL_law_40 (by decide) (by decide) (by decide) (by decide) (l_c27 hL hX hi ih)
    | 28, _ => exact gw_tabIn (tgt := 1015) (off := 975) hC dL_law_40 (by decide) (by decide) (by decide) (by decide) (l_c28 hL hX hi ih)
    | 29, _ => exact gw_tabIn (tgt := 1052) (off := 1012) hC dL_law_40 (by decide) (by decide) (by decide) (by decide) (l_c29 hL hX hi ih)
    | 30, _ => exact gw_tabIn (tgt := 1065) (off := 1025) hC dL_law_40 (by decide) (by decide) (by decide) (by decide) (l_c30 hL hX hi ih)
    | 31, _ => exact gw_tabIn (tgt := 1078) (off := 1038) hC dL_law_40 (by decide) (by decide) (by decide) (by decide) (l_c31 hL hX hi ih)
    | 32, _ => exact gw_tabIn (tgt := 1103) (off := 1063) hC dL_law_40 (by decide) (by decide) (by decide) (by decide) (l_c32 hL hX hi ih)
    | 33, _ => exact gw_tabIn (tgt := 1116) (off := 1076) hC dL_law_40 (by decide) (by decide) (by decide) (by decide) (l_c33 hL hX hi ih)
    | 34, _ => exact gw_tabIn (tgt := 1172) (off := 1132) hC dL_law_40 (by decide) (by decide) (by decide) (by decide) (l_c34 hL hX hi ih)
    | 35, _ => exact gw_tabIn (tgt := 1197) (off := 1157) hC dL_law_40 (by decide) (by decide) (by decide) (by decide) (l_c35 hL hX hi ih)
    | 36, _ => exact gw_tabIn (tgt := 1222) (off := 1182) hC dL_law_40 (by decide) (by decide) (by decide) (by decide) (l_c36 hL hX hi ih)
    | 37, _ => exact gw_tabIn (tgt := 1259) (off := 1219) hC dL_law_40 (by decide) (by decide) (by decide) (by decide) (l_c37 hL hX hi ih)
    | 38, _ => exact gw_tabIn (tgt := 1296) (off := 1256) hC dL_law_40 (by decide) (by decide) (by decide) (by decide) (l_c38 hL hX hi ih)
    | 39, _ => exact gw_tabIn (tgt := 1321) (off := 1281) hC dL_law_40 (by decide) (by decide) (by decide) (by decide) (l_c39 hL hX hi ih)
    | 40, _ => exact gw_tabIn (tgt := 1346) (off := 1306) hC dL_law_40 (by decide) (by decide) (by decide) (by decide) (l_c40 hL hX hi ih)
    | 41, _ => exact gw_tabIn (tgt := 1359) (off := 1319) hC dL_law_40 (by decide) (by decide) (by decide) (by decide) (l_c41 hL hX hi ih)
    | 42, _ => exact gw_tabIn (tgt := 1384) (off := 1344) hC dL_law_40 (by decide) (by decide) (by decide) (by decide) (l_c42 hL hX hi ih)
    | 43, _ => exact gw_tabIn (tgt := 1409) (off := 1369) hC dL_law_40 (by decide) (by decide) (by decide) (by decide) (l_c43 hL hX hi ih)
    | 44, _ => exact gw_tabIn (tgt := 1434) (off := 1394) hC dL_law_40 (by decide) (by decide) (by decide) (by decide) (l_c44 hL hX hi ih)
    | n + 45, hn => exact absurd hn (by omega)
set_option maxRecDepth 100000 in
theorem l_lp (hL : lC g L xs nm) : ∀ (n i : Nat) (X : X_), Inv X → i ≤ L → L - i < n → GW (lK nm) g 23 (240 + i, 9924 + 6 * i) (lvL i) [] (m_w qL X) := by
  have hC := hL.1
  have hl := hL.2.2.2.2.2.2.2.1
  intro n
  induction n with
  | zero => intro i X _ _ h; exact absurd h (Nat.not_lt_zero _)
  | succ n ih =>
    intro i X hX hi hm
    refine gw_iload hC 0 dL_law_23 rfl ?_
    refine gw_aload_n hC 4 dL_law_25 rfl ?_
    refine gw_slen hC (by decide) hL.2.2.2.2.1 hL.2.2.2.2.2.1 hL.2.2.2.2.2.2.1 dL_law_26 ?_
    refine gw_bipush hC (v := 6) dL_law_27 (by decide) ?_
    refine gw_isub hC dL_law_29 ?_
    refine gw_icmp_gt (tgt := 1465) hC dL_law_30 (by decide) (fun _ => hL.2.2.2.2.2.2.2.2 _ _ _ (by show 240 + i ≤ 601024; omega) (by show 9924 + 6 * i ≤ 7293034; omega)) (fun c => ?_)
    have hi6 : i + 6 ≤ L := l_ge (by omega) hl c
    refine gw_aload_n hC 4 dL_law_33 rfl ?_
    refine gw_iload hC 0 dL_law_34 rfl ?_
    refine gw_sld hC i (by decide) hL.2.2.2.2.1 hL.2.2.2.2.2.1 hL.2.2.2.2.2.2.1 (by omega) (by omega) rfl dL_law_36 ?_
    refine gw_bipush hC (v := 63) dL_law_37 (by decide) ?_
    refine gw_iand hC dL_law_39 ?_
    exact l_sw hL hX hi6 (fun X' hX' => ih (i + 6) X' hX' hi6 (by omega))
end LL
