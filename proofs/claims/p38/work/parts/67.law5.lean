/-! THE LAW, 5: cases -/
theorem lc_put {p : Program} {l : Launch} {e : Env} {s : State} {m : MethodId} {below : List Frame} {meth : Method} {c : Code} {b L : Nat} {xs : Nat → Int32} {G : Cx} {SA : Nat → Nat} {am xa out : Nat} (Z : LX p l e s m meth c b L xs G SA out) : LStep p l e s m below meth c b L G SA am xa out 236 := by
  intro k H locs cells slots i ls Q hI hS hi hc hs hl kk
  obtain ⟨hx, hb, hml, hown, hts, hC, hX, hbl, hL, hst, hSA, hSo, hout⟩ := Z
  have hK := hC.1
  have hA : ∀ q : Nat, s.heap.size ≤ q → A0f s.heap.size q := fun q h => h
  have hbA : ¬ A0f s.heap.size b := Nat.not_le_of_lt hbl
  obtain ⟨X, es, hSS, ⟨th, hM⟩, hO⟩ := hI
  obtain ⟨y1, e1⟩ : ∃ y, xs (nI (i + 1)).toNatClampNeg = y := ⟨_, rfl⟩
  obtain ⟨y2, e2⟩ : ∃ y, xs (nI (i + 2)).toNatClampNeg = y := ⟨_, rfl⟩
  obtain ⟨y3, e3⟩ : ∃ y, xs (nI (i + 3)).toNatClampNeg = y := ⟨_, rfl⟩
  obtain ⟨y4, e4⟩ : ∃ y, xs (nI (i + 4)).toNatClampNeg = y := ⟨_, rfl⟩
  obtain ⟨y5, e5⟩ : ∃ y, xs (nI (i + 5)).toNatClampNeg = y := ⟨_, rfl⟩
  obtain ⟨y6, e6⟩ : ∃ y, xs (nI (i + 6)).toNatClampNeg = y := ⟨_, rfl⟩
  refine lv_aload_n hx hb dL_law_236 rfl (lv_at hl 1 rfl) ?_
  refine lv_aload_n hx hb dL_law_237 rfl (lv_at hl 0 rfl) ?_
  refine lv_iload hx hb dL_law_238 (lv_at hl 4 rfl) ?_
  refine lv_iconst (v := nI 1) hx hb dL_law_240 (by decide) ?_
  refine lv_iadd hx hb dL_law_241 ?_
  refine lv_cv (nI_add i 1) ?_
  refine va_sld hx hb hX hbl hbA hS (vp_in_nI (n := i + 1) (N := L) (by omega) (by omega)) dL_law_242 ?_
  refine lv_cv e1 ?_
  refine lv_aload_n hx hb dL_law_243 rfl (lv_at hl 0 rfl) ?_
  refine lv_iload hx hb dL_law_244 (lv_at hl 4 rfl) ?_
  refine lv_iconst (v := nI 2) hx hb dL_law_246 (by decide) ?_
  refine lv_iadd hx hb dL_law_247 ?_
  refine lv_cv (nI_add i 2) ?_
  refine va_sld hx hb hX hbl hbA hS (vp_in_nI (n := i + 2) (N := L) (by omega) (by omega)) dL_law_248 ?_
  refine lv_cv e2 ?_
  refine lv_aload_n hx hb dL_law_249 rfl (lv_at hl 0 rfl) ?_
  refine lv_iload hx hb dL_law_250 (lv_at hl 4 rfl) ?_
  refine lv_iconst (v := nI 3) hx hb dL_law_252 (by decide) ?_
  refine lv_iadd hx hb dL_law_253 ?_
  refine lv_cv (nI_add i 3) ?_
  refine va_sld hx hb hX hbl hbA hS (vp_in_nI (n := i + 3) (N := L) (by omega) (by omega)) dL_law_254 ?_
  refine lv_cv e3 ?_
  refine lv_aload_n hx hb dL_law_255 rfl (lv_at hl 0 rfl) ?_
  refine lv_iload hx hb dL_law_256 (lv_at hl 4 rfl) ?_
  refine lv_iconst (v := nI 4) hx hb dL_law_258 (by decide) ?_
  refine lv_iadd hx hb dL_law_259 ?_
  refine lv_cv (nI_add i 4) ?_
  refine va_sld hx hb hX hbl hbA hS (vp_in_nI (n := i + 4) (N := L) (by omega) (by omega)) dL_law_260 ?_
  refine lv_cv e4 ?_
  refine lv_aload_n hx hb dL_law_261 rfl (lv_at hl 0 rfl) ?_
  refine lv_iload hx hb dL_law_262 (lv_at hl 4 rfl) ?_
  refine lv_iconst (v := nI 5) hx hb dL_law_264 (by decide) ?_
  refine lv_iadd hx hb dL_law_265 ?_
  refine lv_cv (nI_add i 5) ?_
  refine va_sld hx hb hX hbl hbA hS (vp_in_nI (n := i + 5) (N := L) (by omega) (by omega)) dL_law_266 ?_
  refine lv_cv e5 ?_
  refine lv_aload_n hx hb dL_law_267 rfl (lv_at hl 0 rfl) ?_
  refine lv_iload hx hb dL_law_268 (lv_at hl 4 rfl) ?_
  refine lv_bipush (v := nI 6) hx hb dL_law_270 (by decide) ?_
  refine lv_iadd hx hb dL_law_272 ?_
  refine lv_cv (nI_add i 6) ?_
  refine va_sld hx hb hX hbl hbA hS (vp_in_nI (n := i + 6) (N := L) (by omega) (by omega)) dL_law_273 ?_
  refine lv_cv e6 ?_
  refine lv_aload_n hx hb dL_law_274 rfl (lv_at hl 3 rfl) ?_
  refine qI_SW (A := A0f s.heap.size) (A1 := (A1f SA out H.size)) (As := [.ref (SA 0), .int y1, .int y2, .int y3, .int y4, .int y5, .int y6, .ref out]) (rest := []) ⟨hx, hb, hml, hown, hts⟩ (mL_put (A := (A1f SA out H.size)) hst (out := out) (SA := SA) (X := X) (es := es) (k := k) (fun i hi => Or.inl ⟨i, hi, rfl⟩) (Or.inr (Or.inl rfl)) hSo) (vx_cwSW 8 hts (gSW tw_2_234 tw_2_235 tw_1_0 cw_put) rfl rfl rfl (by decide +kernel) ⟨Nat.le_of_ble_eq_true rfl, Nat.le_of_ble_eq_true rfl⟩) hC hS (A1f_in hSA hout hS.1) (fun q h => Or.inr (Or.inr h)) ⟨hSS, hO⟩ rfl rfl hl.1 (Nat.le_of_ble_eq_true rfl) ⟨Nat.le_trans (by omega) hc, Nat.le_trans (by omega) hs⟩ dL_law_275 (fun r1 H1 L1 hP hk hS => ?_)
  have h60 := hM.h60
  have he := hM.he
  have hM := MW.kc hK hSS hM hO hk
  have hN : ∃ (v : Int32) (X1 : Nat → List Nat) (es1 : List Nat), RP_put X es y1 y2 y3 y4 y5 y6 r1 v X1 es1 ∧ SS G SA X1 es1 k H1 ∧ ∃ (n : Int64) (w : Value), va_at G.1 vwCl (out, .inr (7, [.long n, w])) H1 ∧ (r1 = 0 → n = v.toInt64) := by
    rcases hP with ⟨e0, v9, H0, hv, hk0, w9, hO1⟩ | ⟨e0, c0, hS1, n0, w0, hO1⟩ | ⟨e0, c0, hS1, n0, w0, hO1⟩ | ⟨e0, c0, hS1, n0, w0, hO1⟩
    · obtain ⟨z0, z1, q0, q1, q2, q3, q4, hS1⟩ := hv
      exact ⟨v9, _, _, Or.inl ⟨e0, z0, z1, q0, q1, q2, q3, q4, rfl, rfl⟩, hS1.kp hk0 (fun i hi e => hSo i hi e), _, _, hO1, fun _ => rfl⟩
    · exact ⟨0, _, _, Or.inr (Or.inl ⟨e0, c0, rfl, rfl⟩), hS1, _, _, hO1, fun e => absurd (e0.symm.trans e) (by decide)⟩
    · exact ⟨0, _, _, Or.inr (Or.inr (Or.inl ⟨e0, c0, rfl, rfl⟩)), hS1, _, _, hO1, fun e => absurd (e0.symm.trans e) (by decide)⟩
    · exact ⟨0, _, _, Or.inr (Or.inr (Or.inr (⟨e0, c0, rfl, rfl⟩))), hS1, _, _, hO1, fun e => absurd (e0.symm.trans e) (by decide)⟩
  obtain ⟨v1, X1, es1, hR1, hSS, n1, w1, hO, hn1⟩ := hN
  refine lv_istore (lv' := [(5, .int r1), (0, .ref b), (1, .ref (SA 0)), (2, .ref am), (3, .ref out), (4, .int (nI i))]) hx hb dL_law_278 hl (by decide) rfl (fun ls hl => ?_)
  refine lv_aload_n hx hb dL_law_280 rfl (lv_at hl 3 rfl) ?_
  refine lv_aload_n hx hb dL_law_281 rfl (lv_at hl 1 rfl) ?_
  refine lv_iload hx hb dL_law_282 (lv_at hl 5 rfl) ?_
  refine lv_iconst (v := nI 1) hx hb dL_law_284 (by decide) ?_
  refine lv_iadd hx hb dL_law_285 ?_
  refine lv_cv (nI_add i 1) ?_
  refine va_sld hx hb hX hbl hbA hS (vp_in_nI (n := i + 1) (N := L) (by omega) (by omega)) dL_law_286 ?_
  refine lv_cv e1 ?_
  refine lv_aload_n hx hb dL_law_287 rfl (lv_at hl 1 rfl) ?_
  refine lv_iload hx hb dL_law_288 (lv_at hl 5 rfl) ?_
  refine lv_iconst (v := nI 2) hx hb dL_law_290 (by decide) ?_
  refine lv_iadd hx hb dL_law_291 ?_
  refine lv_cv (nI_add i 2) ?_
  refine va_sld hx hb hX hbl hbA hS (vp_in_nI (n := i + 2) (N := L) (by omega) (by omega)) dL_law_292 ?_
  refine lv_cv e2 ?_
  refine lv_aload_n hx hb dL_law_293 rfl (lv_at hl 1 rfl) ?_
  refine lv_iload hx hb dL_law_294 (lv_at hl 5 rfl) ?_
  refine lv_iconst (v := nI 3) hx hb dL_law_296 (by decide) ?_
  refine lv_iadd hx hb dL_law_297 ?_
  refine lv_cv (nI_add i 3) ?_
  refine va_sld hx hb hX hbl hbA hS (vp_in_nI (n := i + 3) (N := L) (by omega) (by omega)) dL_law_298 ?_
  refine lv_cv e3 ?_
  refine lv_aload_n hx hb dL_law_299 rfl (lv_at hl 1 rfl) ?_
  refine lv_iload hx hb dL_law_300 (lv_at hl 5 rfl) ?_
  refine lv_iconst (v := nI 4) hx hb dL_law_302 (by decide) ?_
  refine lv_iadd hx hb dL_law_303 ?_
  refine lv_cv (nI_add i 4) ?_
  refine va_sld hx hb hX hbl hbA hS (vp_in_nI (n := i + 4) (N := L) (by omega) (by omega)) dL_law_304 ?_
  refine lv_cv e4 ?_
  refine lv_aload_n hx hb dL_law_305 rfl (lv_at hl 1 rfl) ?_
  refine lv_iload hx hb dL_law_306 (lv_at hl 5 rfl) ?_
  refine lv_iconst (v := nI 5) hx hb dL_law_308 (by decide) ?_
  refine lv_iadd hx hb dL_law_309 ?_
  refine lv_cv (nI_add i 5) ?_
  refine va_sld hx hb hX hbl hbA hS (vp_in_nI (n := i + 5) (N := L) (by omega) (by omega)) dL_law_310 ?_
  refine lv_cv e5 ?_
  refine lv_aload_n hx hb dL_law_311 rfl (lv_at hl 1 rfl) ?_
  refine lv_iload hx hb dL_law_312 (lv_at hl 5 rfl) ?_
  refine lv_bipush (v := nI 6) hx hb dL_law_314 (by decide) ?_
  refine lv_iadd hx hb dL_law_316 ?_
  refine lv_cv (nI_add i 6) ?_
  refine va_sld hx hb hX hbl hbA hS (vp_in_nI (n := i + 6) (N := L) (by omega) (by omega)) dL_law_317 ?_
  refine lv_cv e6 ?_
  refine qI_V (A := A0f s.heap.size) (A1 := (A2f s.heap.size SA out)) (b := am) (As := [.int y1, .int y2, .int y3, .int y4, .int y5, .int y6]) (rest := []) ⟨hx, hb, hml, hown, hts⟩ (mX4_put (A := (A2f s.heap.size SA out)) (am := am) (xa := xa) (X := X) (P := pcL (X 14) es) (k := k) (th := th)) (cwV 6 hts (gV tw_4_188 tw_4_189 tw_4_190 tw_1_8 tw_4_191) rfl rfl rfl (by decide +kernel) ⟨Nat.le_of_ble_eq_true rfl, Nat.le_of_ble_eq_true rfl⟩) hC hS (fun q h => h.1) (A2f_new hSS ⟨_, _, hO⟩ hS.1) (hM.recv hK) hM rfl rfl hl.1 (Nat.le_of_ble_eq_true rfl) ⟨Nat.le_trans (by omega) hc, Nat.le_trans (by omega) hs⟩ dL_law_318 (fun r2 H2 L2 hP hk hS => ?_)
  have hSS := hSS.kp hk (fun i hi h => h.2.1 i hi rfl)
  have hO := at_kp hO hk (fun h => h.2.2 rfl)
  have hM2 : ∃ (X2 : Nat → List Nat) (es2 : List Nat) (th2 : Int32), RP_put X es y1 y2 y3 y4 y5 y6 th2 r2 X2 es2 ∧ MW G (A2f s.heap.size SA out) am xa X2 (pcL (X2 14) es2) k th2 H2 := by
    rcases hP with ⟨c0, -, h9⟩ | ⟨c0, -, h9⟩ | ⟨c0, -, h9⟩ | ⟨z0, z1, q0, q1, q2, q3, q4, h9⟩
    · exact ⟨_, _, _, Or.inr (Or.inl ⟨rfl, c0, rfl, rfl⟩), h9⟩
    · exact ⟨_, _, _, Or.inr (Or.inr (Or.inl ⟨rfl, c0, rfl, rfl⟩)), h9⟩
    · exact ⟨_, _, _, Or.inr (Or.inr (Or.inr (⟨rfl, c0, rfl, rfl⟩))), h9⟩
    · exact ⟨_, _, _, Or.inl ⟨rfl, z0, z1, q0, q1, q2, q3, q4, rfl, rfl⟩, by rw [updT_n (by omega)]; exact h9⟩
  obtain ⟨X2, es2, th2, hR2, hM⟩ := hM2
  obtain ⟨ec, eX, ee, ev⟩ := ag_put h60 he hR1 hR2
  subst eX
  subst ee
  refine lv_istore (lv' := [(6, .int r2), (5, .int r1), (0, .ref b), (1, .ref (SA 0)), (2, .ref am), (3, .ref out), (4, .int (nI i))]) hx hb dL_law_321 hl (by decide) rfl (fun ls hl => ?_)
  refine lv_goto (tgt := 2115) hx hb dL_law_323 (by decide) ?_
  refine W.widen (k := cells + 140) (n := slots + 9600) (by omega) (by omega) ?_
  exact kk k H2 L2 ls ⟨_, _, hSS, ⟨_, hM⟩, _, _, hO⟩ hS (lv_sub hl [2, 3, 4, 5, 6] rfl)

theorem lc_clear {p : Program} {l : Launch} {e : Env} {s : State} {m : MethodId} {below : List Frame} {meth : Method} {c : Code} {b L : Nat} {xs : Nat → Int32} {G : Cx} {SA : Nat → Nat} {am xa out : Nat} (Z : LX p l e s m meth c b L xs G SA out) : LStep p l e s m below meth c b L G SA am xa out 326 := by
  intro k H locs cells slots i ls Q hI hS hi hc hs hl kk
  obtain ⟨hx, hb, hml, hown, hts, hC, hX, hbl, hL, hst, hSA, hSo, hout⟩ := Z
  have hK := hC.1
  have hA : ∀ q : Nat, s.heap.size ≤ q → A0f s.heap.size q := fun q h => h
  have hbA : ¬ A0f s.heap.size b := Nat.not_le_of_lt hbl
  obtain ⟨X, es, hSS, ⟨th, hM⟩, hO⟩ := hI
  obtain ⟨y1, e1⟩ : ∃ y, xs (nI (i + 1)).toNatClampNeg = y := ⟨_, rfl⟩
  refine lv_aload_n hx hb dL_law_326 rfl (lv_at hl 1 rfl) ?_
  refine lv_aload_n hx hb dL_law_327 rfl (lv_at hl 0 rfl) ?_
  refine lv_iload hx hb dL_law_328 (lv_at hl 4 rfl) ?_
  refine lv_iconst (v := nI 1) hx hb dL_law_330 (by decide) ?_
  refine lv_iadd hx hb dL_law_331 ?_
  refine lv_cv (nI_add i 1) ?_
  refine va_sld hx hb hX hbl hbA hS (vp_in_nI (n := i + 1) (N := L) (by omega) (by omega)) dL_law_332 ?_
  refine lv_cv e1 ?_
  refine lv_aload_n hx hb dL_law_333 rfl (lv_at hl 3 rfl) ?_
  refine qI_SW (A := A0f s.heap.size) (A1 := (A1f SA out H.size)) (As := [.ref (SA 0), .int y1, .ref out]) (rest := []) ⟨hx, hb, hml, hown, hts⟩ (mL_clear (A := (A1f SA out H.size)) hst (out := out) (SA := SA) (X := X) (es := es) (k := k) (fun i hi => Or.inl ⟨i, hi, rfl⟩) (Or.inr (Or.inl rfl)) hSo) (vx_cwSW 3 hts (gSW tw_3_59 tw_3_60 tw_1_0 cw_clear) rfl rfl rfl (by decide +kernel) ⟨Nat.le_of_ble_eq_true rfl, Nat.le_of_ble_eq_true rfl⟩) hC hS (A1f_in hSA hout hS.1) (fun q h => Or.inr (Or.inr h)) ⟨hSS, hO⟩ rfl rfl hl.1 (Nat.le_of_ble_eq_true rfl) ⟨Nat.le_trans (by omega) hc, Nat.le_trans (by omega) hs⟩ dL_law_334 (fun r1 H1 L1 hP hk hS => ?_)
  have h60 := hM.h60
  have he := hM.he
  have hM := MW.kc hK hSS hM hO hk
  have hN : ∃ (v : Int32) (X1 : Nat → List Nat) (es1 : List Nat), RP_clear X es y1 r1 v X1 es1 ∧ SS G SA X1 es1 k H1 ∧ ∃ (n : Int64) (w : Value), va_at G.1 vwCl (out, .inr (7, [.long n, w])) H1 ∧ (r1 = 0 → n = v.toInt64) := by
    rcases hP with ⟨e0, v9, H0, hv, hk0, w9, hO1⟩ | ⟨e0, c0, hS1, n0, w0, hO1⟩
    · obtain ⟨z0, q0, q1, q2, hS1⟩ := hv
      exact ⟨v9, _, _, Or.inl ⟨e0, z0, q0, q1, q2, rfl, rfl⟩, hS1.kp hk0 (fun i hi e => hSo i hi e), _, _, hO1, fun _ => rfl⟩
    · exact ⟨0, _, _, Or.inr (⟨e0, c0, rfl, rfl⟩), hS1, _, _, hO1, fun e => absurd (e0.symm.trans e) (by decide)⟩
  obtain ⟨v1, X1, es1, hR1, hSS, n1, w1, hO, hn1⟩ := hN
  refine lv_istore (lv' := [(5, .int r1), (0, .ref b), (1, .ref (SA 0)), (2, .ref am), (3, .ref out), (4, .int (nI i))]) hx hb dL_law_337 hl (by decide) rfl (fun ls hl => ?_)
  refine lv_aload_n hx hb dL_law_339 rfl (lv_at hl 3 rfl) ?_
  refine lv_aload_n hx hb dL_law_340 rfl (lv_at hl 1 rfl) ?_
  refine lv_iload hx hb dL_law_341 (lv_at hl 5 rfl) ?_
  refine lv_iconst (v := nI 1) hx hb dL_law_343 (by decide) ?_
  refine lv_iadd hx hb dL_law_344 ?_
  refine lv_cv (nI_add i 1) ?_
  refine va_sld hx hb hX hbl hbA hS (vp_in_nI (n := i + 1) (N := L) (by omega) (by omega)) dL_law_345 ?_
  refine lv_cv e1 ?_
  refine qI_V (A := A0f s.heap.size) (A1 := (A2f s.heap.size SA out)) (b := am) (As := [.int y1]) (rest := []) ⟨hx, hb, hml, hown, hts⟩ (mX4_clear (A := (A2f s.heap.size SA out)) (am := am) (xa := xa) (X := X) (P := pcL (X 14) es) (k := k) (th := th)) (cwV 1 hts (gV tw_4_218 tw_4_219 tw_4_220 tw_1_8 tw_4_221) rfl rfl rfl (by decide +kernel) ⟨Nat.le_of_ble_eq_true rfl, Nat.le_of_ble_eq_true rfl⟩) hC hS (fun q h => h.1) (A2f_new hSS ⟨_, _, hO⟩ hS.1) (hM.recv hK) hM rfl rfl hl.1 (Nat.le_of_ble_eq_true rfl) ⟨Nat.le_trans (by omega) hc, Nat.le_trans (by omega) hs⟩ dL_law_346 (fun r2 H2 L2 hP hk hS => ?_)
  have hSS := hSS.kp hk (fun i hi h => h.2.1 i hi rfl)
  have hO := at_kp hO hk (fun h => h.2.2 rfl)
  have hM2 : ∃ (X2 : Nat → List Nat) (es2 : List Nat) (th2 : Int32), RP_clear X es y1 th2 r2 X2 es2 ∧ MW G (A2f s.heap.size SA out) am xa X2 (pcL (X2 14) es2) k th2 H2 := by
    rcases hP with ⟨c0, -, h9⟩ | ⟨z0, q0, q1, q2, h9⟩
    · exact ⟨_, _, _, Or.inr (⟨rfl, c0, rfl, rfl⟩), h9⟩
    · exact ⟨_, _, _, Or.inl ⟨rfl, z0, q0, q1, q2, rfl, rfl⟩, by rw [updT_n (by omega)]; exact h9⟩
  obtain ⟨X2, es2, th2, hR2, hM⟩ := hM2
  obtain ⟨ec, eX, ee, ev⟩ := ag_clear h60 he hR1 hR2
  subst eX
  subst ee
  refine lv_istore (lv' := [(6, .int r2), (5, .int r1), (0, .ref b), (1, .ref (SA 0)), (2, .ref am), (3, .ref out), (4, .int (nI i))]) hx hb dL_law_349 hl (by decide) rfl (fun ls hl => ?_)
  refine lv_goto (tgt := 2115) hx hb dL_law_351 (by decide) ?_
  refine W.widen (k := cells + 140) (n := slots + 9600) (by omega) (by omega) ?_
  exact kk k H2 L2 ls ⟨_, _, hSS, ⟨_, hM⟩, _, _, hO⟩ hS (lv_sub hl [2, 3, 4, 5, 6] rfl)

theorem lc_copy {p : Program} {l : Launch} {e : Env} {s : State} {m : MethodId} {below : List Frame} {meth : Method} {c : Code} {b L : Nat} {xs : Nat → Int32} {G : Cx} {SA : Nat → Nat} {am xa out : Nat} (Z : LX p l e s m meth c b L xs G SA out) : LStep p l e s m below meth c b L G SA am xa out 354 := by
  intro k H locs cells slots i ls Q hI hS hi hc hs hl kk
  obtain ⟨hx, hb, hml, hown, hts, hC, hX, hbl, hL, hst, hSA, hSo, hout⟩ := Z
  have hK := hC.1
  have hA : ∀ q : Nat, s.heap.size ≤ q → A0f s.heap.size q := fun q h => h
  have hbA : ¬ A0f s.heap.size b := Nat.not_le_of_lt hbl
  obtain ⟨X, es, hSS, ⟨th, hM⟩, hO⟩ := hI
  obtain ⟨y1, e1⟩ : ∃ y, xs (nI (i + 1)).toNatClampNeg = y := ⟨_, rfl⟩
  obtain ⟨y2, e2⟩ : ∃ y, xs (nI (i + 2)).toNatClampNeg = y := ⟨_, rfl⟩
  refine lv_aload_n hx hb dL_law_354 rfl (lv_at hl 1 rfl) ?_
  refine lv_aload_n hx hb dL_law_355 rfl (lv_at hl 0 rfl) ?_
  refine lv_iload hx hb dL_law_356 (lv_at hl 4 rfl) ?_
  refine lv_iconst (v := nI 1) hx hb dL_law_358 (by decide) ?_
  refine lv_iadd hx hb dL_law_359 ?_
  refine lv_cv (nI_add i 1) ?_
  refine va_sld hx hb hX hbl hbA hS (vp_in_nI (n := i + 1) (N := L) (by omega) (by omega)) dL_law_360 ?_
  refine lv_cv e1 ?_
  refine lv_aload_n hx hb dL_law_361 rfl (lv_at hl 0 rfl) ?_
  refine lv_iload hx hb dL_law_362 (lv_at hl 4 rfl) ?_
  refine lv_iconst (v := nI 2) hx hb dL_law_364 (by decide) ?_
  refine lv_iadd hx hb dL_law_365 ?_
  refine lv_cv (nI_add i 2) ?_
  refine va_sld hx hb hX hbl hbA hS (vp_in_nI (n := i + 2) (N := L) (by omega) (by omega)) dL_law_366 ?_
  refine lv_cv e2 ?_
  refine lv_aload_n hx hb dL_law_367 rfl (lv_at hl 3 rfl) ?_
  refine qI_SW (A := A0f s.heap.size) (A1 := (A1f SA out H.size)) (As := [.ref (SA 0), .int y1, .int y2, .ref out]) (rest := []) ⟨hx, hb, hml, hown, hts⟩ (mL_copy (A := (A1f SA out H.size)) hst (out := out) (SA := SA) (X := X) (es := es) (k := k) (fun i hi => Or.inl ⟨i, hi, rfl⟩) (Or.inr (Or.inl rfl)) hSo) (vx_cwSW 4 hts (gSW tw_3_66 tw_3_67 tw_1_0 cw_copy) rfl rfl rfl (by decide +kernel) ⟨Nat.le_of_ble_eq_true rfl, Nat.le_of_ble_eq_true rfl⟩) hC hS (A1f_in hSA hout hS.1) (fun q h => Or.inr (Or.inr h)) ⟨hSS, hO⟩ rfl rfl hl.1 (Nat.le_of_ble_eq_true rfl) ⟨Nat.le_trans (by omega) hc, Nat.le_trans (by omega) hs⟩ dL_law_368 (fun r1 H1 L1 hP hk hS => ?_)
  have h60 := hM.h60
  have he := hM.he
  have hM := MW.kc hK hSS hM hO hk
  have hN : ∃ (v : Int32) (X1 : Nat → List Nat) (es1 : List Nat), RP_copy X es y1 y2 r1 v X1 es1 ∧ SS G SA X1 es1 k H1 ∧ ∃ (n : Int64) (w : Value), va_at G.1 vwCl (out, .inr (7, [.long n, w])) H1 ∧ (r1 = 0 → n = v.toInt64) := by
    rcases hP with ⟨e0, v9, H0, hv, hk0, w9, hO1⟩ | ⟨e0, c0, hS1, n0, w0, hO1⟩
    · obtain ⟨z0, z1, q0, q1, q2, q3, q4, hS1⟩ := hv
      exact ⟨v9, _, _, Or.inl ⟨e0, z0, z1, q0, q1, q2, q3, q4, rfl, rfl⟩, hS1.kp hk0 (fun i hi e => hSo i hi e), _, _, hO1, fun _ => rfl⟩
    · exact ⟨0, _, _, Or.inr (⟨e0, c0, rfl, rfl⟩), hS1, _, _, hO1, fun e => absurd (e0.symm.trans e) (by decide)⟩
  obtain ⟨v1, X1, es1, hR1, hSS, n1, w1, hO, hn1⟩ := hN
  refine lv_istore (lv' := [(5, .int r1), (0, .ref b), (1, .ref (SA 0)), (2, .ref am), (3, .ref out), (4, .int (nI i))]) hx hb dL_law_371 hl (by decide) rfl (fun ls hl => ?_)
  refine lv_aload_n hx hb dL_law_373 rfl (lv_at hl 3 rfl) ?_
  refine lv_aload_n hx hb dL_law_374 rfl (lv_at hl 1 rfl) ?_
  refine lv_iload hx hb dL_law_375 (lv_at hl 5 rfl) ?_
  refine lv_iconst (v := nI 1) hx hb dL_law_377 (by decide) ?_
  refine lv_iadd hx hb dL_law_378 ?_
  refine lv_cv (nI_add i 1) ?_
  refine va_sld hx hb hX hbl hbA hS (vp_in_nI (n := i + 1) (N := L) (by omega) (by omega)) dL_law_379 ?_
  refine lv_cv e1 ?_
  refine lv_aload_n hx hb dL_law_380 rfl (lv_at hl 1 rfl) ?_
  refine lv_iload hx hb dL_law_381 (lv_at hl 5 rfl) ?_
  refine lv_iconst (v := nI 2) hx hb dL_law_383 (by decide) ?_
  refine lv_iadd hx hb dL_law_384 ?_
  refine lv_cv (nI_add i 2) ?_
  refine va_sld hx hb hX hbl hbA hS (vp_in_nI (n := i + 2) (N := L) (by omega) (by omega)) dL_law_385 ?_
  refine lv_cv e2 ?_
  refine qI_V (A := A0f s.heap.size) (A1 := (A2f s.heap.size SA out)) (b := am) (As := [.int y1, .int y2]) (rest := []) ⟨hx, hb, hml, hown, hts⟩ (mX4_copy (A := (A2f s.heap.size SA out)) (am := am) (xa := xa) (X := X) (P := pcL (X 14) es) (k := k) (th := th)) (cwV 2 hts (gV tw_4_222 tw_4_223 tw_4_224 tw_1_8 tw_4_225) rfl rfl rfl (by decide +kernel) ⟨Nat.le_of_ble_eq_true rfl, Nat.le_of_ble_eq_true rfl⟩) hC hS (fun q h => h.1) (A2f_new hSS ⟨_, _, hO⟩ hS.1) (hM.recv hK) hM rfl rfl hl.1 (Nat.le_of_ble_eq_true rfl) ⟨Nat.le_trans (by omega) hc, Nat.le_trans (by omega) hs⟩ dL_law_386 (fun r2 H2 L2 hP hk hS => ?_)
  have hSS := hSS.kp hk (fun i hi h => h.2.1 i hi rfl)
  have hO := at_kp hO hk (fun h => h.2.2 rfl)
  have hM2 : ∃ (X2 : Nat → List Nat) (es2 : List Nat) (th2 : Int32), RP_copy X es y1 y2 th2 r2 X2 es2 ∧ MW G (A2f s.heap.size SA out) am xa X2 (pcL (X2 14) es2) k th2 H2 := by
    rcases hP with ⟨c0, -, h9⟩ | ⟨z0, z1, q0, q1, q2, q3, q4, h9⟩
    · exact ⟨_, _, _, Or.inr (⟨rfl, c0, rfl, rfl⟩), h9⟩
    · exact ⟨_, _, _, Or.inl ⟨rfl, z0, z1, q0, q1, q2, q3, q4, rfl, rfl⟩, by rw [updT_n (by omega)]; exact h9⟩
  obtain ⟨X2, es2, th2, hR2, hM⟩ := hM2
  obtain ⟨ec, eX, ee, ev⟩ := ag_copy h60 he hR1 hR2
  subst eX
  subst ee
  refine lv_istore (lv' := [(6, .int r2), (5, .int r1), (0, .ref b), (1, .ref (SA 0)), (2, .ref am), (3, .ref out), (4, .int (nI i))]) hx hb dL_law_389 hl (by decide) rfl (fun ls hl => ?_)
  refine lv_goto (tgt := 2115) hx hb dL_law_391 (by decide) ?_
  refine W.widen (k := cells + 140) (n := slots + 9600) (by omega) (by omega) ?_
  exact kk k H2 L2 ls ⟨_, _, hSS, ⟨_, hM⟩, _, _, hO⟩ hS (lv_sub hl [2, 3, 4, 5, 6] rfl)

theorem lc_part {p : Program} {l : Launch} {e : Env} {s : State} {m : MethodId} {below : List Frame} {meth : Method} {c : Code} {b L : Nat} {xs : Nat → Int32} {G : Cx} {SA : Nat → Nat} {am xa out : Nat} (Z : LX p l e s m meth c b L xs G SA out) : LStep p l e s m below meth c b L G SA am xa out 394 := by
  intro k H locs cells slots i ls Q hI hS hi hc hs hl kk
  obtain ⟨hx, hb, hml, hown, hts, hC, hX, hbl, hL, hst, hSA, hSo, hout⟩ := Z
  have hK := hC.1
  have hA : ∀ q : Nat, s.heap.size ≤ q → A0f s.heap.size q := fun q h => h
  have hbA : ¬ A0f s.heap.size b := Nat.not_le_of_lt hbl
  obtain ⟨X, es, hSS, ⟨th, hM⟩, hO⟩ := hI
  obtain ⟨y1, e1⟩ : ∃ y, xs (nI (i + 1)).toNatClampNeg = y := ⟨_, rfl⟩
  obtain ⟨y2, e2⟩ : ∃ y, xs (nI (i + 2)).toNatClampNeg = y := ⟨_, rfl⟩
  obtain ⟨y3, e3⟩ : ∃ y, xs (nI (i + 3)).toNatClampNeg = y := ⟨_, rfl⟩
  obtain ⟨y4, e4⟩ : ∃ y, xs (nI (i + 4)).toNatClampNeg = y := ⟨_, rfl⟩
  refine lv_aload_n hx hb dL_law_394 rfl (lv_at hl 1 rfl) ?_
  refine lv_aload_n hx hb dL_law_395 rfl (lv_at hl 0 rfl) ?_
  refine lv_iload hx hb dL_law_396 (lv_at hl 4 rfl) ?_
  refine lv_iconst (v := nI 1) hx hb dL_law_398 (by decide) ?_
  refine lv_iadd hx hb dL_law_399 ?_
  refine lv_cv (nI_add i 1) ?_
  refine va_sld hx hb hX hbl hbA hS (vp_in_nI (n := i + 1) (N := L) (by omega) (by omega)) dL_law_400 ?_
  refine lv_cv e1 ?_
  refine lv_aload_n hx hb dL_law_401 rfl (lv_at hl 0 rfl) ?_
  refine lv_iload hx hb dL_law_402 (lv_at hl 4 rfl) ?_
  refine lv_iconst (v := nI 2) hx hb dL_law_404 (by decide) ?_
  refine lv_iadd hx hb dL_law_405 ?_
  refine lv_cv (nI_add i 2) ?_
  refine va_sld hx hb hX hbl hbA hS (vp_in_nI (n := i + 2) (N := L) (by omega) (by omega)) dL_law_406 ?_
  refine lv_cv e2 ?_
  refine lv_aload_n hx hb dL_law_407 rfl (lv_at hl 0 rfl) ?_
  refine lv_iload hx hb dL_law_408 (lv_at hl 4 rfl) ?_
  refine lv_iconst (v := nI 3) hx hb dL_law_410 (by decide) ?_
  refine lv_iadd hx hb dL_law_411 ?_
  refine lv_cv (nI_add i 3) ?_
  refine va_sld hx hb hX hbl hbA hS (vp_in_nI (n := i + 3) (N := L) (by omega) (by omega)) dL_law_412 ?_
  refine lv_cv e3 ?_
  refine lv_aload_n hx hb dL_law_413 rfl (lv_at hl 0 rfl) ?_
  refine lv_iload hx hb dL_law_414 (lv_at hl 4 rfl) ?_
  refine lv_iconst (v := nI 4) hx hb dL_law_416 (by decide) ?_
  refine lv_iadd hx hb dL_law_417 ?_
  refine lv_cv (nI_add i 4) ?_
  refine va_sld hx hb hX hbl hbA hS (vp_in_nI (n := i + 4) (N := L) (by omega) (by omega)) dL_law_418 ?_
  refine lv_cv e4 ?_
  refine lv_aload_n hx hb dL_law_419 rfl (lv_at hl 3 rfl) ?_
  refine qI_SW (A := A0f s.heap.size) (A1 := (A1f SA out H.size)) (As := [.ref (SA 0), .int y1, .int y2, .int y3, .int y4, .ref out]) (rest := []) ⟨hx, hb, hml, hown, hts⟩ (mL_part (A := (A1f SA out H.size)) hst (out := out) (SA := SA) (X := X) (es := es) (k := k) (fun i hi => Or.inl ⟨i, hi, rfl⟩) (Or.inr (Or.inl rfl)) hSo) (vx_cwSW 6 hts (gSW tw_3_73 tw_3_74 tw_1_0 cw_part) rfl rfl rfl (by decide +kernel) ⟨Nat.le_of_ble_eq_true rfl, Nat.le_of_ble_eq_true rfl⟩) hC hS (A1f_in hSA hout hS.1) (fun q h => Or.inr (Or.inr h)) ⟨hSS, hO⟩ rfl rfl hl.1 (Nat.le_of_ble_eq_true rfl) ⟨Nat.le_trans (by omega) hc, Nat.le_trans (by omega) hs⟩ dL_law_420 (fun r1 H1 L1 hP hk hS => ?_)
  have h60 := hM.h60
  have he := hM.he
  have hM := MW.kc hK hSS hM hO hk
  have hN : ∃ (v : Int32) (X1 : Nat → List Nat) (es1 : List Nat), RP_part X es y1 y2 y3 y4 r1 v X1 es1 ∧ SS G SA X1 es1 k H1 ∧ ∃ (n : Int64) (w : Value), va_at G.1 vwCl (out, .inr (7, [.long n, w])) H1 ∧ (r1 = 0 → n = v.toInt64) := by
    rcases hP with ⟨e0, v9, H0, hv, hk0, w9, hO1⟩ | ⟨e0, c0, hS1, n0, w0, hO1⟩
    · obtain ⟨z0, z1, z2, z3, q0, q1, q2, q3, q4, q5, q6, q7, q8, hS1⟩ := hv
      exact ⟨v9, _, _, Or.inl ⟨e0, z0, z1, z2, z3, q0, q1, q2, q3, q4, q5, q6, q7, q8, rfl, rfl⟩, hS1.kp hk0 (fun i hi e => hSo i hi e), _, _, hO1, fun _ => rfl⟩
    · exact ⟨0, _, _, Or.inr (⟨e0, c0, rfl, rfl⟩), hS1, _, _, hO1, fun e => absurd (e0.symm.trans e) (by decide)⟩
  obtain ⟨v1, X1, es1, hR1, hSS, n1, w1, hO, hn1⟩ := hN
  refine lv_istore (lv' := [(5, .int r1), (0, .ref b), (1, .ref (SA 0)), (2, .ref am), (3, .ref out), (4, .int (nI i))]) hx hb dL_law_423 hl (by decide) rfl (fun ls hl => ?_)
  refine lv_aload_n hx hb dL_law_425 rfl (lv_at hl 3 rfl) ?_
  refine lv_aload_n hx hb dL_law_426 rfl (lv_at hl 1 rfl) ?_
  refine lv_iload hx hb dL_law_427 (lv_at hl 5 rfl) ?_
  refine lv_iconst (v := nI 1) hx hb dL_law_429 (by decide) ?_
  refine lv_iadd hx hb dL_law_430 ?_
  refine lv_cv (nI_add i 1) ?_
  refine va_sld hx hb hX hbl hbA hS (vp_in_nI (n := i + 1) (N := L) (by omega) (by omega)) dL_law_431 ?_
  refine lv_cv e1 ?_
  refine lv_aload_n hx hb dL_law_432 rfl (lv_at hl 1 rfl) ?_
  refine lv_iload hx hb dL_law_433 (lv_at hl 5 rfl) ?_
  refine lv_iconst (v := nI 2) hx hb dL_law_435 (by decide) ?_
  refine lv_iadd hx hb dL_law_436 ?_
  refine lv_cv (nI_add i 2) ?_
  refine va_sld hx hb hX hbl hbA hS (vp_in_nI (n := i + 2) (N := L) (by omega) (by omega)) dL_law_437 ?_
  refine lv_cv e2 ?_
  refine lv_aload_n hx hb dL_law_438 rfl (lv_at hl 1 rfl) ?_
  refine lv_iload hx hb dL_law_439 (lv_at hl 5 rfl) ?_
  refine lv_iconst (v := nI 3) hx hb dL_law_441 (by decide) ?_
  refine lv_iadd hx hb dL_law_442 ?_
  refine lv_cv (nI_add i 3) ?_
  refine va_sld hx hb hX hbl hbA hS (vp_in_nI (n := i + 3) (N := L) (by omega) (by omega)) dL_law_443 ?_
  refine lv_cv e3 ?_
  refine lv_aload_n hx hb dL_law_444 rfl (lv_at hl 1 rfl) ?_
  refine lv_iload hx hb dL_law_445 (lv_at hl 5 rfl) ?_
  refine lv_iconst (v := nI 4) hx hb dL_law_447 (by decide) ?_
  refine lv_iadd hx hb dL_law_448 ?_
  refine lv_cv (nI_add i 4) ?_
  refine va_sld hx hb hX hbl hbA hS (vp_in_nI (n := i + 4) (N := L) (by omega) (by omega)) dL_law_449 ?_
  refine lv_cv e4 ?_
  refine qI_V (A := A0f s.heap.size) (A1 := (A2f s.heap.size SA out)) (b := am) (As := [.int y1, .int y2, .int y3, .int y4]) (rest := []) ⟨hx, hb, hml, hown, hts⟩ (mX4_part (A := (A2f s.heap.size SA out)) (am := am) (xa := xa) (X := X) (P := pcL (X 14) es) (k := k) (th := th)) (cwV 4 hts (gV tw_4_229 tw_4_230 tw_4_231 tw_1_8 tw_4_232) rfl rfl rfl (by decide +kernel) ⟨Nat.le_of_ble_eq_true rfl, Nat.le_of_ble_eq_true rfl⟩) hC hS (fun q h => h.1) (A2f_new hSS ⟨_, _, hO⟩ hS.1) (hM.recv hK) hM rfl rfl hl.1 (Nat.le_of_ble_eq_true rfl) ⟨Nat.le_trans (by omega) hc, Nat.le_trans (by omega) hs⟩ dL_law_450 (fun r2 H2 L2 hP hk hS => ?_)
  have hSS := hSS.kp hk (fun i hi h => h.2.1 i hi rfl)
  have hO := at_kp hO hk (fun h => h.2.2 rfl)
  have hM2 : ∃ (X2 : Nat → List Nat) (es2 : List Nat) (th2 : Int32), RP_part X es y1 y2 y3 y4 th2 r2 X2 es2 ∧ MW G (A2f s.heap.size SA out) am xa X2 (pcL (X2 14) es2) k th2 H2 := by
    rcases hP with ⟨c0, -, h9⟩ | ⟨z0, z1, z2, z3, q0, q1, q2, q3, q4, q5, q6, q7, q8, h9⟩
    · exact ⟨_, _, _, Or.inr (⟨rfl, c0, rfl, rfl⟩), h9⟩
    · exact ⟨_, _, _, Or.inl ⟨rfl, z0, z1, z2, z3, q0, q1, q2, q3, q4, q5, q6, q7, q8, rfl, rfl⟩, by rw [updT_n (by omega)]; exact h9⟩
  obtain ⟨X2, es2, th2, hR2, hM⟩ := hM2
  obtain ⟨ec, eX, ee, ev⟩ := ag_part h60 he hR1 hR2
  subst eX
  subst ee
  refine lv_istore (lv' := [(6, .int r2), (5, .int r1), (0, .ref b), (1, .ref (SA 0)), (2, .ref am), (3, .ref out), (4, .int (nI i))]) hx hb dL_law_453 hl (by decide) rfl (fun ls hl => ?_)
  refine lv_goto (tgt := 2115) hx hb dL_law_455 (by decide) ?_
  refine W.widen (k := cells + 140) (n := slots + 9600) (by omega) (by omega) ?_
  exact kk k H2 L2 ls ⟨_, _, hSS, ⟨_, hM⟩, _, _, hO⟩ hS (lv_sub hl [2, 3, 4, 5, 6] rfl)

theorem lc_tail {p : Program} {l : Launch} {e : Env} {s : State} {m : MethodId} {below : List Frame} {meth : Method} {c : Code} {b L : Nat} {xs : Nat → Int32} {G : Cx} {SA : Nat → Nat} {am xa out : Nat} (Z : LX p l e s m meth c b L xs G SA out) : LStep p l e s m below meth c b L G SA am xa out 458 := by
  intro k H locs cells slots i ls Q hI hS hi hc hs hl kk
  obtain ⟨hx, hb, hml, hown, hts, hC, hX, hbl, hL, hst, hSA, hSo, hout⟩ := Z
  have hK := hC.1
  have hA : ∀ q : Nat, s.heap.size ≤ q → A0f s.heap.size q := fun q h => h
  have hbA : ¬ A0f s.heap.size b := Nat.not_le_of_lt hbl
  obtain ⟨X, es, hSS, ⟨th, hM⟩, hO⟩ := hI
  obtain ⟨y1, e1⟩ : ∃ y, xs (nI (i + 1)).toNatClampNeg = y := ⟨_, rfl⟩
  obtain ⟨y2, e2⟩ : ∃ y, xs (nI (i + 2)).toNatClampNeg = y := ⟨_, rfl⟩
  obtain ⟨y3, e3⟩ : ∃ y, xs (nI (i + 3)).toNatClampNeg = y := ⟨_, rfl⟩
  refine lv_aload_n hx hb dL_law_458 rfl (lv_at hl 1 rfl) ?_
  refine lv_aload_n hx hb dL_law_459 rfl (lv_at hl 0 rfl) ?_
  refine lv_iload hx hb dL_law_460 (lv_at hl 4 rfl) ?_
  refine lv_iconst (v := nI 1) hx hb dL_law_462 (by decide) ?_
  refine lv_iadd hx hb dL_law_463 ?_
  refine lv_cv (nI_add i 1) ?_
  refine va_sld hx hb hX hbl hbA hS (vp_in_nI (n := i + 1) (N := L) (by omega) (by omega)) dL_law_464 ?_
  refine lv_cv e1 ?_
  refine lv_aload_n hx hb dL_law_465 rfl (lv_at hl 0 rfl) ?_
  refine lv_iload hx hb dL_law_466 (lv_at hl 4 rfl) ?_
  refine lv_iconst (v := nI 2) hx hb dL_law_468 (by decide) ?_
  refine lv_iadd hx hb dL_law_469 ?_
  refine lv_cv (nI_add i 2) ?_
  refine va_sld hx hb hX hbl hbA hS (vp_in_nI (n := i + 2) (N := L) (by omega) (by omega)) dL_law_470 ?_
  refine lv_cv e2 ?_
  refine lv_aload_n hx hb dL_law_471 rfl (lv_at hl 0 rfl) ?_
  refine lv_iload hx hb dL_law_472 (lv_at hl 4 rfl) ?_
  refine lv_iconst (v := nI 3) hx hb dL_law_474 (by decide) ?_
  refine lv_iadd hx hb dL_law_475 ?_
  refine lv_cv (nI_add i 3) ?_
  refine va_sld hx hb hX hbl hbA hS (vp_in_nI (n := i + 3) (N := L) (by omega) (by omega)) dL_law_476 ?_
  refine lv_cv e3 ?_
  refine lv_aload_n hx hb dL_law_477 rfl (lv_at hl 3 rfl) ?_
  refine qI_SW (A := A0f s.heap.size) (A1 := (A1f SA out H.size)) (As := [.ref (SA 0), .int y1, .int y2, .int y3, .ref out]) (rest := []) ⟨hx, hb, hml, hown, hts⟩ (mL_tail (A := (A1f SA out H.size)) hst (out := out) (SA := SA) (X := X) (es := es) (k := k) (fun i hi => Or.inl ⟨i, hi, rfl⟩) (Or.inr (Or.inl rfl)) hSo) (vx_cwSW 5 hts (gSW tw_3_80 tw_3_81 tw_1_0 cw_tail) rfl rfl rfl (by decide +kernel) ⟨Nat.le_of_ble_eq_true rfl, Nat.le_of_ble_eq_true rfl⟩) hC hS (A1f_in hSA hout hS.1) (fun q h => Or.inr (Or.inr h)) ⟨hSS, hO⟩ rfl rfl hl.1 (Nat.le_of_ble_eq_true rfl) ⟨Nat.le_trans (by omega) hc, Nat.le_trans (by omega) hs⟩ dL_law_478 (fun r1 H1 L1 hP hk hS => ?_)
  have h60 := hM.h60
  have he := hM.he
  have hM := MW.kc hK hSS hM hO hk
  have hN : ∃ (v : Int32) (X1 : Nat → List Nat) (es1 : List Nat), RP_tail X es y1 y2 y3 r1 v X1 es1 ∧ SS G SA X1 es1 k H1 ∧ ∃ (n : Int64) (w : Value), va_at G.1 vwCl (out, .inr (7, [.long n, w])) H1 ∧ (r1 = 0 → n = v.toInt64) := by
    rcases hP with ⟨e0, v9, H0, hv, hk0, w9, hO1⟩ | ⟨e0, c0, hS1, n0, w0, hO1⟩
    · obtain ⟨z0, z1, z2, q0, q1, q2, q3, q4, q5, q6, hS1⟩ := hv
      exact ⟨v9, _, _, Or.inl ⟨e0, z0, z1, z2, q0, q1, q2, q3, q4, q5, q6, rfl, rfl⟩, hS1.kp hk0 (fun i hi e => hSo i hi e), _, _, hO1, fun _ => rfl⟩
    · exact ⟨0, _, _, Or.inr (⟨e0, c0, rfl, rfl⟩), hS1, _, _, hO1, fun e => absurd (e0.symm.trans e) (by decide)⟩
  obtain ⟨v1, X1, es1, hR1, hSS, n1, w1, hO, hn1⟩ := hN
  refine lv_istore (lv' := [(5, .int r1), (0, .ref b), (1, .ref (SA 0)), (2, .ref am), (3, .ref out), (4, .int (nI i))]) hx hb dL_law_481 hl (by decide) rfl (fun ls hl => ?_)
  refine lv_aload_n hx hb dL_law_483 rfl (lv_at hl 3 rfl) ?_
  refine lv_aload_n hx hb dL_law_484 rfl (lv_at hl 1 rfl) ?_
  refine lv_iload hx hb dL_law_485 (lv_at hl 5 rfl) ?_
  refine lv_iconst (v := nI 1) hx hb dL_law_487 (by decide) ?_
  refine lv_iadd hx hb dL_law_488 ?_
  refine lv_cv (nI_add i 1) ?_
  refine va_sld hx hb hX hbl hbA hS (vp_in_nI (n := i + 1) (N := L) (by omega) (by omega)) dL_law_489 ?_
  refine lv_cv e1 ?_
  refine lv_aload_n hx hb dL_law_490 rfl (lv_at hl 1 rfl) ?_
  refine lv_iload hx hb dL_law_491 (lv_at hl 5 rfl) ?_
  refine lv_iconst (v := nI 2) hx hb dL_law_493 (by decide) ?_
  refine lv_iadd hx hb dL_law_494 ?_
  refine lv_cv (nI_add i 2) ?_
  refine va_sld hx hb hX hbl hbA hS (vp_in_nI (n := i + 2) (N := L) (by omega) (by omega)) dL_law_495 ?_
  refine lv_cv e2 ?_
  refine lv_aload_n hx hb dL_law_496 rfl (lv_at hl 1 rfl) ?_
  refine lv_iload hx hb dL_law_497 (lv_at hl 5 rfl) ?_
  refine lv_iconst (v := nI 3) hx hb dL_law_499 (by decide) ?_
  refine lv_iadd hx hb dL_law_500 ?_
  refine lv_cv (nI_add i 3) ?_
  refine va_sld hx hb hX hbl hbA hS (vp_in_nI (n := i + 3) (N := L) (by omega) (by omega)) dL_law_501 ?_
  refine lv_cv e3 ?_
  refine qI_V (A := A0f s.heap.size) (A1 := (A2f s.heap.size SA out)) (b := am) (As := [.int y1, .int y2, .int y3]) (rest := []) ⟨hx, hb, hml, hown, hts⟩ (mX4_tail (A := (A2f s.heap.size SA out)) (am := am) (xa := xa) (X := X) (P := pcL (X 14) es) (k := k) (th := th)) (cwV 3 hts (gV tw_4_233 tw_4_234 tw_4_235 tw_1_8 tw_4_236) rfl rfl rfl (by decide +kernel) ⟨Nat.le_of_ble_eq_true rfl, Nat.le_of_ble_eq_true rfl⟩) hC hS (fun q h => h.1) (A2f_new hSS ⟨_, _, hO⟩ hS.1) (hM.recv hK) hM rfl rfl hl.1 (Nat.le_of_ble_eq_true rfl) ⟨Nat.le_trans (by omega) hc, Nat.le_trans (by omega) hs⟩ dL_law_502 (fun r2 H2 L2 hP hk hS => ?_)
  have hSS := hSS.kp hk (fun i hi h => h.2.1 i hi rfl)
  have hO := at_kp hO hk (fun h => h.2.2 rfl)
  have hM2 : ∃ (X2 : Nat → List Nat) (es2 : List Nat) (th2 : Int32), RP_tail X es y1 y2 y3 th2 r2 X2 es2 ∧ MW G (A2f s.heap.size SA out) am xa X2 (pcL (X2 14) es2) k th2 H2 := by
    rcases hP with ⟨c0, -, h9⟩ | ⟨z0, z1, z2, q0, q1, q2, q3, q4, q5, q6, h9⟩
    · exact ⟨_, _, _, Or.inr (⟨rfl, c0, rfl, rfl⟩), h9⟩
    · exact ⟨_, _, _, Or.inl ⟨rfl, z0, z1, z2, q0, q1, q2, q3, q4, q5, q6, rfl, rfl⟩, by rw [updT_n (by omega)]; exact h9⟩
  obtain ⟨X2, es2, th2, hR2, hM⟩ := hM2
  obtain ⟨ec, eX, ee, ev⟩ := ag_tail h60 he hR1 hR2
  subst eX
  subst ee
  refine lv_istore (lv' := [(6, .int r2), (5, .int r1), (0, .ref b), (1, .ref (SA 0)), (2, .ref am), (3, .ref out), (4, .int (nI i))]) hx hb dL_law_505 hl (by decide) rfl (fun ls hl => ?_)
  refine lv_goto (tgt := 2115) hx hb dL_law_507 (by decide) ?_
  refine W.widen (k := cells + 140) (n := slots + 9600) (by omega) (by omega) ?_
  exact kk k H2 L2 ls ⟨_, _, hSS, ⟨_, hM⟩, _, _, hO⟩ hS (lv_sub hl [2, 3, 4, 5, 6] rfl)

theorem lc_join {p : Program} {l : Launch} {e : Env} {s : State} {m : MethodId} {below : List Frame} {meth : Method} {c : Code} {b L : Nat} {xs : Nat → Int32} {G : Cx} {SA : Nat → Nat} {am xa out : Nat} (Z : LX p l e s m meth c b L xs G SA out) : LStep p l e s m below meth c b L G SA am xa out 510 := by
  intro k H locs cells slots i ls Q hI hS hi hc hs hl kk
  obtain ⟨hx, hb, hml, hown, hts, hC, hX, hbl, hL, hst, hSA, hSo, hout⟩ := Z
  have hK := hC.1
  have hA : ∀ q : Nat, s.heap.size ≤ q → A0f s.heap.size q := fun q h => h
  have hbA : ¬ A0f s.heap.size b := Nat.not_le_of_lt hbl
  obtain ⟨X, es, hSS, ⟨th, hM⟩, hO⟩ := hI
  obtain ⟨y1, e1⟩ : ∃ y, xs (nI (i + 1)).toNatClampNeg = y := ⟨_, rfl⟩
  obtain ⟨y2, e2⟩ : ∃ y, xs (nI (i + 2)).toNatClampNeg = y := ⟨_, rfl⟩
  obtain ⟨y3, e3⟩ : ∃ y, xs (nI (i + 3)).toNatClampNeg = y := ⟨_, rfl⟩
  refine lv_aload_n hx hb dL_law_510 rfl (lv_at hl 1 rfl) ?_
  refine lv_aload_n hx hb dL_law_511 rfl (lv_at hl 0 rfl) ?_
  refine lv_iload hx hb dL_law_512 (lv_at hl 4 rfl) ?_
  refine lv_iconst (v := nI 1) hx hb dL_law_514 (by decide) ?_
  refine lv_iadd hx hb dL_law_515 ?_
  refine lv_cv (nI_add i 1) ?_
  refine va_sld hx hb hX hbl hbA hS (vp_in_nI (n := i + 1) (N := L) (by omega) (by omega)) dL_law_516 ?_
  refine lv_cv e1 ?_
  refine lv_aload_n hx hb dL_law_517 rfl (lv_at hl 0 rfl) ?_
  refine lv_iload hx hb dL_law_518 (lv_at hl 4 rfl) ?_
  refine lv_iconst (v := nI 2) hx hb dL_law_520 (by decide) ?_
  refine lv_iadd hx hb dL_law_521 ?_
  refine lv_cv (nI_add i 2) ?_
  refine va_sld hx hb hX hbl hbA hS (vp_in_nI (n := i + 2) (N := L) (by omega) (by omega)) dL_law_522 ?_
  refine lv_cv e2 ?_
  refine lv_aload_n hx hb dL_law_523 rfl (lv_at hl 0 rfl) ?_
  refine lv_iload hx hb dL_law_524 (lv_at hl 4 rfl) ?_
  refine lv_iconst (v := nI 3) hx hb dL_law_526 (by decide) ?_
  refine lv_iadd hx hb dL_law_527 ?_
  refine lv_cv (nI_add i 3) ?_
  refine va_sld hx hb hX hbl hbA hS (vp_in_nI (n := i + 3) (N := L) (by omega) (by omega)) dL_law_528 ?_
  refine lv_cv e3 ?_
  refine lv_aload_n hx hb dL_law_529 rfl (lv_at hl 3 rfl) ?_
  refine qI_SW (A := A0f s.heap.size) (A1 := (A1f SA out H.size)) (As := [.ref (SA 0), .int y1, .int y2, .int y3, .ref out]) (rest := []) ⟨hx, hb, hml, hown, hts⟩ (mL_join (A := (A1f SA out H.size)) hst (out := out) (SA := SA) (X := X) (es := es) (k := k) (fun i hi => Or.inl ⟨i, hi, rfl⟩) (Or.inr (Or.inl rfl)) hSo) (vx_cwSW 5 hts (gSW tw_3_90 tw_3_91 tw_1_0 cw_join) rfl rfl rfl (by decide +kernel) ⟨Nat.le_of_ble_eq_true rfl, Nat.le_of_ble_eq_true rfl⟩) hC hS (A1f_in hSA hout hS.1) (fun q h => Or.inr (Or.inr h)) ⟨hSS, hO⟩ rfl rfl hl.1 (Nat.le_of_ble_eq_true rfl) ⟨Nat.le_trans (by omega) hc, Nat.le_trans (by omega) hs⟩ dL_law_530 (fun r1 H1 L1 hP hk hS => ?_)
  have h60 := hM.h60
  have he := hM.he
  have hM := MW.kc hK hSS hM hO hk
  have hN : ∃ (v : Int32) (X1 : Nat → List Nat) (es1 : List Nat), RP_join X es y1 y2 y3 r1 v X1 es1 ∧ SS G SA X1 es1 k H1 ∧ ∃ (n : Int64) (w : Value), va_at G.1 vwCl (out, .inr (7, [.long n, w])) H1 ∧ (r1 = 0 → n = v.toInt64) := by
    rcases hP with ⟨e0, v9, H0, hv, hk0, w9, hO1⟩ | ⟨e0, c0, hS1, n0, w0, hO1⟩ | ⟨e0, c0, hS1, n0, w0, hO1⟩
    · obtain ⟨z0, z1, z2, q0, q1, q2, q3, q4, q5, q6, q7, hS1⟩ := hv
      exact ⟨v9, _, _, Or.inl ⟨e0, z0, z1, z2, q0, q1, q2, q3, q4, q5, q6, q7, rfl, rfl⟩, hS1.kp hk0 (fun i hi e => hSo i hi e), _, _, hO1, fun _ => rfl⟩
    · exact ⟨0, _, _, Or.inr (Or.inl ⟨e0, c0, rfl, rfl⟩), hS1, _, _, hO1, fun e => absurd (e0.symm.trans e) (by decide)⟩
    · exact ⟨0, _, _, Or.inr (Or.inr (⟨e0, c0, rfl, rfl⟩)), hS1, _, _, hO1, fun e => absurd (e0.symm.trans e) (by decide)⟩
  obtain ⟨v1, X1, es1, hR1, hSS, n1, w1, hO, hn1⟩ := hN
  refine lv_istore (lv' := [(5, .int r1), (0, .ref b), (1, .ref (SA 0)), (2, .ref am), (3, .ref out), (4, .int (nI i))]) hx hb dL_law_533 hl (by decide) rfl (fun ls hl => ?_)
  refine lv_aload_n hx hb dL_law_535 rfl (lv_at hl 3 rfl) ?_
  refine lv_aload_n hx hb dL_law_536 rfl (lv_at hl 1 rfl) ?_
  refine lv_iload hx hb dL_law_537 (lv_at hl 5 rfl) ?_
  refine lv_iconst (v := nI 1) hx hb dL_law_539 (by decide) ?_
  refine lv_iadd hx hb dL_law_540 ?_
  refine lv_cv (nI_add i 1) ?_
  refine va_sld hx hb hX hbl hbA hS (vp_in_nI (n := i + 1) (N := L) (by omega) (by omega)) dL_law_541 ?_
  refine lv_cv e1 ?_
  refine lv_aload_n hx hb dL_law_542 rfl (lv_at hl 1 rfl) ?_
  refine lv_iload hx hb dL_law_543 (lv_at hl 5 rfl) ?_
  refine lv_iconst (v := nI 2) hx hb dL_law_545 (by decide) ?_
  refine lv_iadd hx hb dL_law_546 ?_
  refine lv_cv (nI_add i 2) ?_
  refine va_sld hx hb hX hbl hbA hS (vp_in_nI (n := i + 2) (N := L) (by omega) (by omega)) dL_law_547 ?_
  refine lv_cv e2 ?_
  refine lv_aload_n hx hb dL_law_548 rfl (lv_at hl 1 rfl) ?_
  refine lv_iload hx hb dL_law_549 (lv_at hl 5 rfl) ?_
  refine lv_iconst (v := nI 3) hx hb dL_law_551 (by decide) ?_
  refine lv_iadd hx hb dL_law_552 ?_
  refine lv_cv (nI_add i 3) ?_
  refine va_sld hx hb hX hbl hbA hS (vp_in_nI (n := i + 3) (N := L) (by omega) (by omega)) dL_law_553 ?_
  refine lv_cv e3 ?_
  refine qI_V (A := A0f s.heap.size) (A1 := (A2f s.heap.size SA out)) (b := am) (As := [.int y1, .int y2, .int y3]) (rest := []) ⟨hx, hb, hml, hown, hts⟩ (mX4_join (A := (A2f s.heap.size SA out)) (am := am) (xa := xa) (X := X) (P := pcL (X 14) es) (k := k) (th := th)) (cwV 3 hts (gV tw_4_237 tw_4_238 tw_4_239 tw_1_8 tw_5_0) rfl rfl rfl (by decide +kernel) ⟨Nat.le_of_ble_eq_true rfl, Nat.le_of_ble_eq_true rfl⟩) hC hS (fun q h => h.1) (A2f_new hSS ⟨_, _, hO⟩ hS.1) (hM.recv hK) hM rfl rfl hl.1 (Nat.le_of_ble_eq_true rfl) ⟨Nat.le_trans (by omega) hc, Nat.le_trans (by omega) hs⟩ dL_law_554 (fun r2 H2 L2 hP hk hS => ?_)
  have hSS := hSS.kp hk (fun i hi h => h.2.1 i hi rfl)
  have hO := at_kp hO hk (fun h => h.2.2 rfl)
  have hM2 : ∃ (X2 : Nat → List Nat) (es2 : List Nat) (th2 : Int32), RP_join X es y1 y2 y3 th2 r2 X2 es2 ∧ MW G (A2f s.heap.size SA out) am xa X2 (pcL (X2 14) es2) k th2 H2 := by
    rcases hP with ⟨c0, -, h9⟩ | ⟨c0, -, h9⟩ | ⟨z0, z1, z2, q0, q1, q2, q3, q4, q5, q6, q7, h9⟩
    · exact ⟨_, _, _, Or.inr (Or.inl ⟨rfl, c0, rfl, rfl⟩), h9⟩
    · exact ⟨_, _, _, Or.inr (Or.inr (⟨rfl, c0, rfl, rfl⟩)), h9⟩
    · exact ⟨_, _, _, Or.inl ⟨rfl, z0, z1, z2, q0, q1, q2, q3, q4, q5, q6, q7, rfl, rfl⟩, by rw [updT_n (by omega)]; exact h9⟩
  obtain ⟨X2, es2, th2, hR2, hM⟩ := hM2
  obtain ⟨ec, eX, ee, ev⟩ := ag_join h60 he hR1 hR2
  subst eX
  subst ee
  refine lv_istore (lv' := [(6, .int r2), (5, .int r1), (0, .ref b), (1, .ref (SA 0)), (2, .ref am), (3, .ref out), (4, .int (nI i))]) hx hb dL_law_557 hl (by decide) rfl (fun ls hl => ?_)
  refine lv_goto (tgt := 2115) hx hb dL_law_559 (by decide) ?_
  refine W.widen (k := cells + 140) (n := slots + 9600) (by omega) (by omega) ?_
  exact kk k H2 L2 ls ⟨_, _, hSS, ⟨_, hM⟩, _, _, hO⟩ hS (lv_sub hl [2, 3, 4, 5, 6] rfl)

theorem lc_times {p : Program} {l : Launch} {e : Env} {s : State} {m : MethodId} {below : List Frame} {meth : Method} {c : Code} {b L : Nat} {xs : Nat → Int32} {G : Cx} {SA : Nat → Nat} {am xa out : Nat} (Z : LX p l e s m meth c b L xs G SA out) : LStep p l e s m below meth c b L G SA am xa out 562 := by
  intro k H locs cells slots i ls Q hI hS hi hc hs hl kk
  obtain ⟨hx, hb, hml, hown, hts, hC, hX, hbl, hL, hst, hSA, hSo, hout⟩ := Z
  have hK := hC.1
  have hA : ∀ q : Nat, s.heap.size ≤ q → A0f s.heap.size q := fun q h => h
  have hbA : ¬ A0f s.heap.size b := Nat.not_le_of_lt hbl
  obtain ⟨X, es, hSS, ⟨th, hM⟩, hO⟩ := hI
  obtain ⟨y1, e1⟩ : ∃ y, xs (nI (i + 1)).toNatClampNeg = y := ⟨_, rfl⟩
  obtain ⟨y2, e2⟩ : ∃ y, xs (nI (i + 2)).toNatClampNeg = y := ⟨_, rfl⟩
  obtain ⟨y3, e3⟩ : ∃ y, xs (nI (i + 3)).toNatClampNeg = y := ⟨_, rfl⟩
  refine lv_aload_n hx hb dL_law_562 rfl (lv_at hl 1 rfl) ?_
  refine lv_aload_n hx hb dL_law_563 rfl (lv_at hl 0 rfl) ?_
  refine lv_iload hx hb dL_law_564 (lv_at hl 4 rfl) ?_
  refine lv_iconst (v := nI 1) hx hb dL_law_566 (by decide) ?_
  refine lv_iadd hx hb dL_law_567 ?_
  refine lv_cv (nI_add i 1) ?_
  refine va_sld hx hb hX hbl hbA hS (vp_in_nI (n := i + 1) (N := L) (by omega) (by omega)) dL_law_568 ?_
  refine lv_cv e1 ?_
  refine lv_aload_n hx hb dL_law_569 rfl (lv_at hl 0 rfl) ?_
  refine lv_iload hx hb dL_law_570 (lv_at hl 4 rfl) ?_
  refine lv_iconst (v := nI 2) hx hb dL_law_572 (by decide) ?_
  refine lv_iadd hx hb dL_law_573 ?_
  refine lv_cv (nI_add i 2) ?_
  refine va_sld hx hb hX hbl hbA hS (vp_in_nI (n := i + 2) (N := L) (by omega) (by omega)) dL_law_574 ?_
  refine lv_cv e2 ?_
  refine lv_aload_n hx hb dL_law_575 rfl (lv_at hl 0 rfl) ?_
  refine lv_iload hx hb dL_law_576 (lv_at hl 4 rfl) ?_
  refine lv_iconst (v := nI 3) hx hb dL_law_578 (by decide) ?_
  refine lv_iadd hx hb dL_law_579 ?_
  refine lv_cv (nI_add i 3) ?_
  refine va_sld hx hb hX hbl hbA hS (vp_in_nI (n := i + 3) (N := L) (by omega) (by omega)) dL_law_580 ?_
  refine lv_cv e3 ?_
  refine lv_aload_n hx hb dL_law_581 rfl (lv_at hl 3 rfl) ?_
  refine qI_SW (A := A0f s.heap.size) (A1 := (A1f SA out H.size)) (As := [.ref (SA 0), .int y1, .int y2, .int y3, .ref out]) (rest := []) ⟨hx, hb, hml, hown, hts⟩ (mL_times (A := (A1f SA out H.size)) hst (out := out) (SA := SA) (X := X) (es := es) (k := k) (fun i hi => Or.inl ⟨i, hi, rfl⟩) (Or.inr (Or.inl rfl)) hSo) (vx_cwSW 5 hts (gSW tw_3_97 tw_3_98 tw_1_0 cw_times) rfl rfl rfl (by decide +kernel) ⟨Nat.le_of_ble_eq_true rfl, Nat.le_of_ble_eq_true rfl⟩) hC hS (A1f_in hSA hout hS.1) (fun q h => Or.inr (Or.inr h)) ⟨hSS, hO⟩ rfl rfl hl.1 (Nat.le_of_ble_eq_true rfl) ⟨Nat.le_trans (by omega) hc, Nat.le_trans (by omega) hs⟩ dL_law_582 (fun r1 H1 L1 hP hk hS => ?_)
  have h60 := hM.h60
  have he := hM.he
  have hM := MW.kc hK hSS hM hO hk
  have hN : ∃ (v : Int32) (X1 : Nat → List Nat) (es1 : List Nat), RP_times X es y1 y2 y3 r1 v X1 es1 ∧ SS G SA X1 es1 k H1 ∧ ∃ (n : Int64) (w : Value), va_at G.1 vwCl (out, .inr (7, [.long n, w])) H1 ∧ (r1 = 0 → n = v.toInt64) := by
    rcases hP with ⟨e0, v9, H0, hv, hk0, w9, hO1⟩ | ⟨e0, c0, hS1, n0, w0, hO1⟩ | ⟨e0, c0, hS1, n0, w0, hO1⟩ | ⟨e0, c0, hS1, n0, w0, hO1⟩
    · obtain ⟨z0, z1, z2, q0, q1, q2, q3, q4, q5, q6, q7, hS1⟩ := hv
      exact ⟨v9, _, _, Or.inl ⟨e0, z0, z1, z2, q0, q1, q2, q3, q4, q5, q6, q7, rfl, rfl⟩, hS1.kp hk0 (fun i hi e => hSo i hi e), _, _, hO1, fun _ => rfl⟩
    · exact ⟨0, _, _, Or.inr (Or.inl ⟨e0, c0, rfl, rfl⟩), hS1, _, _, hO1, fun e => absurd (e0.symm.trans e) (by decide)⟩
    · exact ⟨0, _, _, Or.inr (Or.inr (Or.inl ⟨e0, c0, rfl, rfl⟩)), hS1, _, _, hO1, fun e => absurd (e0.symm.trans e) (by decide)⟩
    · exact ⟨0, _, _, Or.inr (Or.inr (Or.inr (⟨e0, c0, rfl, rfl⟩))), hS1, _, _, hO1, fun e => absurd (e0.symm.trans e) (by decide)⟩
  obtain ⟨v1, X1, es1, hR1, hSS, n1, w1, hO, hn1⟩ := hN
  refine lv_istore (lv' := [(5, .int r1), (0, .ref b), (1, .ref (SA 0)), (2, .ref am), (3, .ref out), (4, .int (nI i))]) hx hb dL_law_585 hl (by decide) rfl (fun ls hl => ?_)
  refine lv_aload_n hx hb dL_law_587 rfl (lv_at hl 3 rfl) ?_
  refine lv_aload_n hx hb dL_law_588 rfl (lv_at hl 1 rfl) ?_
  refine lv_iload hx hb dL_law_589 (lv_at hl 5 rfl) ?_
  refine lv_iconst (v := nI 1) hx hb dL_law_591 (by decide) ?_
  refine lv_iadd hx hb dL_law_592 ?_
  refine lv_cv (nI_add i 1) ?_
  refine va_sld hx hb hX hbl hbA hS (vp_in_nI (n := i + 1) (N := L) (by omega) (by omega)) dL_law_593 ?_
  refine lv_cv e1 ?_
  refine lv_aload_n hx hb dL_law_594 rfl (lv_at hl 1 rfl) ?_
  refine lv_iload hx hb dL_law_595 (lv_at hl 5 rfl) ?_
  refine lv_iconst (v := nI 2) hx hb dL_law_597 (by decide) ?_
  refine lv_iadd hx hb dL_law_598 ?_
  refine lv_cv (nI_add i 2) ?_
  refine va_sld hx hb hX hbl hbA hS (vp_in_nI (n := i + 2) (N := L) (by omega) (by omega)) dL_law_599 ?_
  refine lv_cv e2 ?_
  refine lv_aload_n hx hb dL_law_600 rfl (lv_at hl 1 rfl) ?_
  refine lv_iload hx hb dL_law_601 (lv_at hl 5 rfl) ?_
  refine lv_iconst (v := nI 3) hx hb dL_law_603 (by decide) ?_
  refine lv_iadd hx hb dL_law_604 ?_
  refine lv_cv (nI_add i 3) ?_
  refine va_sld hx hb hX hbl hbA hS (vp_in_nI (n := i + 3) (N := L) (by omega) (by omega)) dL_law_605 ?_
  refine lv_cv e3 ?_
  refine qI_V (A := A0f s.heap.size) (A1 := (A2f s.heap.size SA out)) (b := am) (As := [.int y1, .int y2, .int y3]) (rest := []) ⟨hx, hb, hml, hown, hts⟩ (mX4_times (A := (A2f s.heap.size SA out)) (am := am) (xa := xa) (X := X) (P := pcL (X 14) es) (k := k) (th := th)) (cwV 3 hts (gV tw_5_1 tw_5_2 tw_5_3 tw_1_8 tw_5_4) rfl rfl rfl (by decide +kernel) ⟨Nat.le_of_ble_eq_true rfl, Nat.le_of_ble_eq_true rfl⟩) hC hS (fun q h => h.1) (A2f_new hSS ⟨_, _, hO⟩ hS.1) (hM.recv hK) hM rfl rfl hl.1 (Nat.le_of_ble_eq_true rfl) ⟨Nat.le_trans (by omega) hc, Nat.le_trans (by omega) hs⟩ dL_law_606 (fun r2 H2 L2 hP hk hS => ?_)
  have hSS := hSS.kp hk (fun i hi h => h.2.1 i hi rfl)
  have hO := at_kp hO hk (fun h => h.2.2 rfl)
  have hM2 : ∃ (X2 : Nat → List Nat) (es2 : List Nat) (th2 : Int32), RP_times X es y1 y2 y3 th2 r2 X2 es2 ∧ MW G (A2f s.heap.size SA out) am xa X2 (pcL (X2 14) es2) k th2 H2 := by
    rcases hP with ⟨c0, -, h9⟩ | ⟨c0, -, h9⟩ | ⟨c0, -, h9⟩ | ⟨z0, z1, z2, q0, q1, q2, q3, q4, q5, q6, q7, h9⟩
    · exact ⟨_, _, _, Or.inr (Or.inl ⟨rfl, c0, rfl, rfl⟩), h9⟩
    · exact ⟨_, _, _, Or.inr (Or.inr (Or.inl ⟨rfl, c0, rfl, rfl⟩)), h9⟩
    · exact ⟨_, _, _, Or.inr (Or.inr (Or.inr (⟨rfl, c0, rfl, rfl⟩))), h9⟩
    · exact ⟨_, _, _, Or.inl ⟨rfl, z0, z1, z2, q0, q1, q2, q3, q4, q5, q6, q7, rfl, rfl⟩, by rw [updT_n (by omega)]; exact h9⟩
  obtain ⟨X2, es2, th2, hR2, hM⟩ := hM2
  obtain ⟨ec, eX, ee, ev⟩ := ag_times h60 he hR1 hR2
  subst eX
  subst ee
  refine lv_istore (lv' := [(6, .int r2), (5, .int r1), (0, .ref b), (1, .ref (SA 0)), (2, .ref am), (3, .ref out), (4, .int (nI i))]) hx hb dL_law_609 hl (by decide) rfl (fun ls hl => ?_)
  refine lv_goto (tgt := 2115) hx hb dL_law_611 (by decide) ?_
  refine W.widen (k := cells + 140) (n := slots + 9600) (by omega) (by omega) ?_
  exact kk k H2 L2 ls ⟨_, _, hSS, ⟨_, hM⟩, _, _, hO⟩ hS (lv_sub hl [2, 3, 4, 5, 6] rfl)

theorem lc_trim {p : Program} {l : Launch} {e : Env} {s : State} {m : MethodId} {below : List Frame} {meth : Method} {c : Code} {b L : Nat} {xs : Nat → Int32} {G : Cx} {SA : Nat → Nat} {am xa out : Nat} (Z : LX p l e s m meth c b L xs G SA out) : LStep p l e s m below meth c b L G SA am xa out 614 := by
  intro k H locs cells slots i ls Q hI hS hi hc hs hl kk
  obtain ⟨hx, hb, hml, hown, hts, hC, hX, hbl, hL, hst, hSA, hSo, hout⟩ := Z
  have hK := hC.1
  have hA : ∀ q : Nat, s.heap.size ≤ q → A0f s.heap.size q := fun q h => h
  have hbA : ¬ A0f s.heap.size b := Nat.not_le_of_lt hbl
  obtain ⟨X, es, hSS, ⟨th, hM⟩, hO⟩ := hI
  obtain ⟨y1, e1⟩ : ∃ y, xs (nI (i + 1)).toNatClampNeg = y := ⟨_, rfl⟩
  obtain ⟨y2, e2⟩ : ∃ y, xs (nI (i + 2)).toNatClampNeg = y := ⟨_, rfl⟩
  obtain ⟨y3, e3⟩ : ∃ y, xs (nI (i + 3)).toNatClampNeg = y := ⟨_, rfl⟩
  by_cases hz2 : y2 = 0
  · refine lv_aload_n hx hb dL_law_614 rfl (lv_at hl 1 rfl) ?_
    refine lv_aload_n hx hb dL_law_615 rfl (lv_at hl 0 rfl) ?_
    refine lv_iload hx hb dL_law_616 (lv_at hl 4 rfl) ?_
    refine lv_iconst (v := nI 1) hx hb dL_law_618 (by decide) ?_
    refine lv_iadd hx hb dL_law_619 ?_
    refine lv_cv (nI_add i 1) ?_
    refine va_sld hx hb hX hbl hbA hS (vp_in_nI (n := i + 1) (N := L) (by omega) (by omega)) dL_law_620 ?_
    refine lv_cv e1 ?_
    refine lv_aload_n hx hb dL_law_621 rfl (lv_at hl 0 rfl) ?_
    refine lv_iload hx hb dL_law_622 (lv_at hl 4 rfl) ?_
    refine lv_iconst (v := nI 2) hx hb dL_law_624 (by decide) ?_
    refine lv_iadd hx hb dL_law_625 ?_
    refine lv_cv (nI_add i 2) ?_
    refine va_sld hx hb hX hbl hbA hS (vp_in_nI (n := i + 2) (N := L) (by omega) (by omega)) dL_law_626 ?_
    refine lv_cv e2 ?_
    refine lv_if_eq (tgt := 634) hx hb dL_law_627 (by decide) (fun c_8 => ?_) (fun c_8 => ?_)
    · refine lv_iconst (v := nI 0) hx hb dL_law_634 (by decide) ?_
      refine lv_aload_n hx hb dL_law_635 rfl (lv_at hl 0 rfl) ?_
      refine lv_iload hx hb dL_law_636 (lv_at hl 4 rfl) ?_
      refine lv_iconst (v := nI 3) hx hb dL_law_638 (by decide) ?_
      refine lv_iadd hx hb dL_law_639 ?_
      refine lv_cv (nI_add i 3) ?_
      refine va_sld hx hb hX hbl hbA hS (vp_in_nI (n := i + 3) (N := L) (by omega) (by omega)) dL_law_640 ?_
      refine lv_cv e3 ?_
      refine lv_aload_n hx hb dL_law_641 rfl (lv_at hl 3 rfl) ?_
      refine qI_SW (A := A0f s.heap.size) (A1 := (A1f SA out H.size)) (As := [.ref (SA 0), .int y1, .int (bI false), .int y3, .ref out]) (rest := []) ⟨hx, hb, hml, hown, hts⟩ (mL_trim (A := (A1f SA out H.size)) hst (out := out) (SA := SA) (X := X) (es := es) (k := k) (fun i hi => Or.inl ⟨i, hi, rfl⟩) (Or.inr (Or.inl rfl)) hSo) (vx_cwSW 5 hts (gSW tw_3_104 tw_3_105 tw_1_0 cw_trim) rfl rfl rfl (by decide +kernel) ⟨Nat.le_of_ble_eq_true rfl, Nat.le_of_ble_eq_true rfl⟩) hC hS (A1f_in hSA hout hS.1) (fun q h => Or.inr (Or.inr h)) ⟨hSS, hO⟩ rfl rfl hl.1 (Nat.le_of_ble_eq_true rfl) ⟨Nat.le_trans (by omega) hc, Nat.le_trans (by omega) hs⟩ dL_law_642 (fun r1 H1 L1 hP hk hS => ?_)
      have h60 := hM.h60
      have he := hM.he
      have hM := MW.kc hK hSS hM hO hk
      have hN : ∃ (v : Int32) (X1 : Nat → List Nat) (es1 : List Nat), RP_trim X es y1 false y3 r1 v X1 es1 ∧ SS G SA X1 es1 k H1 ∧ ∃ (n : Int64) (w : Value), va_at G.1 vwCl (out, .inr (7, [.long n, w])) H1 ∧ (r1 = 0 → n = v.toInt64) := by
        rcases hP with ⟨e0, v9, H0, hv, hk0, w9, hO1⟩ | ⟨e0, c0, hS1, n0, w0, hO1⟩
        · obtain ⟨z0, z1, z2, q0, q1, q2, q3, q4, q5, hS1⟩ := hv
          exact ⟨v9, _, _, Or.inl ⟨e0, z0, z1, z2, q0, q1, q2, q3, q4, q5, rfl, rfl⟩, hS1.kp hk0 (fun i hi e => hSo i hi e), _, _, hO1, fun _ => rfl⟩
        · exact ⟨0, _, _, Or.inr (⟨e0, c0, rfl, rfl⟩), hS1, _, _, hO1, fun e => absurd (e0.symm.trans e) (by decide)⟩
      obtain ⟨v1, X1, es1, hR1, hSS, n1, w1, hO, hn1⟩ := hN
      refine lv_istore (lv' := [(5, .int r1), (0, .ref b), (1, .ref (SA 0)), (2, .ref am), (3, .ref out), (4, .int (nI i))]) hx hb dL_law_645 hl (by decide) rfl (fun ls hl => ?_)
      refine lv_aload_n hx hb dL_law_647 rfl (lv_at hl 3 rfl) ?_
      refine lv_aload_n hx hb dL_law_648 rfl (lv_at hl 1 rfl) ?_
      refine lv_iload hx hb dL_law_649 (lv_at hl 5 rfl) ?_
      refine lv_iconst (v := nI 1) hx hb dL_law_651 (by decide) ?_
      refine lv_iadd hx hb dL_law_652 ?_
      refine lv_cv (nI_add i 1) ?_
      refine va_sld hx hb hX hbl hbA hS (vp_in_nI (n := i + 1) (N := L) (by omega) (by omega)) dL_law_653 ?_
      refine lv_cv e1 ?_
      refine lv_aload_n hx hb dL_law_654 rfl (lv_at hl 1 rfl) ?_
      refine lv_iload hx hb dL_law_655 (lv_at hl 5 rfl) ?_
      refine lv_iconst (v := nI 2) hx hb dL_law_657 (by decide) ?_
      refine lv_iadd hx hb dL_law_658 ?_
      refine lv_cv (nI_add i 2) ?_
      refine va_sld hx hb hX hbl hbA hS (vp_in_nI (n := i + 2) (N := L) (by omega) (by omega)) dL_law_659 ?_
      refine lv_cv e2 ?_
      refine lv_if_eq (tgt := 667) hx hb dL_law_660 (by decide) (fun c_9 => ?_) (fun c_9 => ?_)
      · refine lv_iconst (v := nI 0) hx hb dL_law_667 (by decide) ?_
        refine lv_aload_n hx hb dL_law_668 rfl (lv_at hl 1 rfl) ?_
        refine lv_iload hx hb dL_law_669 (lv_at hl 5 rfl) ?_
        refine lv_iconst (v := nI 3) hx hb dL_law_671 (by decide) ?_
        refine lv_iadd hx hb dL_law_672 ?_
        refine lv_cv (nI_add i 3) ?_
        refine va_sld hx hb hX hbl hbA hS (vp_in_nI (n := i + 3) (N := L) (by omega) (by omega)) dL_law_673 ?_
        refine lv_cv e3 ?_
        refine qI_V (A := A0f s.heap.size) (A1 := (A2f s.heap.size SA out)) (b := am) (As := [.int y1, .int (bI false), .int y3]) (rest := []) ⟨hx, hb, hml, hown, hts⟩ (mX4_trim (A := (A2f s.heap.size SA out)) (am := am) (xa := xa) (X := X) (P := pcL (X 14) es) (k := k) (th := th)) (cwV 3 hts (gV tw_5_5 tw_5_6 tw_5_7 tw_1_8 tw_5_8) rfl rfl rfl (by decide +kernel) ⟨Nat.le_of_ble_eq_true rfl, Nat.le_of_ble_eq_true rfl⟩) hC hS (fun q h => h.1) (A2f_new hSS ⟨_, _, hO⟩ hS.1) (hM.recv hK) hM rfl rfl hl.1 (Nat.le_of_ble_eq_true rfl) ⟨Nat.le_trans (by omega) hc, Nat.le_trans (by omega) hs⟩ dL_law_674 (fun r2 H2 L2 hP hk hS => ?_)
        have hSS := hSS.kp hk (fun i hi h => h.2.1 i hi rfl)
        have hO := at_kp hO hk (fun h => h.2.2 rfl)
        have hM2 : ∃ (X2 : Nat → List Nat) (es2 : List Nat) (th2 : Int32), RP_trim X es y1 false y3 th2 r2 X2 es2 ∧ MW G (A2f s.heap.size SA out) am xa X2 (pcL (X2 14) es2) k th2 H2 := by
          rcases hP with ⟨c0, -, h9⟩ | ⟨z0, z1, q0, q1, q2, q3, z2, q4, q5, h9⟩
          · exact ⟨_, _, _, Or.inr (⟨rfl, c0, rfl, rfl⟩), h9⟩
          · exact ⟨_, _, _, Or.inl ⟨rfl, z0, z1, z2, q0, q1, q2, q3, q4, q5, rfl, rfl⟩, by rw [updT_n (by omega)]; exact h9⟩
        obtain ⟨X2, es2, th2, hR2, hM⟩ := hM2
        obtain ⟨ec, eX, ee, ev⟩ := ag_trim h60 he hR1 hR2
        subst eX
        subst ee
        refine lv_istore (lv' := [(6, .int r2), (5, .int r1), (0, .ref b), (1, .ref (SA 0)), (2, .ref am), (3, .ref out), (4, .int (nI i))]) hx hb dL_law_677 hl (by decide) rfl (fun ls hl => ?_)
        refine lv_goto (tgt := 2115) hx hb dL_law_679 (by decide) ?_
        refine W.widen (k := cells + 140) (n := slots + 9600) (by omega) (by omega) ?_
        exact kk k H2 L2 ls ⟨_, _, hSS, ⟨_, hM⟩, _, _, hO⟩ hS (lv_sub hl [2, 3, 4, 5, 6] rfl)
      · exact absurd hz2 c_9
    · exact absurd hz2 c_8
  · refine lv_aload_n hx hb dL_law_614 rfl (lv_at hl 1 rfl) ?_
    refine lv_aload_n hx hb dL_law_615 rfl (lv_at hl 0 rfl) ?_
    refine lv_iload hx hb dL_law_616 (lv_at hl 4 rfl) ?_
    refine lv_iconst (v := nI 1) hx hb dL_law_618 (by decide) ?_
    refine lv_iadd hx hb dL_law_619 ?_
    refine lv_cv (nI_add i 1) ?_
    refine va_sld hx hb hX hbl hbA hS (vp_in_nI (n := i + 1) (N := L) (by omega) (by omega)) dL_law_620 ?_
    refine lv_cv e1 ?_
    refine lv_aload_n hx hb dL_law_621 rfl (lv_at hl 0 rfl) ?_
    refine lv_iload hx hb dL_law_622 (lv_at hl 4 rfl) ?_
    refine lv_iconst (v := nI 2) hx hb dL_law_624 (by decide) ?_
    refine lv_iadd hx hb dL_law_625 ?_
    refine lv_cv (nI_add i 2) ?_
    refine va_sld hx hb hX hbl hbA hS (vp_in_nI (n := i + 2) (N := L) (by omega) (by omega)) dL_law_626 ?_
    refine lv_cv e2 ?_
    refine lv_if_eq (tgt := 634) hx hb dL_law_627 (by decide) (fun c_10 => ?_) (fun c_10 => ?_)
    · exact absurd c_10 hz2
    · refine lv_iconst (v := nI 1) hx hb dL_law_630 (by decide) ?_
      refine lv_goto (tgt := 635) hx hb dL_law_631 (by decide) ?_
      refine lv_aload_n hx hb dL_law_635 rfl (lv_at hl 0 rfl) ?_
      refine lv_iload hx hb dL_law_636 (lv_at hl 4 rfl) ?_
      refine lv_iconst (v := nI 3) hx hb dL_law_638 (by decide) ?_
      refine lv_iadd hx hb dL_law_639 ?_
      refine lv_cv (nI_add i 3) ?_
      refine va_sld hx hb hX hbl hbA hS (vp_in_nI (n := i + 3) (N := L) (by omega) (by omega)) dL_law_640 ?_
      refine lv_cv e3 ?_
      refine lv_aload_n hx hb dL_law_641 rfl (lv_at hl 3 rfl) ?_
      refine qI_SW (A := A0f s.heap.size) (A1 := (A1f SA out H.size)) (As := [.ref (SA 0), .int y1, .int (bI true), .int y3, .ref out]) (rest := []) ⟨hx, hb, hml, hown, hts⟩ (mL_trim (A := (A1f SA out H.size)) hst (out := out) (SA := SA) (X := X) (es := es) (k := k) (fun i hi => Or.inl ⟨i, hi, rfl⟩) (Or.inr (Or.inl rfl)) hSo) (vx_cwSW 5 hts (gSW tw_3_104 tw_3_105 tw_1_0 cw_trim) rfl rfl rfl (by decide +kernel) ⟨Nat.le_of_ble_eq_true rfl, Nat.le_of_ble_eq_true rfl⟩) hC hS (A1f_in hSA hout hS.1) (fun q h => Or.inr (Or.inr h)) ⟨hSS, hO⟩ rfl rfl hl.1 (Nat.le_of_ble_eq_true rfl) ⟨Nat.le_trans (by omega) hc, Nat.le_trans (by omega) hs⟩ dL_law_642 (fun r1 H1 L1 hP hk hS => ?_)
      have h60 := hM.h60
      have he := hM.he
      have hM := MW.kc hK hSS hM hO hk
      have hN : ∃ (v : Int32) (X1 : Nat → List Nat) (es1 : List Nat), RP_trim X es y1 true y3 r1 v X1 es1 ∧ SS G SA X1 es1 k H1 ∧ ∃ (n : Int64) (w : Value), va_at G.1 vwCl (out, .inr (7, [.long n, w])) H1 ∧ (r1 = 0 → n = v.toInt64) := by
        rcases hP with ⟨e0, v9, H0, hv, hk0, w9, hO1⟩ | ⟨e0, c0, hS1, n0, w0, hO1⟩
        · obtain ⟨z0, z1, z2, q0, q1, q2, q3, q4, q5, hS1⟩ := hv
          exact ⟨v9, _, _, Or.inl ⟨e0, z0, z1, z2, q0, q1, q2, q3, q4, q5, rfl, rfl⟩, hS1.kp hk0 (fun i hi e => hSo i hi e), _, _, hO1, fun _ => rfl⟩
        · exact ⟨0, _, _, Or.inr (⟨e0, c0, rfl, rfl⟩), hS1, _, _, hO1, fun e => absurd (e0.symm.trans e) (by decide)⟩
      obtain ⟨v1, X1, es1, hR1, hSS, n1, w1, hO, hn1⟩ := hN
      refine lv_istore (lv' := [(5, .int r1), (0, .ref b), (1, .ref (SA 0)), (2, .ref am), (3, .ref out), (4, .int (nI i))]) hx hb dL_law_645 hl (by decide) rfl (fun ls hl => ?_)
      refine lv_aload_n hx hb dL_law_647 rfl (lv_at hl 3 rfl) ?_
      refine lv_aload_n hx hb dL_law_648 rfl (lv_at hl 1 rfl) ?_
      refine lv_iload hx hb dL_law_649 (lv_at hl 5 rfl) ?_
      refine lv_iconst (v := nI 1) hx hb dL_law_651 (by decide) ?_
      refine lv_iadd hx hb dL_law_652 ?_
      refine lv_cv (nI_add i 1) ?_
      refine va_sld hx hb hX hbl hbA hS (vp_in_nI (n := i + 1) (N := L) (by omega) (by omega)) dL_law_653 ?_
      refine lv_cv e1 ?_
      refine lv_aload_n hx hb dL_law_654 rfl (lv_at hl 1 rfl) ?_
      refine lv_iload hx hb dL_law_655 (lv_at hl 5 rfl) ?_
      refine lv_iconst (v := nI 2) hx hb dL_law_657 (by decide) ?_
      refine lv_iadd hx hb dL_law_658 ?_
      refine lv_cv (nI_add i 2) ?_
      refine va_sld hx hb hX hbl hbA hS (vp_in_nI (n := i + 2) (N := L) (by omega) (by omega)) dL_law_659 ?_
      refine lv_cv e2 ?_
      refine lv_if_eq (tgt := 667) hx hb dL_law_660 (by decide) (fun c_11 => ?_) (fun c_11 => ?_)
      · exact absurd c_11 hz2
      · refine lv_iconst (v := nI 1) hx hb dL_law_663 (by decide) ?_
        refine lv_goto (tgt := 668) hx hb dL_law_664 (by decide) ?_
        refine lv_aload_n hx hb dL_law_668 rfl (lv_at hl 1 rfl) ?_
        refine lv_iload hx hb dL_law_669 (lv_at hl 5 rfl) ?_
        refine lv_iconst (v := nI 3) hx hb dL_law_671 (by decide) ?_
        refine lv_iadd hx hb dL_law_672 ?_
        refine lv_cv (nI_add i 3) ?_
        refine va_sld hx hb hX hbl hbA hS (vp_in_nI (n := i + 3) (N := L) (by omega) (by omega)) dL_law_673 ?_
        refine lv_cv e3 ?_
        refine qI_V (A := A0f s.heap.size) (A1 := (A2f s.heap.size SA out)) (b := am) (As := [.int y1, .int (bI true), .int y3]) (rest := []) ⟨hx, hb, hml, hown, hts⟩ (mX4_trim (A := (A2f s.heap.size SA out)) (am := am) (xa := xa) (X := X) (P := pcL (X 14) es) (k := k) (th := th)) (cwV 3 hts (gV tw_5_5 tw_5_6 tw_5_7 tw_1_8 tw_5_8) rfl rfl rfl (by decide +kernel) ⟨Nat.le_of_ble_eq_true rfl, Nat.le_of_ble_eq_true rfl⟩) hC hS (fun q h => h.1) (A2f_new hSS ⟨_, _, hO⟩ hS.1) (hM.recv hK) hM rfl rfl hl.1 (Nat.le_of_ble_eq_true rfl) ⟨Nat.le_trans (by omega) hc, Nat.le_trans (by omega) hs⟩ dL_law_674 (fun r2 H2 L2 hP hk hS => ?_)
        have hSS := hSS.kp hk (fun i hi h => h.2.1 i hi rfl)
        have hO := at_kp hO hk (fun h => h.2.2 rfl)
        have hM2 : ∃ (X2 : Nat → List Nat) (es2 : List Nat) (th2 : Int32), RP_trim X es y1 true y3 th2 r2 X2 es2 ∧ MW G (A2f s.heap.size SA out) am xa X2 (pcL (X2 14) es2) k th2 H2 := by
          rcases hP with ⟨c0, -, h9⟩ | ⟨z0, z1, q0, q1, q2, q3, z2, q4, q5, h9⟩
          · exact ⟨_, _, _, Or.inr (⟨rfl, c0, rfl, rfl⟩), h9⟩
          · exact ⟨_, _, _, Or.inl ⟨rfl, z0, z1, z2, q0, q1, q2, q3, q4, q5, rfl, rfl⟩, by rw [updT_n (by omega)]; exact h9⟩
        obtain ⟨X2, es2, th2, hR2, hM⟩ := hM2
        obtain ⟨ec, eX, ee, ev⟩ := ag_trim h60 he hR1 hR2
        subst eX
        subst ee
        refine lv_istore (lv' := [(6, .int r2), (5, .int r1), (0, .ref b), (1, .ref (SA 0)), (2, .ref am), (3, .ref out), (4, .int (nI i))]) hx hb dL_law_677 hl (by decide) rfl (fun ls hl => ?_)
        refine lv_goto (tgt := 2115) hx hb dL_law_679 (by decide) ?_
        refine W.widen (k := cells + 140) (n := slots + 9600) (by omega) (by omega) ?_
        exact kk k H2 L2 ls ⟨_, _, hSS, ⟨_, hM⟩, _, _, hO⟩ hS (lv_sub hl [2, 3, 4, 5, 6] rfl)
