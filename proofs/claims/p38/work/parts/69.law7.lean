/-! THE LAW, 7: cases -/
theorem lc_set {p : Program} {l : Launch} {e : Env} {s : State} {m : MethodId} {below : List Frame} {meth : Method} {c : Code} {b L : Nat} {xs : Nat → Int32} {G : Cx} {SA : Nat → Nat} {am xa out : Nat} (Z : LX p l e s m meth c b L xs G SA out) : LStep p l e s m below meth c b L G SA am xa out 994 := by
  intro k H locs cells slots i ls Q hI hS hi hc hs hl kk
  obtain ⟨hx, hb, hml, hown, hts, hC, hX, hbl, hL, hst, hSA, hSo, hout⟩ := Z
  have hK := hC.1
  have hA : ∀ q : Nat, s.heap.size ≤ q → A0f s.heap.size q := fun q h => h
  have hbA : ¬ A0f s.heap.size b := Nat.not_le_of_lt hbl
  obtain ⟨X, es, hSS, ⟨th, hM⟩, hO⟩ := hI
  obtain ⟨y1, e1⟩ : ∃ y, xs (nI (i + 1)).toNatClampNeg = y := ⟨_, rfl⟩
  obtain ⟨y2, e2⟩ : ∃ y, xs (nI (i + 2)).toNatClampNeg = y := ⟨_, rfl⟩
  refine lv_aload_n hx hb dL_law_994 rfl (lv_at hl 1 rfl) ?_
  refine lv_aload_n hx hb dL_law_995 rfl (lv_at hl 0 rfl) ?_
  refine lv_iload hx hb dL_law_996 (lv_at hl 4 rfl) ?_
  refine lv_iconst (v := nI 1) hx hb dL_law_998 (by decide) ?_
  refine lv_iadd hx hb dL_law_999 ?_
  refine lv_cv (nI_add i 1) ?_
  refine va_sld hx hb hX hbl hbA hS (vp_in_nI (n := i + 1) (N := L) (by omega) (by omega)) dL_law_1000 ?_
  refine lv_cv e1 ?_
  refine lv_aload_n hx hb dL_law_1001 rfl (lv_at hl 0 rfl) ?_
  refine lv_iload hx hb dL_law_1002 (lv_at hl 4 rfl) ?_
  refine lv_iconst (v := nI 2) hx hb dL_law_1004 (by decide) ?_
  refine lv_iadd hx hb dL_law_1005 ?_
  refine lv_cv (nI_add i 2) ?_
  refine va_sld hx hb hX hbl hbA hS (vp_in_nI (n := i + 2) (N := L) (by omega) (by omega)) dL_law_1006 ?_
  refine lv_cv e2 ?_
  refine lv_aload_n hx hb dL_law_1007 rfl (lv_at hl 3 rfl) ?_
  refine qI_SW (A := A0f s.heap.size) (A1 := (A1f SA out H.size)) (As := [.ref (SA 0), .int y1, .int y2, .ref out]) (rest := []) ⟨hx, hb, hml, hown, hts⟩ (mL_set (A := (A1f SA out H.size)) hst (out := out) (SA := SA) (X := X) (es := es) (k := k) (fun i hi => Or.inl ⟨i, hi, rfl⟩) (Or.inr (Or.inl rfl)) hSo) (vx_cwSW 4 hts (gSW tw_3_173 tw_3_174 tw_1_0 cw_set) rfl rfl rfl (by decide +kernel) ⟨Nat.le_of_ble_eq_true rfl, Nat.le_of_ble_eq_true rfl⟩) hC hS (A1f_in hSA hout hS.1) (fun q h => Or.inr (Or.inr h)) ⟨hSS, hO⟩ rfl rfl hl.1 (Nat.le_of_ble_eq_true rfl) ⟨Nat.le_trans (by omega) hc, Nat.le_trans (by omega) hs⟩ dL_law_1008 (fun r1 H1 L1 hP hk hS => ?_)
  have h60 := hM.h60
  have he := hM.he
  have hM := MW.kc hK hSS hM hO hk
  have hN : ∃ (v : Int32) (X1 : Nat → List Nat) (es1 : List Nat), RP_set X es y1 y2 r1 v X1 es1 ∧ SS G SA X1 es1 k H1 ∧ ∃ (n : Int64) (w : Value), va_at G.1 vwCl (out, .inr (7, [.long n, w])) H1 ∧ (r1 = 0 → n = v.toInt64) := by
    rcases hP with ⟨e0, v9, H0, hv, hk0, w9, hO1⟩ | ⟨e0, c0, hS1, n0, w0, hO1⟩ | ⟨e0, c0, hS1, n0, w0, hO1⟩
    · obtain ⟨z0, z1, q0, q1, q2, q3, q4, hS1⟩ := hv
      exact ⟨v9, _, _, Or.inl ⟨e0, z0, z1, q0, q1, q2, q3, q4, rfl, rfl⟩, hS1.kp hk0 (fun i hi e => hSo i hi e), _, _, hO1, fun _ => rfl⟩
    · exact ⟨0, _, _, Or.inr (Or.inl ⟨e0, c0, rfl, rfl⟩), hS1, _, _, hO1, fun e => absurd (e0.symm.trans e) (by decide)⟩
    · exact ⟨0, _, _, Or.inr (Or.inr (⟨e0, c0, rfl, rfl⟩)), hS1, _, _, hO1, fun e => absurd (e0.symm.trans e) (by decide)⟩
  obtain ⟨v1, X1, es1, hR1, hSS, n1, w1, hO, hn1⟩ := hN
  refine lv_istore (lv' := [(5, .int r1), (0, .ref b), (1, .ref (SA 0)), (2, .ref am), (3, .ref out), (4, .int (nI i))]) hx hb dL_law_1011 hl (by decide) rfl (fun ls hl => ?_)
  refine lv_aload_n hx hb dL_law_1013 rfl (lv_at hl 3 rfl) ?_
  refine lv_aload_n hx hb dL_law_1014 rfl (lv_at hl 1 rfl) ?_
  refine lv_iload hx hb dL_law_1015 (lv_at hl 5 rfl) ?_
  refine lv_iconst (v := nI 1) hx hb dL_law_1017 (by decide) ?_
  refine lv_iadd hx hb dL_law_1018 ?_
  refine lv_cv (nI_add i 1) ?_
  refine va_sld hx hb hX hbl hbA hS (vp_in_nI (n := i + 1) (N := L) (by omega) (by omega)) dL_law_1019 ?_
  refine lv_cv e1 ?_
  refine lv_aload_n hx hb dL_law_1020 rfl (lv_at hl 1 rfl) ?_
  refine lv_iload hx hb dL_law_1021 (lv_at hl 5 rfl) ?_
  refine lv_iconst (v := nI 2) hx hb dL_law_1023 (by decide) ?_
  refine lv_iadd hx hb dL_law_1024 ?_
  refine lv_cv (nI_add i 2) ?_
  refine va_sld hx hb hX hbl hbA hS (vp_in_nI (n := i + 2) (N := L) (by omega) (by omega)) dL_law_1025 ?_
  refine lv_cv e2 ?_
  refine qI_V (A := A0f s.heap.size) (A1 := (A2f s.heap.size SA out)) (b := am) (As := [.int y1, .int y2]) (rest := []) ⟨hx, hb, hml, hown, hts⟩ (mX4_set (A := (A2f s.heap.size SA out)) (am := am) (xa := xa) (X := X) (P := pcL (X 14) es) (k := k) (th := th)) (cwV 2 hts (gV tw_5_62 tw_5_63 tw_5_64 tw_1_8 tw_5_65) rfl rfl rfl (by decide +kernel) ⟨Nat.le_of_ble_eq_true rfl, Nat.le_of_ble_eq_true rfl⟩) hC hS (fun q h => h.1) (A2f_new hSS ⟨_, _, hO⟩ hS.1) (hM.recv hK) hM rfl rfl hl.1 (Nat.le_of_ble_eq_true rfl) ⟨Nat.le_trans (by omega) hc, Nat.le_trans (by omega) hs⟩ dL_law_1026 (fun r2 H2 L2 hP hk hS => ?_)
  have hSS := hSS.kp hk (fun i hi h => h.2.1 i hi rfl)
  have hO := at_kp hO hk (fun h => h.2.2 rfl)
  have hM2 : ∃ (X2 : Nat → List Nat) (es2 : List Nat) (th2 : Int32), RP_set X es y1 y2 th2 r2 X2 es2 ∧ MW G (A2f s.heap.size SA out) am xa X2 (pcL (X2 14) es2) k th2 H2 := by
    rcases hP with ⟨c0, -, h9⟩ | ⟨c0, -, h9⟩ | ⟨z0, z1, q0, q1, q2, q3, q4, h9⟩
    · exact ⟨_, _, _, Or.inr (Or.inl ⟨rfl, c0, rfl, rfl⟩), h9⟩
    · exact ⟨_, _, _, Or.inr (Or.inr (⟨rfl, c0, rfl, rfl⟩)), h9⟩
    · exact ⟨_, _, _, Or.inl ⟨rfl, z0, z1, q0, q1, q2, q3, q4, rfl, rfl⟩, by rw [updT_n (by omega)]; exact h9⟩
  obtain ⟨X2, es2, th2, hR2, hM⟩ := hM2
  obtain ⟨ec, eX, ee, ev⟩ := ag_set h60 he hR1 hR2
  subst eX
  subst ee
  refine lv_istore (lv' := [(6, .int r2), (5, .int r1), (0, .ref b), (1, .ref (SA 0)), (2, .ref am), (3, .ref out), (4, .int (nI i))]) hx hb dL_law_1029 hl (by decide) rfl (fun ls hl => ?_)
  refine lv_goto (tgt := 2115) hx hb dL_law_1031 (by decide) ?_
  refine W.widen (k := cells + 140) (n := slots + 9600) (by omega) (by omega) ?_
  exact kk k H2 L2 ls ⟨_, _, hSS, ⟨_, hM⟩, _, _, hO⟩ hS (lv_sub hl [2, 3, 4, 5, 6] rfl)

theorem lc_take {p : Program} {l : Launch} {e : Env} {s : State} {m : MethodId} {below : List Frame} {meth : Method} {c : Code} {b L : Nat} {xs : Nat → Int32} {G : Cx} {SA : Nat → Nat} {am xa out : Nat} (Z : LX p l e s m meth c b L xs G SA out) : LStep p l e s m below meth c b L G SA am xa out 1034 := by
  intro k H locs cells slots i ls Q hI hS hi hc hs hl kk
  obtain ⟨hx, hb, hml, hown, hts, hC, hX, hbl, hL, hst, hSA, hSo, hout⟩ := Z
  have hK := hC.1
  have hA : ∀ q : Nat, s.heap.size ≤ q → A0f s.heap.size q := fun q h => h
  have hbA : ¬ A0f s.heap.size b := Nat.not_le_of_lt hbl
  obtain ⟨X, es, hSS, ⟨th, hM⟩, hO⟩ := hI
  obtain ⟨y1, e1⟩ : ∃ y, xs (nI (i + 1)).toNatClampNeg = y := ⟨_, rfl⟩
  refine lv_aload_n hx hb dL_law_1034 rfl (lv_at hl 1 rfl) ?_
  refine lv_aload_n hx hb dL_law_1035 rfl (lv_at hl 0 rfl) ?_
  refine lv_iload hx hb dL_law_1036 (lv_at hl 4 rfl) ?_
  refine lv_iconst (v := nI 1) hx hb dL_law_1038 (by decide) ?_
  refine lv_iadd hx hb dL_law_1039 ?_
  refine lv_cv (nI_add i 1) ?_
  refine va_sld hx hb hX hbl hbA hS (vp_in_nI (n := i + 1) (N := L) (by omega) (by omega)) dL_law_1040 ?_
  refine lv_cv e1 ?_
  refine lv_aload_n hx hb dL_law_1041 rfl (lv_at hl 3 rfl) ?_
  refine qI_SW (A := A0f s.heap.size) (A1 := (A1f SA out H.size)) (As := [.ref (SA 0), .int y1, .ref out]) (rest := []) ⟨hx, hb, hml, hown, hts⟩ (mL_take (A := (A1f SA out H.size)) hst (out := out) (SA := SA) (X := X) (es := es) (k := k) (fun i hi => Or.inl ⟨i, hi, rfl⟩) (Or.inr (Or.inl rfl)) hSo) (vx_cwSW 3 hts (gSW tw_3_187 tw_3_188 tw_1_0 cw_take) rfl rfl rfl (by decide +kernel) ⟨Nat.le_of_ble_eq_true rfl, Nat.le_of_ble_eq_true rfl⟩) hC hS (A1f_in hSA hout hS.1) (fun q h => Or.inr (Or.inr h)) ⟨hSS, hO⟩ rfl rfl hl.1 (Nat.le_of_ble_eq_true rfl) ⟨Nat.le_trans (by omega) hc, Nat.le_trans (by omega) hs⟩ dL_law_1042 (fun r1 H1 L1 hP hk hS => ?_)
  have h60 := hM.h60
  have he := hM.he
  have hM := MW.kc hK hSS hM hO hk
  have hN : ∃ (v : Int32) (X1 : Nat → List Nat) (es1 : List Nat), RP_take X es y1 r1 v X1 es1 ∧ SS G SA X1 es1 k H1 ∧ ∃ (n : Int64) (w : Value), va_at G.1 vwCl (out, .inr (7, [.long n, w])) H1 ∧ (r1 = 0 → n = v.toInt64) := by
    rcases hP with ⟨e0, v9, H0, hv, hk0, w9, hO1⟩ | ⟨e0, c0, hS1, n0, w0, hO1⟩
    · obtain ⟨z0, q0, q1, q2, hS1⟩ := hv
      exact ⟨v9, _, _, Or.inl ⟨e0, z0, q0, q1, q2, rfl, rfl⟩, hS1.kp hk0 (fun i hi e => hSo i hi e), _, _, hO1, fun _ => rfl⟩
    · exact ⟨0, _, _, Or.inr (⟨e0, c0, rfl, rfl⟩), hS1, _, _, hO1, fun e => absurd (e0.symm.trans e) (by decide)⟩
  obtain ⟨v1, X1, es1, hR1, hSS, n1, w1, hO, hn1⟩ := hN
  refine lv_istore (lv' := [(5, .int r1), (0, .ref b), (1, .ref (SA 0)), (2, .ref am), (3, .ref out), (4, .int (nI i))]) hx hb dL_law_1045 hl (by decide) rfl (fun ls hl => ?_)
  refine lv_aload_n hx hb dL_law_1047 rfl (lv_at hl 3 rfl) ?_
  refine lv_aload_n hx hb dL_law_1048 rfl (lv_at hl 1 rfl) ?_
  refine lv_iload hx hb dL_law_1049 (lv_at hl 5 rfl) ?_
  refine lv_iconst (v := nI 1) hx hb dL_law_1051 (by decide) ?_
  refine lv_iadd hx hb dL_law_1052 ?_
  refine lv_cv (nI_add i 1) ?_
  refine va_sld hx hb hX hbl hbA hS (vp_in_nI (n := i + 1) (N := L) (by omega) (by omega)) dL_law_1053 ?_
  refine lv_cv e1 ?_
  refine qI_V (A := A0f s.heap.size) (A1 := (A2f s.heap.size SA out)) (b := am) (As := [.int y1]) (rest := []) ⟨hx, hb, hml, hown, hts⟩ (mX4_take (A := (A2f s.heap.size SA out)) (am := am) (xa := xa) (X := X) (P := pcL (X 14) es) (k := k) (th := th)) (cwV 1 hts (gV tw_5_70 tw_5_71 tw_5_72 tw_1_8 tw_5_73) rfl rfl rfl (by decide +kernel) ⟨Nat.le_of_ble_eq_true rfl, Nat.le_of_ble_eq_true rfl⟩) hC hS (fun q h => h.1) (A2f_new hSS ⟨_, _, hO⟩ hS.1) (hM.recv hK) hM rfl rfl hl.1 (Nat.le_of_ble_eq_true rfl) ⟨Nat.le_trans (by omega) hc, Nat.le_trans (by omega) hs⟩ dL_law_1054 (fun r2 H2 L2 hP hk hS => ?_)
  have hSS := hSS.kp hk (fun i hi h => h.2.1 i hi rfl)
  have hO := at_kp hO hk (fun h => h.2.2 rfl)
  have hM2 : ∃ (X2 : Nat → List Nat) (es2 : List Nat) (th2 : Int32), RP_take X es y1 th2 r2 X2 es2 ∧ MW G (A2f s.heap.size SA out) am xa X2 (pcL (X2 14) es2) k th2 H2 := by
    rcases hP with ⟨c0, -, h9⟩ | ⟨z0, q0, q1, q2, h9⟩
    · exact ⟨_, _, _, Or.inr (⟨rfl, c0, rfl, rfl⟩), h9⟩
    · exact ⟨_, _, _, Or.inl ⟨rfl, z0, q0, q1, q2, rfl, rfl⟩, by rw [updT_n (by omega)]; exact h9⟩
  obtain ⟨X2, es2, th2, hR2, hM⟩ := hM2
  obtain ⟨ec, eX, ee, ev⟩ := ag_take h60 he hR1 hR2
  subst eX
  subst ee
  refine lv_istore (lv' := [(6, .int r2), (5, .int r1), (0, .ref b), (1, .ref (SA 0)), (2, .ref am), (3, .ref out), (4, .int (nI i))]) hx hb dL_law_1057 hl (by decide) rfl (fun ls hl => ?_)
  refine lv_goto (tgt := 2115) hx hb dL_law_1059 (by decide) ?_
  refine W.widen (k := cells + 140) (n := slots + 9600) (by omega) (by omega) ?_
  exact kk k H2 L2 ls ⟨_, _, hSS, ⟨_, hM⟩, _, _, hO⟩ hS (lv_sub hl [2, 3, 4, 5, 6] rfl)

theorem lc_takePart {p : Program} {l : Launch} {e : Env} {s : State} {m : MethodId} {below : List Frame} {meth : Method} {c : Code} {b L : Nat} {xs : Nat → Int32} {G : Cx} {SA : Nat → Nat} {am xa out : Nat} (Z : LX p l e s m meth c b L xs G SA out) : LStep p l e s m below meth c b L G SA am xa out 1062 := by
  intro k H locs cells slots i ls Q hI hS hi hc hs hl kk
  obtain ⟨hx, hb, hml, hown, hts, hC, hX, hbl, hL, hst, hSA, hSo, hout⟩ := Z
  have hK := hC.1
  have hA : ∀ q : Nat, s.heap.size ≤ q → A0f s.heap.size q := fun q h => h
  have hbA : ¬ A0f s.heap.size b := Nat.not_le_of_lt hbl
  obtain ⟨X, es, hSS, ⟨th, hM⟩, hO⟩ := hI
  obtain ⟨y1, e1⟩ : ∃ y, xs (nI (i + 1)).toNatClampNeg = y := ⟨_, rfl⟩
  obtain ⟨y2, e2⟩ : ∃ y, xs (nI (i + 2)).toNatClampNeg = y := ⟨_, rfl⟩
  obtain ⟨y3, e3⟩ : ∃ y, xs (nI (i + 3)).toNatClampNeg = y := ⟨_, rfl⟩
  refine lv_aload_n hx hb dL_law_1062 rfl (lv_at hl 1 rfl) ?_
  refine lv_aload_n hx hb dL_law_1063 rfl (lv_at hl 0 rfl) ?_
  refine lv_iload hx hb dL_law_1064 (lv_at hl 4 rfl) ?_
  refine lv_iconst (v := nI 1) hx hb dL_law_1066 (by decide) ?_
  refine lv_iadd hx hb dL_law_1067 ?_
  refine lv_cv (nI_add i 1) ?_
  refine va_sld hx hb hX hbl hbA hS (vp_in_nI (n := i + 1) (N := L) (by omega) (by omega)) dL_law_1068 ?_
  refine lv_cv e1 ?_
  refine lv_aload_n hx hb dL_law_1069 rfl (lv_at hl 0 rfl) ?_
  refine lv_iload hx hb dL_law_1070 (lv_at hl 4 rfl) ?_
  refine lv_iconst (v := nI 2) hx hb dL_law_1072 (by decide) ?_
  refine lv_iadd hx hb dL_law_1073 ?_
  refine lv_cv (nI_add i 2) ?_
  refine va_sld hx hb hX hbl hbA hS (vp_in_nI (n := i + 2) (N := L) (by omega) (by omega)) dL_law_1074 ?_
  refine lv_cv e2 ?_
  refine lv_aload_n hx hb dL_law_1075 rfl (lv_at hl 0 rfl) ?_
  refine lv_iload hx hb dL_law_1076 (lv_at hl 4 rfl) ?_
  refine lv_iconst (v := nI 3) hx hb dL_law_1078 (by decide) ?_
  refine lv_iadd hx hb dL_law_1079 ?_
  refine lv_cv (nI_add i 3) ?_
  refine va_sld hx hb hX hbl hbA hS (vp_in_nI (n := i + 3) (N := L) (by omega) (by omega)) dL_law_1080 ?_
  refine lv_cv e3 ?_
  refine lv_aload_n hx hb dL_law_1081 rfl (lv_at hl 3 rfl) ?_
  refine qI_SW (A := A0f s.heap.size) (A1 := (A1f SA out H.size)) (As := [.ref (SA 0), .int y1, .int y2, .int y3, .ref out]) (rest := []) ⟨hx, hb, hml, hown, hts⟩ (mL_takePart (A := (A1f SA out H.size)) hst (out := out) (SA := SA) (X := X) (es := es) (k := k) (fun i hi => Or.inl ⟨i, hi, rfl⟩) (Or.inr (Or.inl rfl)) hSo) (vx_cwSW 5 hts (gSW tw_3_194 tw_3_195 tw_1_0 cw_takePart) rfl rfl rfl (by decide +kernel) ⟨Nat.le_of_ble_eq_true rfl, Nat.le_of_ble_eq_true rfl⟩) hC hS (A1f_in hSA hout hS.1) (fun q h => Or.inr (Or.inr h)) ⟨hSS, hO⟩ rfl rfl hl.1 (Nat.le_of_ble_eq_true rfl) ⟨Nat.le_trans (by omega) hc, Nat.le_trans (by omega) hs⟩ dL_law_1082 (fun r1 H1 L1 hP hk hS => ?_)
  have h60 := hM.h60
  have he := hM.he
  have hM := MW.kc hK hSS hM hO hk
  have hN : ∃ (v : Int32) (X1 : Nat → List Nat) (es1 : List Nat), RP_takePart X es y1 y2 y3 r1 v X1 es1 ∧ SS G SA X1 es1 k H1 ∧ ∃ (n : Int64) (w : Value), va_at G.1 vwCl (out, .inr (7, [.long n, w])) H1 ∧ (r1 = 0 → n = v.toInt64) := by
    rcases hP with ⟨e0, v9, H0, hv, hk0, w9, hO1⟩ | ⟨e0, c0, hS1, n0, w0, hO1⟩
    · obtain ⟨z0, z1, z2, q0, q1, q2, q3, q4, q5, hS1⟩ := hv
      exact ⟨v9, _, _, Or.inl ⟨e0, z0, z1, z2, q0, q1, q2, q3, q4, q5, rfl, rfl⟩, hS1.kp hk0 (fun i hi e => hSo i hi e), _, _, hO1, fun _ => rfl⟩
    · exact ⟨0, _, _, Or.inr (⟨e0, c0, rfl, rfl⟩), hS1, _, _, hO1, fun e => absurd (e0.symm.trans e) (by decide)⟩
  obtain ⟨v1, X1, es1, hR1, hSS, n1, w1, hO, hn1⟩ := hN
  refine lv_istore (lv' := [(5, .int r1), (0, .ref b), (1, .ref (SA 0)), (2, .ref am), (3, .ref out), (4, .int (nI i))]) hx hb dL_law_1085 hl (by decide) rfl (fun ls hl => ?_)
  refine lv_aload_n hx hb dL_law_1087 rfl (lv_at hl 3 rfl) ?_
  refine lv_aload_n hx hb dL_law_1088 rfl (lv_at hl 1 rfl) ?_
  refine lv_iload hx hb dL_law_1089 (lv_at hl 5 rfl) ?_
  refine lv_iconst (v := nI 1) hx hb dL_law_1091 (by decide) ?_
  refine lv_iadd hx hb dL_law_1092 ?_
  refine lv_cv (nI_add i 1) ?_
  refine va_sld hx hb hX hbl hbA hS (vp_in_nI (n := i + 1) (N := L) (by omega) (by omega)) dL_law_1093 ?_
  refine lv_cv e1 ?_
  refine lv_aload_n hx hb dL_law_1094 rfl (lv_at hl 1 rfl) ?_
  refine lv_iload hx hb dL_law_1095 (lv_at hl 5 rfl) ?_
  refine lv_iconst (v := nI 2) hx hb dL_law_1097 (by decide) ?_
  refine lv_iadd hx hb dL_law_1098 ?_
  refine lv_cv (nI_add i 2) ?_
  refine va_sld hx hb hX hbl hbA hS (vp_in_nI (n := i + 2) (N := L) (by omega) (by omega)) dL_law_1099 ?_
  refine lv_cv e2 ?_
  refine lv_aload_n hx hb dL_law_1100 rfl (lv_at hl 1 rfl) ?_
  refine lv_iload hx hb dL_law_1101 (lv_at hl 5 rfl) ?_
  refine lv_iconst (v := nI 3) hx hb dL_law_1103 (by decide) ?_
  refine lv_iadd hx hb dL_law_1104 ?_
  refine lv_cv (nI_add i 3) ?_
  refine va_sld hx hb hX hbl hbA hS (vp_in_nI (n := i + 3) (N := L) (by omega) (by omega)) dL_law_1105 ?_
  refine lv_cv e3 ?_
  refine qI_V (A := A0f s.heap.size) (A1 := (A2f s.heap.size SA out)) (b := am) (As := [.int y1, .int y2, .int y3]) (rest := []) ⟨hx, hb, hml, hown, hts⟩ (mX4_takePart (A := (A2f s.heap.size SA out)) (am := am) (xa := xa) (X := X) (P := pcL (X 14) es) (k := k) (th := th)) (cwV 3 hts (gV tw_5_74 tw_5_75 tw_5_76 tw_1_8 tw_5_77) rfl rfl rfl (by decide +kernel) ⟨Nat.le_of_ble_eq_true rfl, Nat.le_of_ble_eq_true rfl⟩) hC hS (fun q h => h.1) (A2f_new hSS ⟨_, _, hO⟩ hS.1) (hM.recv hK) hM rfl rfl hl.1 (Nat.le_of_ble_eq_true rfl) ⟨Nat.le_trans (by omega) hc, Nat.le_trans (by omega) hs⟩ dL_law_1106 (fun r2 H2 L2 hP hk hS => ?_)
  have hSS := hSS.kp hk (fun i hi h => h.2.1 i hi rfl)
  have hO := at_kp hO hk (fun h => h.2.2 rfl)
  have hM2 : ∃ (X2 : Nat → List Nat) (es2 : List Nat) (th2 : Int32), RP_takePart X es y1 y2 y3 th2 r2 X2 es2 ∧ MW G (A2f s.heap.size SA out) am xa X2 (pcL (X2 14) es2) k th2 H2 := by
    rcases hP with ⟨c0, -, h9⟩ | ⟨z0, z1, z2, q0, q1, q2, q3, q4, q5, h9⟩
    · exact ⟨_, _, _, Or.inr (⟨rfl, c0, rfl, rfl⟩), h9⟩
    · exact ⟨_, _, _, Or.inl ⟨rfl, z0, z1, z2, q0, q1, q2, q3, q4, q5, rfl, rfl⟩, by rw [updT_n (by omega)]; exact h9⟩
  obtain ⟨X2, es2, th2, hR2, hM⟩ := hM2
  obtain ⟨ec, eX, ee, ev⟩ := ag_takePart h60 he hR1 hR2
  subst eX
  subst ee
  refine lv_istore (lv' := [(6, .int r2), (5, .int r1), (0, .ref b), (1, .ref (SA 0)), (2, .ref am), (3, .ref out), (4, .int (nI i))]) hx hb dL_law_1109 hl (by decide) rfl (fun ls hl => ?_)
  refine lv_goto (tgt := 2115) hx hb dL_law_1111 (by decide) ?_
  refine W.widen (k := cells + 140) (n := slots + 9600) (by omega) (by omega) ?_
  exact kk k H2 L2 ls ⟨_, _, hSS, ⟨_, hM⟩, _, _, hO⟩ hS (lv_sub hl [2, 3, 4, 5, 6] rfl)

theorem lc_cut {p : Program} {l : Launch} {e : Env} {s : State} {m : MethodId} {below : List Frame} {meth : Method} {c : Code} {b L : Nat} {xs : Nat → Int32} {G : Cx} {SA : Nat → Nat} {am xa out : Nat} (Z : LX p l e s m meth c b L xs G SA out) : LStep p l e s m below meth c b L G SA am xa out 1114 := by
  intro k H locs cells slots i ls Q hI hS hi hc hs hl kk
  obtain ⟨hx, hb, hml, hown, hts, hC, hX, hbl, hL, hst, hSA, hSo, hout⟩ := Z
  have hK := hC.1
  have hA : ∀ q : Nat, s.heap.size ≤ q → A0f s.heap.size q := fun q h => h
  have hbA : ¬ A0f s.heap.size b := Nat.not_le_of_lt hbl
  obtain ⟨X, es, hSS, ⟨th, hM⟩, hO⟩ := hI
  obtain ⟨y1, e1⟩ : ∃ y, xs (nI (i + 1)).toNatClampNeg = y := ⟨_, rfl⟩
  refine lv_aload_n hx hb dL_law_1114 rfl (lv_at hl 1 rfl) ?_
  refine lv_aload_n hx hb dL_law_1115 rfl (lv_at hl 0 rfl) ?_
  refine lv_iload hx hb dL_law_1116 (lv_at hl 4 rfl) ?_
  refine lv_iconst (v := nI 1) hx hb dL_law_1118 (by decide) ?_
  refine lv_iadd hx hb dL_law_1119 ?_
  refine lv_cv (nI_add i 1) ?_
  refine va_sld hx hb hX hbl hbA hS (vp_in_nI (n := i + 1) (N := L) (by omega) (by omega)) dL_law_1120 ?_
  refine lv_cv e1 ?_
  refine lv_aload_n hx hb dL_law_1121 rfl (lv_at hl 3 rfl) ?_
  refine qI_SW (A := A0f s.heap.size) (A1 := (A1f SA out H.size)) (As := [.ref (SA 0), .int y1, .ref out]) (rest := []) ⟨hx, hb, hml, hown, hts⟩ (mL_cut (A := (A1f SA out H.size)) hst (out := out) (SA := SA) (X := X) (es := es) (k := k) (fun i hi => Or.inl ⟨i, hi, rfl⟩) (Or.inr (Or.inl rfl)) hSo) (vx_cwSW 3 hts (gSW tw_3_201 tw_3_202 tw_1_0 cw_cut) rfl rfl rfl (by decide +kernel) ⟨Nat.le_of_ble_eq_true rfl, Nat.le_of_ble_eq_true rfl⟩) hC hS (A1f_in hSA hout hS.1) (fun q h => Or.inr (Or.inr h)) ⟨hSS, hO⟩ rfl rfl hl.1 (Nat.le_of_ble_eq_true rfl) ⟨Nat.le_trans (by omega) hc, Nat.le_trans (by omega) hs⟩ dL_law_1122 (fun r1 H1 L1 hP hk hS => ?_)
  have h60 := hM.h60
  have he := hM.he
  have hM := MW.kc hK hSS hM hO hk
  have hN : ∃ (v : Int32) (X1 : Nat → List Nat) (es1 : List Nat), RP_cut X es y1 r1 v X1 es1 ∧ SS G SA X1 es1 k H1 ∧ ∃ (n : Int64) (w : Value), va_at G.1 vwCl (out, .inr (7, [.long n, w])) H1 ∧ (r1 = 0 → n = v.toInt64) := by
    rcases hP with ⟨e0, v9, H0, hv, hk0, w9, hO1⟩ | ⟨e0, c0, hS1, n0, w0, hO1⟩
    · obtain ⟨z0, z1, q0, q1, q2, q3, hS1⟩ := hv
      exact ⟨v9, _, _, Or.inl ⟨e0, z0, z1, q0, q1, q2, q3, rfl, rfl⟩, hS1.kp hk0 (fun i hi e => hSo i hi e), _, _, hO1, fun _ => rfl⟩
    · exact ⟨0, _, _, Or.inr (⟨e0, c0, rfl, rfl⟩), hS1, _, _, hO1, fun e => absurd (e0.symm.trans e) (by decide)⟩
  obtain ⟨v1, X1, es1, hR1, hSS, n1, w1, hO, hn1⟩ := hN
  refine lv_istore (lv' := [(5, .int r1), (0, .ref b), (1, .ref (SA 0)), (2, .ref am), (3, .ref out), (4, .int (nI i))]) hx hb dL_law_1125 hl (by decide) rfl (fun ls hl => ?_)
  refine lv_aload_n hx hb dL_law_1127 rfl (lv_at hl 3 rfl) ?_
  refine lv_aload_n hx hb dL_law_1128 rfl (lv_at hl 1 rfl) ?_
  refine lv_iload hx hb dL_law_1129 (lv_at hl 5 rfl) ?_
  refine lv_iconst (v := nI 1) hx hb dL_law_1131 (by decide) ?_
  refine lv_iadd hx hb dL_law_1132 ?_
  refine lv_cv (nI_add i 1) ?_
  refine va_sld hx hb hX hbl hbA hS (vp_in_nI (n := i + 1) (N := L) (by omega) (by omega)) dL_law_1133 ?_
  refine lv_cv e1 ?_
  refine qI_V (A := A0f s.heap.size) (A1 := (A2f s.heap.size SA out)) (b := am) (As := [.int y1]) (rest := []) ⟨hx, hb, hml, hown, hts⟩ (mX4_cut_ (A := (A2f s.heap.size SA out)) (am := am) (xa := xa) (X := X) (P := pcL (X 14) es) (k := k) (th := th)) (cwV 1 hts (gV tw_5_78 tw_5_79 tw_5_80 tw_1_8 tw_5_81) rfl rfl rfl (by decide +kernel) ⟨Nat.le_of_ble_eq_true rfl, Nat.le_of_ble_eq_true rfl⟩) hC hS (fun q h => h.1) (A2f_new hSS ⟨_, _, hO⟩ hS.1) (hM.recv hK) hM rfl rfl hl.1 (Nat.le_of_ble_eq_true rfl) ⟨Nat.le_trans (by omega) hc, Nat.le_trans (by omega) hs⟩ dL_law_1134 (fun r2 H2 L2 hP hk hS => ?_)
  have hSS := hSS.kp hk (fun i hi h => h.2.1 i hi rfl)
  have hO := at_kp hO hk (fun h => h.2.2 rfl)
  have hM2 : ∃ (X2 : Nat → List Nat) (es2 : List Nat) (th2 : Int32), RP_cut X es y1 th2 r2 X2 es2 ∧ MW G (A2f s.heap.size SA out) am xa X2 (pcL (X2 14) es2) k th2 H2 := by
    rcases hP with ⟨c0, -, h9⟩ | ⟨z0, z1, q0, q1, q2, q3, h9⟩
    · exact ⟨_, _, _, Or.inr (⟨rfl, c0, rfl, rfl⟩), h9⟩
    · have h9 := h9.cg (Y := updT X 14 (X z0)) (fun i hi => (updT_n (by omega)).symm)
      exact ⟨_, _, _, Or.inl ⟨rfl, z0, z1, q0, q1, q2, q3, rfl, rfl⟩, by rw [updT_s]; exact h9⟩
  obtain ⟨X2, es2, th2, hR2, hM⟩ := hM2
  obtain ⟨ec, eX, ee, ev⟩ := ag_cut h60 he hR1 hR2
  subst eX
  subst ee
  refine lv_istore (lv' := [(6, .int r2), (5, .int r1), (0, .ref b), (1, .ref (SA 0)), (2, .ref am), (3, .ref out), (4, .int (nI i))]) hx hb dL_law_1137 hl (by decide) rfl (fun ls hl => ?_)
  refine lv_goto (tgt := 2115) hx hb dL_law_1139 (by decide) ?_
  refine W.widen (k := cells + 140) (n := slots + 9600) (by omega) (by omega) ?_
  exact kk k H2 L2 ls ⟨_, _, hSS, ⟨_, hM⟩, _, _, hO⟩ hS (lv_sub hl [2, 3, 4, 5, 6] rfl)

theorem lc_takePiece {p : Program} {l : Launch} {e : Env} {s : State} {m : MethodId} {below : List Frame} {meth : Method} {c : Code} {b L : Nat} {xs : Nat → Int32} {G : Cx} {SA : Nat → Nat} {am xa out : Nat} (Z : LX p l e s m meth c b L xs G SA out) : LStep p l e s m below meth c b L G SA am xa out 1142 := by
  intro k H locs cells slots i ls Q hI hS hi hc hs hl kk
  obtain ⟨hx, hb, hml, hown, hts, hC, hX, hbl, hL, hst, hSA, hSo, hout⟩ := Z
  have hK := hC.1
  have hA : ∀ q : Nat, s.heap.size ≤ q → A0f s.heap.size q := fun q h => h
  have hbA : ¬ A0f s.heap.size b := Nat.not_le_of_lt hbl
  obtain ⟨X, es, hSS, ⟨th, hM⟩, hO⟩ := hI
  obtain ⟨y1, e1⟩ : ∃ y, xs (nI (i + 1)).toNatClampNeg = y := ⟨_, rfl⟩
  obtain ⟨y2, e2⟩ : ∃ y, xs (nI (i + 2)).toNatClampNeg = y := ⟨_, rfl⟩
  refine lv_aload_n hx hb dL_law_1142 rfl (lv_at hl 1 rfl) ?_
  refine lv_aload_n hx hb dL_law_1143 rfl (lv_at hl 0 rfl) ?_
  refine lv_iload hx hb dL_law_1144 (lv_at hl 4 rfl) ?_
  refine lv_iconst (v := nI 1) hx hb dL_law_1146 (by decide) ?_
  refine lv_iadd hx hb dL_law_1147 ?_
  refine lv_cv (nI_add i 1) ?_
  refine va_sld hx hb hX hbl hbA hS (vp_in_nI (n := i + 1) (N := L) (by omega) (by omega)) dL_law_1148 ?_
  refine lv_cv e1 ?_
  refine lv_aload_n hx hb dL_law_1149 rfl (lv_at hl 0 rfl) ?_
  refine lv_iload hx hb dL_law_1150 (lv_at hl 4 rfl) ?_
  refine lv_iconst (v := nI 2) hx hb dL_law_1152 (by decide) ?_
  refine lv_iadd hx hb dL_law_1153 ?_
  refine lv_cv (nI_add i 2) ?_
  refine va_sld hx hb hX hbl hbA hS (vp_in_nI (n := i + 2) (N := L) (by omega) (by omega)) dL_law_1154 ?_
  refine lv_cv e2 ?_
  refine lv_aload_n hx hb dL_law_1155 rfl (lv_at hl 3 rfl) ?_
  refine qI_SW (A := A0f s.heap.size) (A1 := (A1f SA out H.size)) (As := [.ref (SA 0), .int y1, .int y2, .ref out]) (rest := []) ⟨hx, hb, hml, hown, hts⟩ (mL_takePiece (A := (A1f SA out H.size)) hst (out := out) (SA := SA) (X := X) (es := es) (k := k) (fun i hi => Or.inl ⟨i, hi, rfl⟩) (Or.inr (Or.inl rfl)) hSo) (vx_cwSW 4 hts (gSW tw_3_208 tw_3_209 tw_1_0 cw_takePiece) rfl rfl rfl (by decide +kernel) ⟨Nat.le_of_ble_eq_true rfl, Nat.le_of_ble_eq_true rfl⟩) hC hS (A1f_in hSA hout hS.1) (fun q h => Or.inr (Or.inr h)) ⟨hSS, hO⟩ rfl rfl hl.1 (Nat.le_of_ble_eq_true rfl) ⟨Nat.le_trans (by omega) hc, Nat.le_trans (by omega) hs⟩ dL_law_1156 (fun r1 H1 L1 hP hk hS => ?_)
  have h60 := hM.h60
  have he := hM.he
  have hM := MW.kc hK hSS hM hO hk
  have hN : ∃ (v : Int32) (X1 : Nat → List Nat) (es1 : List Nat), RP_takePiece X es y1 y2 r1 v X1 es1 ∧ SS G SA X1 es1 k H1 ∧ ∃ (n : Int64) (w : Value), va_at G.1 vwCl (out, .inr (7, [.long n, w])) H1 ∧ (r1 = 0 → n = v.toInt64) := by
    rcases hP with ⟨e0, v9, H0, hv, hk0, w9, hO1⟩ | ⟨e0, c0, hS1, n0, w0, hO1⟩
    · obtain ⟨z0, z1, q0, q1, q2, q3, q4, hS1⟩ := hv
      exact ⟨v9, _, _, Or.inl ⟨e0, z0, z1, q0, q1, q2, q3, q4, rfl, rfl⟩, hS1.kp hk0 (fun i hi e => hSo i hi e), _, _, hO1, fun _ => rfl⟩
    · exact ⟨0, _, _, Or.inr (⟨e0, c0, rfl, rfl⟩), hS1, _, _, hO1, fun e => absurd (e0.symm.trans e) (by decide)⟩
  obtain ⟨v1, X1, es1, hR1, hSS, n1, w1, hO, hn1⟩ := hN
  refine lv_istore (lv' := [(5, .int r1), (0, .ref b), (1, .ref (SA 0)), (2, .ref am), (3, .ref out), (4, .int (nI i))]) hx hb dL_law_1159 hl (by decide) rfl (fun ls hl => ?_)
  refine lv_aload_n hx hb dL_law_1161 rfl (lv_at hl 3 rfl) ?_
  refine lv_aload_n hx hb dL_law_1162 rfl (lv_at hl 1 rfl) ?_
  refine lv_iload hx hb dL_law_1163 (lv_at hl 5 rfl) ?_
  refine lv_iconst (v := nI 1) hx hb dL_law_1165 (by decide) ?_
  refine lv_iadd hx hb dL_law_1166 ?_
  refine lv_cv (nI_add i 1) ?_
  refine va_sld hx hb hX hbl hbA hS (vp_in_nI (n := i + 1) (N := L) (by omega) (by omega)) dL_law_1167 ?_
  refine lv_cv e1 ?_
  refine lv_aload_n hx hb dL_law_1168 rfl (lv_at hl 1 rfl) ?_
  refine lv_iload hx hb dL_law_1169 (lv_at hl 5 rfl) ?_
  refine lv_iconst (v := nI 2) hx hb dL_law_1171 (by decide) ?_
  refine lv_iadd hx hb dL_law_1172 ?_
  refine lv_cv (nI_add i 2) ?_
  refine va_sld hx hb hX hbl hbA hS (vp_in_nI (n := i + 2) (N := L) (by omega) (by omega)) dL_law_1173 ?_
  refine lv_cv e2 ?_
  refine qI_V (A := A0f s.heap.size) (A1 := (A2f s.heap.size SA out)) (b := am) (As := [.int y1, .int y2]) (rest := []) ⟨hx, hb, hml, hown, hts⟩ (mX4_takePiece (A := (A2f s.heap.size SA out)) (am := am) (xa := xa) (X := X) (P := pcL (X 14) es) (k := k) (th := th)) (cwV 2 hts (gV tw_5_174 tw_5_175 tw_5_176 tw_1_8 tw_5_177) rfl rfl rfl (by decide +kernel) ⟨Nat.le_of_ble_eq_true rfl, Nat.le_of_ble_eq_true rfl⟩) hC hS (fun q h => h.1) (A2f_new hSS ⟨_, _, hO⟩ hS.1) (hM.recv hK) hM rfl rfl hl.1 (Nat.le_of_ble_eq_true rfl) ⟨Nat.le_trans (by omega) hc, Nat.le_trans (by omega) hs⟩ dL_law_1174 (fun r2 H2 L2 hP hk hS => ?_)
  have hSS := hSS.kp hk (fun i hi h => h.2.1 i hi rfl)
  have hO := at_kp hO hk (fun h => h.2.2 rfl)
  have hM2 : ∃ (X2 : Nat → List Nat) (es2 : List Nat) (th2 : Int32), RP_takePiece X es y1 y2 th2 r2 X2 es2 ∧ MW G (A2f s.heap.size SA out) am xa X2 (pcL (X2 14) es2) k th2 H2 := by
    simp only [pcL_len] at hP
    rcases hP with ⟨c0, -, h9⟩ | ⟨z0, z1, q0, q1, q2, q3, q4, h9⟩
    · exact ⟨_, _, _, Or.inr (⟨rfl, c0, rfl, rfl⟩), h9⟩
    · rw [pcL_get q0] at q4 h9
      exact ⟨_, _, _, Or.inl ⟨rfl, z0, z1, q0, q1, q2, q3, q4, rfl, rfl⟩, by rw [updT_n (by omega)]; exact h9⟩
  obtain ⟨X2, es2, th2, hR2, hM⟩ := hM2
  obtain ⟨ec, eX, ee, ev⟩ := ag_takePiece h60 he hR1 hR2
  subst eX
  subst ee
  refine lv_istore (lv' := [(6, .int r2), (5, .int r1), (0, .ref b), (1, .ref (SA 0)), (2, .ref am), (3, .ref out), (4, .int (nI i))]) hx hb dL_law_1177 hl (by decide) rfl (fun ls hl => ?_)
  refine lv_goto (tgt := 2115) hx hb dL_law_1179 (by decide) ?_
  refine W.widen (k := cells + 140) (n := slots + 9600) (by omega) (by omega) ?_
  exact kk k H2 L2 ls ⟨_, _, hSS, ⟨_, hM⟩, _, _, hO⟩ hS (lv_sub hl [2, 3, 4, 5, 6] rfl)

theorem lc_knock {p : Program} {l : Launch} {e : Env} {s : State} {m : MethodId} {below : List Frame} {meth : Method} {c : Code} {b L : Nat} {xs : Nat → Int32} {G : Cx} {SA : Nat → Nat} {am xa out : Nat} (Z : LX p l e s m meth c b L xs G SA out) : LStep p l e s m below meth c b L G SA am xa out 1182 := by
  intro k H locs cells slots i ls Q hI hS hi hc hs hl kk
  obtain ⟨hx, hb, hml, hown, hts, hC, hX, hbl, hL, hst, hSA, hSo, hout⟩ := Z
  have hK := hC.1
  have hA : ∀ q : Nat, s.heap.size ≤ q → A0f s.heap.size q := fun q h => h
  have hbA : ¬ A0f s.heap.size b := Nat.not_le_of_lt hbl
  obtain ⟨X, es, hSS, ⟨th, hM⟩, hO⟩ := hI
  refine lv_aload_n hx hb dL_law_1182 rfl (lv_at hl 1 rfl) ?_
  refine qI_V (A := A0f s.heap.size) (A1 := (fun q => (∃ i : Nat, i < 39 ∧ q = SA i) ∨ H.size ≤ q)) (b := SA 0) (As := []) (rest := []) ⟨hx, hb, hml, hown, hts⟩ (mX2_knock (A := (fun q => (∃ i : Nat, i < 39 ∧ q = SA i) ∨ H.size ≤ q)) (SA := SA) (X := X) (es := es) (k := k) (fun i hi => Or.inl ⟨i, hi, rfl⟩)) (cwV 0 hts (gV tw_1_163 tw_1_164 tw_1_165 tw_1_1 tw_1_166) rfl rfl rfl (by decide +kernel) ⟨Nat.le_of_ble_eq_true rfl, Nat.le_of_ble_eq_true rfl⟩) hC hS (fun q h => A1f_in (out := out) hSA hout hS.1 q (h.elim Or.inl (fun h => Or.inr (Or.inr h)))) (fun q h => Or.inr h) (hSS.recv hK) hSS rfl rfl hl.1 (Nat.le_of_ble_eq_true rfl) ⟨Nat.le_trans (by omega) hc, Nat.le_trans (by omega) hs⟩ dL_law_1183 (fun r1 H1 L1 hP hk hS => ?_)
  have hM := MW.kc hK hSS hM hO (hk.wk (fun q _ h => h.elim Or.inl (fun h => Or.inr (Or.inr h))))
  have hO := hO.kp hk (fun h => h.elim (fun ⟨i, hi, e⟩ => hSo i hi e.symm) (fun h => absurd hO.lt (Nat.not_lt_of_le h)))
  obtain ⟨e9, hSS⟩ := hP
  refine lv_pop hx hb dL_law_1186 rfl ?_
  refine lv_aload_n hx hb dL_law_1187 rfl (lv_at hl 2 rfl) ?_
  refine qI_V (A := A0f s.heap.size) (A1 := (A2f s.heap.size SA out)) (b := am) (As := []) (rest := []) ⟨hx, hb, hml, hown, hts⟩ (mX4_knock (A := (A2f s.heap.size SA out)) (am := am) (xa := xa) (X := X) (P := pcL (X 14) es) (k := k) (th := th)) (cwV 0 hts (gV tw_5_182 tw_5_183 tw_5_184 tw_1_8 tw_5_185) rfl rfl rfl (by decide +kernel) ⟨Nat.le_of_ble_eq_true rfl, Nat.le_of_ble_eq_true rfl⟩) hC hS (fun q h => h.1) (A2f_new hSS hO hS.1) (hM.recv hK) hM rfl rfl hl.1 (Nat.le_of_ble_eq_true rfl) ⟨Nat.le_trans (by omega) hc, Nat.le_trans (by omega) hs⟩ dL_law_1188 (fun r2 H2 L2 hP hk hS => ?_)
  have hSS := hSS.kp hk (fun i hi h => h.2.1 i hi rfl)
  have hO := hO.kp hk (fun h => h.2.2 rfl)
  obtain ⟨f9, hM9⟩ := hP
  have hM2 : ∃ th, MW G (A2f s.heap.size SA out) am xa X (pcL (X 14) es) (k + 1) th H2 := ⟨_, hM9⟩
  refine lv_pop hx hb dL_law_1191 rfl ?_
  refine lv_goto (tgt := 2115) hx hb dL_law_1192 (by decide) ?_
  refine W.widen (k := cells + 140) (n := slots + 9600) (by omega) (by omega) ?_
  exact kk (k + 1) H2 L2 ls ⟨_, _, hSS, hM2, hO⟩ hS (lv_sub hl [0, 1, 2, 3, 4] rfl)

theorem lc_text {p : Program} {l : Launch} {e : Env} {s : State} {m : MethodId} {below : List Frame} {meth : Method} {c : Code} {b L : Nat} {xs : Nat → Int32} {G : Cx} {SA : Nat → Nat} {am xa out : Nat} (Z : LX p l e s m meth c b L xs G SA out) : LStep p l e s m below meth c b L G SA am xa out 1195 := by
  intro k H locs cells slots i ls Q hI hS hi hc hs hl kk
  obtain ⟨hx, hb, hml, hown, hts, hC, hX, hbl, hL, hst, hSA, hSo, hout⟩ := Z
  have hK := hC.1
  have hA : ∀ q : Nat, s.heap.size ≤ q → A0f s.heap.size q := fun q h => h
  have hbA : ¬ A0f s.heap.size b := Nat.not_le_of_lt hbl
  obtain ⟨X, es, hSS, ⟨th, hM⟩, hO⟩ := hI
  obtain ⟨y1, e1⟩ : ∃ y, xs (nI (i + 1)).toNatClampNeg = y := ⟨_, rfl⟩
  refine lv_aload_n hx hb dL_law_1195 rfl (lv_at hl 1 rfl) ?_
  refine lv_aload_n hx hb dL_law_1196 rfl (lv_at hl 0 rfl) ?_
  refine lv_iload hx hb dL_law_1197 (lv_at hl 4 rfl) ?_
  refine lv_iconst (v := nI 1) hx hb dL_law_1199 (by decide) ?_
  refine lv_iadd hx hb dL_law_1200 ?_
  refine lv_cv (nI_add i 1) ?_
  refine va_sld hx hb hX hbl hbA hS (vp_in_nI (n := i + 1) (N := L) (by omega) (by omega)) dL_law_1201 ?_
  refine lv_cv e1 ?_
  refine lv_aload_n hx hb dL_law_1202 rfl (lv_at hl 3 rfl) ?_
  refine qI_SW (A := A0f s.heap.size) (A1 := (A1f SA out H.size)) (As := [.ref (SA 0), .int y1, .ref out]) (rest := []) ⟨hx, hb, hml, hown, hts⟩ (mL_text (A := (A1f SA out H.size)) hst (out := out) (SA := SA) (X := X) (es := es) (k := k) (fun i hi => Or.inl ⟨i, hi, rfl⟩) (Or.inr (Or.inl rfl)) hSo) (vx_cwSW 3 hts (gSW tw_3_223 tw_3_224 tw_1_0 cw_text) rfl rfl rfl (by decide +kernel) ⟨Nat.le_of_ble_eq_true rfl, Nat.le_of_ble_eq_true rfl⟩) hC hS (A1f_in hSA hout hS.1) (fun q h => Or.inr (Or.inr h)) ⟨hSS, hO⟩ rfl rfl hl.1 (Nat.le_of_ble_eq_true rfl) ⟨Nat.le_trans (by omega) hc, Nat.le_trans (by omega) hs⟩ dL_law_1203 (fun r1 H1 L1 hP hk hS => ?_)
  have h60 := hM.h60
  have he := hM.he
  have hM := MW.kc hK hSS hM hO hk
  have hN : SS G SA X es k H1 ∧ OA G out H1 := by
    rcases hP with ⟨-, v9, H0, hv, hk0, w9, hO1⟩ | ⟨-, -, hS1, hO1⟩
    · obtain ⟨-, hS1⟩ := hv
      exact ⟨hS1.kp hk0 (fun i hi e => hSo i hi e), ⟨_, _, hO1⟩⟩
    · exact ⟨hS1, hO1⟩
  obtain ⟨hSS, hO⟩ := hN
  refine lv_istore (lv' := [(5, .int r1), (0, .ref b), (1, .ref (SA 0)), (2, .ref am), (3, .ref out), (4, .int (nI i))]) hx hb dL_law_1206 hl (by decide) rfl (fun ls hl => ?_)
  refine lv_aload_n hx hb dL_law_1208 rfl (lv_at hl 3 rfl) ?_
  refine lv_aload_n hx hb dL_law_1209 rfl (lv_at hl 1 rfl) ?_
  refine lv_iload hx hb dL_law_1210 (lv_at hl 5 rfl) ?_
  refine lv_iconst (v := nI 1) hx hb dL_law_1212 (by decide) ?_
  refine lv_iadd hx hb dL_law_1213 ?_
  refine lv_cv (nI_add i 1) ?_
  refine va_sld hx hb hX hbl hbA hS (vp_in_nI (n := i + 1) (N := L) (by omega) (by omega)) dL_law_1214 ?_
  refine lv_cv e1 ?_
  refine qR_V (A := A0f s.heap.size) (A1 := (A2f s.heap.size SA out)) (b := am) (As := [.int y1]) (rest := []) ⟨hx, hb, hml, hown, hts⟩ (mX4_text (A := (A2f s.heap.size SA out)) (am := am) (xa := xa) (X := X) (P := pcL (X 14) es) (k := k) (th := th)) (cwV 1 hts (gV tw_5_186 tw_5_187 tw_5_188 tw_1_8 tw_5_189) rfl rfl rfl (by decide +kernel) ⟨Nat.le_of_ble_eq_true rfl, Nat.le_of_ble_eq_true rfl⟩) hC hS (fun q h => h.1) (A2f_new hSS hO hS.1) (hM.recv hK) hM rfl rfl hl.1 (Nat.le_of_ble_eq_true rfl) ⟨Nat.le_trans (by omega) hc, Nat.le_trans (by omega) hs⟩ dL_law_1215 (fun r2 H2 L2 hP hk hS => ?_)
  have hSS := hSS.kp hk (fun i hi h => h.2.1 i hi rfl)
  have hO := hO.kp hk (fun h => h.2.2 rfl)
  have hM2 : ∃ th, MW G (A2f s.heap.size SA out) am xa X (pcL (X 14) es) k th H2 := by
    rcases hP with ⟨-, h9⟩ | ⟨-, h9⟩
    · exact ⟨_, h9⟩
    · exact ⟨_, h9⟩
  refine lv_astore (lv' := [(6, .ref r2), (5, .int r1), (0, .ref b), (1, .ref (SA 0)), (2, .ref am), (3, .ref out), (4, .int (nI i))]) hx hb dL_law_1218 hl (by decide) rfl (fun ls hl => ?_)
  refine lv_goto (tgt := 2115) hx hb dL_law_1220 (by decide) ?_
  refine W.widen (k := cells + 140) (n := slots + 9600) (by omega) (by omega) ?_
  exact kk k H2 L2 ls ⟨_, _, hSS, hM2, hO⟩ hS (lv_sub hl [2, 3, 4, 5, 6] rfl)

theorem lc_length {p : Program} {l : Launch} {e : Env} {s : State} {m : MethodId} {below : List Frame} {meth : Method} {c : Code} {b L : Nat} {xs : Nat → Int32} {G : Cx} {SA : Nat → Nat} {am xa out : Nat} (Z : LX p l e s m meth c b L xs G SA out) : LStep p l e s m below meth c b L G SA am xa out 1223 := by
  intro k H locs cells slots i ls Q hI hS hi hc hs hl kk
  obtain ⟨hx, hb, hml, hown, hts, hC, hX, hbl, hL, hst, hSA, hSo, hout⟩ := Z
  have hK := hC.1
  have hA : ∀ q : Nat, s.heap.size ≤ q → A0f s.heap.size q := fun q h => h
  have hbA : ¬ A0f s.heap.size b := Nat.not_le_of_lt hbl
  obtain ⟨X, es, hSS, ⟨th, hM⟩, hO⟩ := hI
  obtain ⟨y1, e1⟩ : ∃ y, xs (nI (i + 1)).toNatClampNeg = y := ⟨_, rfl⟩
  refine lv_aload_n hx hb dL_law_1223 rfl (lv_at hl 1 rfl) ?_
  refine lv_aload_n hx hb dL_law_1224 rfl (lv_at hl 0 rfl) ?_
  refine lv_iload hx hb dL_law_1225 (lv_at hl 4 rfl) ?_
  refine lv_iconst (v := nI 1) hx hb dL_law_1227 (by decide) ?_
  refine lv_iadd hx hb dL_law_1228 ?_
  refine lv_cv (nI_add i 1) ?_
  refine va_sld hx hb hX hbl hbA hS (vp_in_nI (n := i + 1) (N := L) (by omega) (by omega)) dL_law_1229 ?_
  refine lv_cv e1 ?_
  refine lv_aload_n hx hb dL_law_1230 rfl (lv_at hl 3 rfl) ?_
  refine qI_SW (A := A0f s.heap.size) (A1 := (A1f SA out H.size)) (As := [.ref (SA 0), .int y1, .ref out]) (rest := []) ⟨hx, hb, hml, hown, hts⟩ (mL_length (A := (A1f SA out H.size)) hst (out := out) (SA := SA) (X := X) (es := es) (k := k) (fun i hi => Or.inl ⟨i, hi, rfl⟩) (Or.inr (Or.inl rfl)) hSo) (vx_cwSW 3 hts (gSW tw_3_230 tw_3_231 tw_1_0 cw_length) rfl rfl rfl (by decide +kernel) ⟨Nat.le_of_ble_eq_true rfl, Nat.le_of_ble_eq_true rfl⟩) hC hS (A1f_in hSA hout hS.1) (fun q h => Or.inr (Or.inr h)) ⟨hSS, hO⟩ rfl rfl hl.1 (Nat.le_of_ble_eq_true rfl) ⟨Nat.le_trans (by omega) hc, Nat.le_trans (by omega) hs⟩ dL_law_1231 (fun r1 H1 L1 hP hk hS => ?_)
  have h60 := hM.h60
  have he := hM.he
  have hM := MW.kc hK hSS hM hO hk
  have hN : SS G SA X es k H1 ∧ OA G out H1 := by
    rcases hP with ⟨-, v9, H0, hv, hk0, w9, hO1⟩ | ⟨-, -, hS1, hO1⟩
    · obtain ⟨_, -, -, -, hS1⟩ := hv
      exact ⟨hS1.kp hk0 (fun i hi e => hSo i hi e), ⟨_, _, hO1⟩⟩
    · exact ⟨hS1, hO1⟩
  obtain ⟨hSS, hO⟩ := hN
  refine lv_istore (lv' := [(5, .int r1), (0, .ref b), (1, .ref (SA 0)), (2, .ref am), (3, .ref out), (4, .int (nI i))]) hx hb dL_law_1234 hl (by decide) rfl (fun ls hl => ?_)
  refine lv_aload_n hx hb dL_law_1236 rfl (lv_at hl 3 rfl) ?_
  refine lv_aload_n hx hb dL_law_1237 rfl (lv_at hl 1 rfl) ?_
  refine lv_iload hx hb dL_law_1238 (lv_at hl 5 rfl) ?_
  refine lv_iconst (v := nI 1) hx hb dL_law_1240 (by decide) ?_
  refine lv_iadd hx hb dL_law_1241 ?_
  refine lv_cv (nI_add i 1) ?_
  refine va_sld hx hb hX hbl hbA hS (vp_in_nI (n := i + 1) (N := L) (by omega) (by omega)) dL_law_1242 ?_
  refine lv_cv e1 ?_
  refine qI_V (A := A0f s.heap.size) (A1 := (A2f s.heap.size SA out)) (b := am) (As := [.int y1]) (rest := []) ⟨hx, hb, hml, hown, hts⟩ (mX4_length (A := (A2f s.heap.size SA out)) (am := am) (xa := xa) (X := X) (P := pcL (X 14) es) (k := k) (th := th)) (cwV 1 hts (gV tw_6_145 tw_6_146 tw_6_147 tw_1_8 tw_6_148) rfl rfl rfl (by decide +kernel) ⟨Nat.le_of_ble_eq_true rfl, Nat.le_of_ble_eq_true rfl⟩) hC hS (fun q h => h.1) (A2f_new hSS hO hS.1) (hM.recv hK) hM rfl rfl hl.1 (Nat.le_of_ble_eq_true rfl) ⟨Nat.le_trans (by omega) hc, Nat.le_trans (by omega) hs⟩ dL_law_1243 (fun r2 H2 L2 hP hk hS => ?_)
  have hSS := hSS.kp hk (fun i hi h => h.2.1 i hi rfl)
  have hO := hO.kp hk (fun h => h.2.2 rfl)
  have hM2 : ∃ th, MW G (A2f s.heap.size SA out) am xa X (pcL (X 14) es) k th H2 := by
    rcases hP with ⟨-, -, h9⟩ | ⟨_, -, -, -, h9⟩
    · exact ⟨_, h9⟩
    · exact ⟨_, h9⟩
  refine lv_istore (lv' := [(6, .int r2), (5, .int r1), (0, .ref b), (1, .ref (SA 0)), (2, .ref am), (3, .ref out), (4, .int (nI i))]) hx hb dL_law_1246 hl (by decide) rfl (fun ls hl => ?_)
  refine lv_goto (tgt := 2115) hx hb dL_law_1248 (by decide) ?_
  refine W.widen (k := cells + 140) (n := slots + 9600) (by omega) (by omega) ?_
  exact kk k H2 L2 ls ⟨_, _, hSS, hM2, hO⟩ hS (lv_sub hl [2, 3, 4, 5, 6] rfl)

theorem lc_at {p : Program} {l : Launch} {e : Env} {s : State} {m : MethodId} {below : List Frame} {meth : Method} {c : Code} {b L : Nat} {xs : Nat → Int32} {G : Cx} {SA : Nat → Nat} {am xa out : Nat} (Z : LX p l e s m meth c b L xs G SA out) : LStep p l e s m below meth c b L G SA am xa out 1251 := by
  intro k H locs cells slots i ls Q hI hS hi hc hs hl kk
  obtain ⟨hx, hb, hml, hown, hts, hC, hX, hbl, hL, hst, hSA, hSo, hout⟩ := Z
  have hK := hC.1
  have hA : ∀ q : Nat, s.heap.size ≤ q → A0f s.heap.size q := fun q h => h
  have hbA : ¬ A0f s.heap.size b := Nat.not_le_of_lt hbl
  obtain ⟨X, es, hSS, ⟨th, hM⟩, hO⟩ := hI
  obtain ⟨y1, e1⟩ : ∃ y, xs (nI (i + 1)).toNatClampNeg = y := ⟨_, rfl⟩
  obtain ⟨y2, e2⟩ : ∃ y, xs (nI (i + 2)).toNatClampNeg = y := ⟨_, rfl⟩
  refine lv_aload_n hx hb dL_law_1251 rfl (lv_at hl 1 rfl) ?_
  refine lv_aload_n hx hb dL_law_1252 rfl (lv_at hl 0 rfl) ?_
  refine lv_iload hx hb dL_law_1253 (lv_at hl 4 rfl) ?_
  refine lv_iconst (v := nI 1) hx hb dL_law_1255 (by decide) ?_
  refine lv_iadd hx hb dL_law_1256 ?_
  refine lv_cv (nI_add i 1) ?_
  refine va_sld hx hb hX hbl hbA hS (vp_in_nI (n := i + 1) (N := L) (by omega) (by omega)) dL_law_1257 ?_
  refine lv_cv e1 ?_
  refine lv_aload_n hx hb dL_law_1258 rfl (lv_at hl 0 rfl) ?_
  refine lv_iload hx hb dL_law_1259 (lv_at hl 4 rfl) ?_
  refine lv_iconst (v := nI 2) hx hb dL_law_1261 (by decide) ?_
  refine lv_iadd hx hb dL_law_1262 ?_
  refine lv_cv (nI_add i 2) ?_
  refine va_sld hx hb hX hbl hbA hS (vp_in_nI (n := i + 2) (N := L) (by omega) (by omega)) dL_law_1263 ?_
  refine lv_cv e2 ?_
  refine lv_aload_n hx hb dL_law_1264 rfl (lv_at hl 3 rfl) ?_
  refine qI_SW (A := A0f s.heap.size) (A1 := (A1f SA out H.size)) (As := [.ref (SA 0), .int y1, .int y2, .ref out]) (rest := []) ⟨hx, hb, hml, hown, hts⟩ (mL_at (A := (A1f SA out H.size)) hst (out := out) (SA := SA) (X := X) (es := es) (k := k) (fun i hi => Or.inl ⟨i, hi, rfl⟩) (Or.inr (Or.inl rfl)) hSo) (vx_cwSW 4 hts (gSW tw_3_237 tw_3_238 tw_1_0 cw_at) rfl rfl rfl (by decide +kernel) ⟨Nat.le_of_ble_eq_true rfl, Nat.le_of_ble_eq_true rfl⟩) hC hS (A1f_in hSA hout hS.1) (fun q h => Or.inr (Or.inr h)) ⟨hSS, hO⟩ rfl rfl hl.1 (Nat.le_of_ble_eq_true rfl) ⟨Nat.le_trans (by omega) hc, Nat.le_trans (by omega) hs⟩ dL_law_1265 (fun r1 H1 L1 hP hk hS => ?_)
  have h60 := hM.h60
  have he := hM.he
  have hM := MW.kc hK hSS hM hO hk
  have hN : SS G SA X es k H1 ∧ OA G out H1 := by
    rcases hP with ⟨-, v9, H0, hv, hk0, w9, hO1⟩ | ⟨-, -, hS1, hO1⟩
    · obtain ⟨_, _, -, -, -, -, -, hS1⟩ := hv
      exact ⟨hS1.kp hk0 (fun i hi e => hSo i hi e), ⟨_, _, hO1⟩⟩
    · exact ⟨hS1, hO1⟩
  obtain ⟨hSS, hO⟩ := hN
  refine lv_istore (lv' := [(5, .int r1), (0, .ref b), (1, .ref (SA 0)), (2, .ref am), (3, .ref out), (4, .int (nI i))]) hx hb dL_law_1268 hl (by decide) rfl (fun ls hl => ?_)
  refine lv_aload_n hx hb dL_law_1270 rfl (lv_at hl 3 rfl) ?_
  refine lv_aload_n hx hb dL_law_1271 rfl (lv_at hl 1 rfl) ?_
  refine lv_iload hx hb dL_law_1272 (lv_at hl 5 rfl) ?_
  refine lv_iconst (v := nI 1) hx hb dL_law_1274 (by decide) ?_
  refine lv_iadd hx hb dL_law_1275 ?_
  refine lv_cv (nI_add i 1) ?_
  refine va_sld hx hb hX hbl hbA hS (vp_in_nI (n := i + 1) (N := L) (by omega) (by omega)) dL_law_1276 ?_
  refine lv_cv e1 ?_
  refine lv_aload_n hx hb dL_law_1277 rfl (lv_at hl 1 rfl) ?_
  refine lv_iload hx hb dL_law_1278 (lv_at hl 5 rfl) ?_
  refine lv_iconst (v := nI 2) hx hb dL_law_1280 (by decide) ?_
  refine lv_iadd hx hb dL_law_1281 ?_
  refine lv_cv (nI_add i 2) ?_
  refine va_sld hx hb hX hbl hbA hS (vp_in_nI (n := i + 2) (N := L) (by omega) (by omega)) dL_law_1282 ?_
  refine lv_cv e2 ?_
  refine qI_V (A := A0f s.heap.size) (A1 := (A2f s.heap.size SA out)) (b := am) (As := [.int y1, .int y2]) (rest := []) ⟨hx, hb, hml, hown, hts⟩ (mX4_at (A := (A2f s.heap.size SA out)) (am := am) (xa := xa) (X := X) (P := pcL (X 14) es) (k := k) (th := th)) (cwV 2 hts (gV tw_6_149 tw_6_150 tw_6_151 tw_1_8 tw_6_152) rfl rfl rfl (by decide +kernel) ⟨Nat.le_of_ble_eq_true rfl, Nat.le_of_ble_eq_true rfl⟩) hC hS (fun q h => h.1) (A2f_new hSS hO hS.1) (hM.recv hK) hM rfl rfl hl.1 (Nat.le_of_ble_eq_true rfl) ⟨Nat.le_trans (by omega) hc, Nat.le_trans (by omega) hs⟩ dL_law_1283 (fun r2 H2 L2 hP hk hS => ?_)
  have hSS := hSS.kp hk (fun i hi h => h.2.1 i hi rfl)
  have hO := hO.kp hk (fun h => h.2.2 rfl)
  have hM2 : ∃ th, MW G (A2f s.heap.size SA out) am xa X (pcL (X 14) es) k th H2 := by
    rcases hP with ⟨-, -, h9⟩ | ⟨_, _, -, -, -, -, -, h9⟩
    · exact ⟨_, h9⟩
    · exact ⟨_, h9⟩
  refine lv_istore (lv' := [(6, .int r2), (5, .int r1), (0, .ref b), (1, .ref (SA 0)), (2, .ref am), (3, .ref out), (4, .int (nI i))]) hx hb dL_law_1286 hl (by decide) rfl (fun ls hl => ?_)
  refine lv_goto (tgt := 2115) hx hb dL_law_1288 (by decide) ?_
  refine W.widen (k := cells + 140) (n := slots + 9600) (by omega) (by omega) ?_
  exact kk k H2 L2 ls ⟨_, _, hSS, hM2, hO⟩ hS (lv_sub hl [2, 3, 4, 5, 6] rfl)

theorem lc_isEmpty {p : Program} {l : Launch} {e : Env} {s : State} {m : MethodId} {below : List Frame} {meth : Method} {c : Code} {b L : Nat} {xs : Nat → Int32} {G : Cx} {SA : Nat → Nat} {am xa out : Nat} (Z : LX p l e s m meth c b L xs G SA out) : LStep p l e s m below meth c b L G SA am xa out 1291 := by
  intro k H locs cells slots i ls Q hI hS hi hc hs hl kk
  obtain ⟨hx, hb, hml, hown, hts, hC, hX, hbl, hL, hst, hSA, hSo, hout⟩ := Z
  have hK := hC.1
  have hA : ∀ q : Nat, s.heap.size ≤ q → A0f s.heap.size q := fun q h => h
  have hbA : ¬ A0f s.heap.size b := Nat.not_le_of_lt hbl
  obtain ⟨X, es, hSS, ⟨th, hM⟩, hO⟩ := hI
  obtain ⟨y1, e1⟩ : ∃ y, xs (nI (i + 1)).toNatClampNeg = y := ⟨_, rfl⟩
  refine lv_aload_n hx hb dL_law_1291 rfl (lv_at hl 1 rfl) ?_
  refine lv_aload_n hx hb dL_law_1292 rfl (lv_at hl 0 rfl) ?_
  refine lv_iload hx hb dL_law_1293 (lv_at hl 4 rfl) ?_
  refine lv_iconst (v := nI 1) hx hb dL_law_1295 (by decide) ?_
  refine lv_iadd hx hb dL_law_1296 ?_
  refine lv_cv (nI_add i 1) ?_
  refine va_sld hx hb hX hbl hbA hS (vp_in_nI (n := i + 1) (N := L) (by omega) (by omega)) dL_law_1297 ?_
  refine lv_cv e1 ?_
  refine lv_aload_n hx hb dL_law_1298 rfl (lv_at hl 3 rfl) ?_
  refine qI_SW (A := A0f s.heap.size) (A1 := (A1f SA out H.size)) (As := [.ref (SA 0), .int y1, .ref out]) (rest := []) ⟨hx, hb, hml, hown, hts⟩ (mL_isEmpty (A := (A1f SA out H.size)) hst (out := out) (SA := SA) (X := X) (es := es) (k := k) (fun i hi => Or.inl ⟨i, hi, rfl⟩) (Or.inr (Or.inl rfl)) hSo) (vx_cwSW 3 hts (gSW tw_4_4 tw_4_5 tw_1_0 cw_isEmpty) rfl rfl rfl (by decide +kernel) ⟨Nat.le_of_ble_eq_true rfl, Nat.le_of_ble_eq_true rfl⟩) hC hS (A1f_in hSA hout hS.1) (fun q h => Or.inr (Or.inr h)) ⟨hSS, hO⟩ rfl rfl hl.1 (Nat.le_of_ble_eq_true rfl) ⟨Nat.le_trans (by omega) hc, Nat.le_trans (by omega) hs⟩ dL_law_1299 (fun r1 H1 L1 hP hk hS => ?_)
  have h60 := hM.h60
  have he := hM.he
  have hM := MW.kc hK hSS hM hO hk
  have hN : SS G SA X es k H1 ∧ OA G out H1 := by
    rcases hP with ⟨-, v9, H0, hv, hk0, w9, hO1⟩ | ⟨-, -, hS1, hO1⟩
    · obtain ⟨_, -, -, -, hS1⟩ := hv
      exact ⟨hS1.kp hk0 (fun i hi e => hSo i hi e), ⟨_, _, hO1⟩⟩
    · exact ⟨hS1, hO1⟩
  obtain ⟨hSS, hO⟩ := hN
  refine lv_istore (lv' := [(5, .int r1), (0, .ref b), (1, .ref (SA 0)), (2, .ref am), (3, .ref out), (4, .int (nI i))]) hx hb dL_law_1302 hl (by decide) rfl (fun ls hl => ?_)
  refine lv_aload_n hx hb dL_law_1304 rfl (lv_at hl 3 rfl) ?_
  refine lv_aload_n hx hb dL_law_1305 rfl (lv_at hl 1 rfl) ?_
  refine lv_iload hx hb dL_law_1306 (lv_at hl 5 rfl) ?_
  refine lv_iconst (v := nI 1) hx hb dL_law_1308 (by decide) ?_
  refine lv_iadd hx hb dL_law_1309 ?_
  refine lv_cv (nI_add i 1) ?_
  refine va_sld hx hb hX hbl hbA hS (vp_in_nI (n := i + 1) (N := L) (by omega) (by omega)) dL_law_1310 ?_
  refine lv_cv e1 ?_
  refine qI_V (A := A0f s.heap.size) (A1 := (A2f s.heap.size SA out)) (b := am) (As := [.int y1]) (rest := []) ⟨hx, hb, hml, hown, hts⟩ (mX4_isEmpty (A := (A2f s.heap.size SA out)) (am := am) (xa := xa) (X := X) (P := pcL (X 14) es) (k := k) (th := th)) (cwV 1 hts (gV tw_6_153 tw_6_154 tw_6_155 tw_1_8 tw_6_156) rfl rfl rfl (by decide +kernel) ⟨Nat.le_of_ble_eq_true rfl, Nat.le_of_ble_eq_true rfl⟩) hC hS (fun q h => h.1) (A2f_new hSS hO hS.1) (hM.recv hK) hM rfl rfl hl.1 (Nat.le_of_ble_eq_true rfl) ⟨Nat.le_trans (by omega) hc, Nat.le_trans (by omega) hs⟩ dL_law_1311 (fun r2 H2 L2 hP hk hS => ?_)
  have hSS := hSS.kp hk (fun i hi h => h.2.1 i hi rfl)
  have hO := hO.kp hk (fun h => h.2.2 rfl)
  have hM2 : ∃ th, MW G (A2f s.heap.size SA out) am xa X (pcL (X 14) es) k th H2 := by
    rcases hP with ⟨-, -, h9⟩ | ⟨_, -, -, -, h9⟩
    · exact ⟨_, h9⟩
    · exact ⟨_, h9⟩
  refine lv_istore (lv' := [(6, .int r2), (5, .int r1), (0, .ref b), (1, .ref (SA 0)), (2, .ref am), (3, .ref out), (4, .int (nI i))]) hx hb dL_law_1314 hl (by decide) rfl (fun ls hl => ?_)
  refine lv_goto (tgt := 2115) hx hb dL_law_1316 (by decide) ?_
  refine W.widen (k := cells + 140) (n := slots + 9600) (by omega) (by omega) ?_
  exact kk k H2 L2 ls ⟨_, _, hSS, hM2, hO⟩ hS (lv_sub hl [2, 3, 4, 5, 6] rfl)

theorem lc_isBlank {p : Program} {l : Launch} {e : Env} {s : State} {m : MethodId} {below : List Frame} {meth : Method} {c : Code} {b L : Nat} {xs : Nat → Int32} {G : Cx} {SA : Nat → Nat} {am xa out : Nat} (Z : LX p l e s m meth c b L xs G SA out) : LStep p l e s m below meth c b L G SA am xa out 1319 := by
  intro k H locs cells slots i ls Q hI hS hi hc hs hl kk
  obtain ⟨hx, hb, hml, hown, hts, hC, hX, hbl, hL, hst, hSA, hSo, hout⟩ := Z
  have hK := hC.1
  have hA : ∀ q : Nat, s.heap.size ≤ q → A0f s.heap.size q := fun q h => h
  have hbA : ¬ A0f s.heap.size b := Nat.not_le_of_lt hbl
  obtain ⟨X, es, hSS, ⟨th, hM⟩, hO⟩ := hI
  obtain ⟨y1, e1⟩ : ∃ y, xs (nI (i + 1)).toNatClampNeg = y := ⟨_, rfl⟩
  refine lv_aload_n hx hb dL_law_1319 rfl (lv_at hl 1 rfl) ?_
  refine lv_aload_n hx hb dL_law_1320 rfl (lv_at hl 0 rfl) ?_
  refine lv_iload hx hb dL_law_1321 (lv_at hl 4 rfl) ?_
  refine lv_iconst (v := nI 1) hx hb dL_law_1323 (by decide) ?_
  refine lv_iadd hx hb dL_law_1324 ?_
  refine lv_cv (nI_add i 1) ?_
  refine va_sld hx hb hX hbl hbA hS (vp_in_nI (n := i + 1) (N := L) (by omega) (by omega)) dL_law_1325 ?_
  refine lv_cv e1 ?_
  refine lv_aload_n hx hb dL_law_1326 rfl (lv_at hl 3 rfl) ?_
  refine qI_SW (A := A0f s.heap.size) (A1 := (A1f SA out H.size)) (As := [.ref (SA 0), .int y1, .ref out]) (rest := []) ⟨hx, hb, hml, hown, hts⟩ (mL_isBlank (A := (A1f SA out H.size)) hst (out := out) (SA := SA) (X := X) (es := es) (k := k) (fun i hi => Or.inl ⟨i, hi, rfl⟩) (Or.inr (Or.inl rfl)) hSo) (vx_cwSW 3 hts (gSW tw_4_11 tw_4_12 tw_1_0 cw_isBlank) rfl rfl rfl (by decide +kernel) ⟨Nat.le_of_ble_eq_true rfl, Nat.le_of_ble_eq_true rfl⟩) hC hS (A1f_in hSA hout hS.1) (fun q h => Or.inr (Or.inr h)) ⟨hSS, hO⟩ rfl rfl hl.1 (Nat.le_of_ble_eq_true rfl) ⟨Nat.le_trans (by omega) hc, Nat.le_trans (by omega) hs⟩ dL_law_1327 (fun r1 H1 L1 hP hk hS => ?_)
  have h60 := hM.h60
  have he := hM.he
  have hM := MW.kc hK hSS hM hO hk
  have hN : SS G SA X es k H1 ∧ OA G out H1 := by
    rcases hP with ⟨-, v9, H0, hv, hk0, w9, hO1⟩ | ⟨-, -, hS1, hO1⟩
    · obtain ⟨_, -, -, -, hS1⟩ := hv
      exact ⟨hS1.kp hk0 (fun i hi e => hSo i hi e), ⟨_, _, hO1⟩⟩
    · exact ⟨hS1, hO1⟩
  obtain ⟨hSS, hO⟩ := hN
  refine lv_istore (lv' := [(5, .int r1), (0, .ref b), (1, .ref (SA 0)), (2, .ref am), (3, .ref out), (4, .int (nI i))]) hx hb dL_law_1330 hl (by decide) rfl (fun ls hl => ?_)
  refine lv_aload_n hx hb dL_law_1332 rfl (lv_at hl 3 rfl) ?_
  refine lv_aload_n hx hb dL_law_1333 rfl (lv_at hl 1 rfl) ?_
  refine lv_iload hx hb dL_law_1334 (lv_at hl 5 rfl) ?_
  refine lv_iconst (v := nI 1) hx hb dL_law_1336 (by decide) ?_
  refine lv_iadd hx hb dL_law_1337 ?_
  refine lv_cv (nI_add i 1) ?_
  refine va_sld hx hb hX hbl hbA hS (vp_in_nI (n := i + 1) (N := L) (by omega) (by omega)) dL_law_1338 ?_
  refine lv_cv e1 ?_
  refine qI_V (A := A0f s.heap.size) (A1 := (A2f s.heap.size SA out)) (b := am) (As := [.int y1]) (rest := []) ⟨hx, hb, hml, hown, hts⟩ (mX4_isBlank (A := (A2f s.heap.size SA out)) (am := am) (xa := xa) (X := X) (P := pcL (X 14) es) (k := k) (th := th)) (cwV 1 hts (gV tw_6_157 tw_6_158 tw_6_159 tw_1_8 tw_6_160) rfl rfl rfl (by decide +kernel) ⟨Nat.le_of_ble_eq_true rfl, Nat.le_of_ble_eq_true rfl⟩) hC hS (fun q h => h.1) (A2f_new hSS hO hS.1) (hM.recv hK) hM rfl rfl hl.1 (Nat.le_of_ble_eq_true rfl) ⟨Nat.le_trans (by omega) hc, Nat.le_trans (by omega) hs⟩ dL_law_1339 (fun r2 H2 L2 hP hk hS => ?_)
  have hSS := hSS.kp hk (fun i hi h => h.2.1 i hi rfl)
  have hO := hO.kp hk (fun h => h.2.2 rfl)
  have hM2 : ∃ th, MW G (A2f s.heap.size SA out) am xa X (pcL (X 14) es) k th H2 := by
    rcases hP with ⟨-, -, h9⟩ | ⟨_, -, -, -, h9⟩
    · exact ⟨_, h9⟩
    · exact ⟨_, h9⟩
  refine lv_istore (lv' := [(6, .int r2), (5, .int r1), (0, .ref b), (1, .ref (SA 0)), (2, .ref am), (3, .ref out), (4, .int (nI i))]) hx hb dL_law_1342 hl (by decide) rfl (fun ls hl => ?_)
  refine lv_goto (tgt := 2115) hx hb dL_law_1344 (by decide) ?_
  refine W.widen (k := cells + 140) (n := slots + 9600) (by omega) (by omega) ?_
  exact kk k H2 L2 ls ⟨_, _, hSS, hM2, hO⟩ hS (lv_sub hl [2, 3, 4, 5, 6] rfl)

theorem lc_hash {p : Program} {l : Launch} {e : Env} {s : State} {m : MethodId} {below : List Frame} {meth : Method} {c : Code} {b L : Nat} {xs : Nat → Int32} {G : Cx} {SA : Nat → Nat} {am xa out : Nat} (Z : LX p l e s m meth c b L xs G SA out) : LStep p l e s m below meth c b L G SA am xa out 1347 := by
  intro k H locs cells slots i ls Q hI hS hi hc hs hl kk
  obtain ⟨hx, hb, hml, hown, hts, hC, hX, hbl, hL, hst, hSA, hSo, hout⟩ := Z
  have hK := hC.1
  have hA : ∀ q : Nat, s.heap.size ≤ q → A0f s.heap.size q := fun q h => h
  have hbA : ¬ A0f s.heap.size b := Nat.not_le_of_lt hbl
  obtain ⟨X, es, hSS, ⟨th, hM⟩, hO⟩ := hI
  obtain ⟨y1, e1⟩ : ∃ y, xs (nI (i + 1)).toNatClampNeg = y := ⟨_, rfl⟩
  refine lv_aload_n hx hb dL_law_1347 rfl (lv_at hl 1 rfl) ?_
  refine lv_aload_n hx hb dL_law_1348 rfl (lv_at hl 0 rfl) ?_
  refine lv_iload hx hb dL_law_1349 (lv_at hl 4 rfl) ?_
  refine lv_iconst (v := nI 1) hx hb dL_law_1351 (by decide) ?_
  refine lv_iadd hx hb dL_law_1352 ?_
  refine lv_cv (nI_add i 1) ?_
  refine va_sld hx hb hX hbl hbA hS (vp_in_nI (n := i + 1) (N := L) (by omega) (by omega)) dL_law_1353 ?_
  refine lv_cv e1 ?_
  refine lv_aload_n hx hb dL_law_1354 rfl (lv_at hl 3 rfl) ?_
  refine qI_SW (A := A0f s.heap.size) (A1 := (A1f SA out H.size)) (As := [.ref (SA 0), .int y1, .ref out]) (rest := []) ⟨hx, hb, hml, hown, hts⟩ (mL_hash (A := (A1f SA out H.size)) hst (out := out) (SA := SA) (X := X) (es := es) (k := k) (fun i hi => Or.inl ⟨i, hi, rfl⟩) (Or.inr (Or.inl rfl)) hSo) (vx_cwSW 3 hts (gSW tw_4_18 tw_4_19 tw_1_0 cw_hash) rfl rfl rfl (by decide +kernel) ⟨Nat.le_of_ble_eq_true rfl, Nat.le_of_ble_eq_true rfl⟩) hC hS (A1f_in hSA hout hS.1) (fun q h => Or.inr (Or.inr h)) ⟨hSS, hO⟩ rfl rfl hl.1 (Nat.le_of_ble_eq_true rfl) ⟨Nat.le_trans (by omega) hc, Nat.le_trans (by omega) hs⟩ dL_law_1355 (fun r1 H1 L1 hP hk hS => ?_)
  have h60 := hM.h60
  have he := hM.he
  have hM := MW.kc hK hSS hM hO hk
  have hN : SS G SA X es k H1 ∧ OA G out H1 := by
    rcases hP with ⟨-, v9, H0, hv, hk0, w9, hO1⟩ | ⟨-, -, hS1, hO1⟩
    · obtain ⟨_, -, -, -, hS1⟩ := hv
      exact ⟨hS1.kp hk0 (fun i hi e => hSo i hi e), ⟨_, _, hO1⟩⟩
    · exact ⟨hS1, hO1⟩
  obtain ⟨hSS, hO⟩ := hN
  refine lv_istore (lv' := [(5, .int r1), (0, .ref b), (1, .ref (SA 0)), (2, .ref am), (3, .ref out), (4, .int (nI i))]) hx hb dL_law_1358 hl (by decide) rfl (fun ls hl => ?_)
  refine lv_aload_n hx hb dL_law_1360 rfl (lv_at hl 3 rfl) ?_
  refine lv_aload_n hx hb dL_law_1361 rfl (lv_at hl 1 rfl) ?_
  refine lv_iload hx hb dL_law_1362 (lv_at hl 5 rfl) ?_
  refine lv_iconst (v := nI 1) hx hb dL_law_1364 (by decide) ?_
  refine lv_iadd hx hb dL_law_1365 ?_
  refine lv_cv (nI_add i 1) ?_
  refine va_sld hx hb hX hbl hbA hS (vp_in_nI (n := i + 1) (N := L) (by omega) (by omega)) dL_law_1366 ?_
  refine lv_cv e1 ?_
  refine qI_V (A := A0f s.heap.size) (A1 := (A2f s.heap.size SA out)) (b := am) (As := [.int y1]) (rest := []) ⟨hx, hb, hml, hown, hts⟩ (mX4_hash_ (A := (A2f s.heap.size SA out)) (am := am) (xa := xa) (X := X) (P := pcL (X 14) es) (k := k) (th := th)) (cwV 1 hts (gV tw_6_161 tw_6_162 tw_6_163 tw_1_8 tw_6_164) rfl rfl rfl (by decide +kernel) ⟨Nat.le_of_ble_eq_true rfl, Nat.le_of_ble_eq_true rfl⟩) hC hS (fun q h => h.1) (A2f_new hSS hO hS.1) (hM.recv hK) hM rfl rfl hl.1 (Nat.le_of_ble_eq_true rfl) ⟨Nat.le_trans (by omega) hc, Nat.le_trans (by omega) hs⟩ dL_law_1367 (fun r2 H2 L2 hP hk hS => ?_)
  have hSS := hSS.kp hk (fun i hi h => h.2.1 i hi rfl)
  have hO := hO.kp hk (fun h => h.2.2 rfl)
  have hM2 : ∃ th, MW G (A2f s.heap.size SA out) am xa X (pcL (X 14) es) k th H2 := by
    rcases hP with ⟨-, -, h9⟩ | ⟨_, -, -, -, h9⟩
    · exact ⟨_, h9⟩
    · exact ⟨_, h9⟩
  refine lv_istore (lv' := [(6, .int r2), (5, .int r1), (0, .ref b), (1, .ref (SA 0)), (2, .ref am), (3, .ref out), (4, .int (nI i))]) hx hb dL_law_1370 hl (by decide) rfl (fun ls hl => ?_)
  refine lv_goto (tgt := 2115) hx hb dL_law_1372 (by decide) ?_
  refine W.widen (k := cells + 140) (n := slots + 9600) (by omega) (by omega) ?_
  exact kk k H2 L2 ls ⟨_, _, hSS, hM2, hO⟩ hS (lv_sub hl [2, 3, 4, 5, 6] rfl)

theorem lc_first {p : Program} {l : Launch} {e : Env} {s : State} {m : MethodId} {below : List Frame} {meth : Method} {c : Code} {b L : Nat} {xs : Nat → Int32} {G : Cx} {SA : Nat → Nat} {am xa out : Nat} (Z : LX p l e s m meth c b L xs G SA out) : LStep p l e s m below meth c b L G SA am xa out 1375 := by
  intro k H locs cells slots i ls Q hI hS hi hc hs hl kk
  obtain ⟨hx, hb, hml, hown, hts, hC, hX, hbl, hL, hst, hSA, hSo, hout⟩ := Z
  have hK := hC.1
  have hA : ∀ q : Nat, s.heap.size ≤ q → A0f s.heap.size q := fun q h => h
  have hbA : ¬ A0f s.heap.size b := Nat.not_le_of_lt hbl
  obtain ⟨X, es, hSS, ⟨th, hM⟩, hO⟩ := hI
  obtain ⟨y1, e1⟩ : ∃ y, xs (nI (i + 1)).toNatClampNeg = y := ⟨_, rfl⟩
  obtain ⟨y2, e2⟩ : ∃ y, xs (nI (i + 2)).toNatClampNeg = y := ⟨_, rfl⟩
  refine lv_aload_n hx hb dL_law_1375 rfl (lv_at hl 1 rfl) ?_
  refine lv_aload_n hx hb dL_law_1376 rfl (lv_at hl 0 rfl) ?_
  refine lv_iload hx hb dL_law_1377 (lv_at hl 4 rfl) ?_
  refine lv_iconst (v := nI 1) hx hb dL_law_1379 (by decide) ?_
  refine lv_iadd hx hb dL_law_1380 ?_
  refine lv_cv (nI_add i 1) ?_
  refine va_sld hx hb hX hbl hbA hS (vp_in_nI (n := i + 1) (N := L) (by omega) (by omega)) dL_law_1381 ?_
  refine lv_cv e1 ?_
  refine lv_aload_n hx hb dL_law_1382 rfl (lv_at hl 0 rfl) ?_
  refine lv_iload hx hb dL_law_1383 (lv_at hl 4 rfl) ?_
  refine lv_iconst (v := nI 2) hx hb dL_law_1385 (by decide) ?_
  refine lv_iadd hx hb dL_law_1386 ?_
  refine lv_cv (nI_add i 2) ?_
  refine va_sld hx hb hX hbl hbA hS (vp_in_nI (n := i + 2) (N := L) (by omega) (by omega)) dL_law_1387 ?_
  refine lv_cv e2 ?_
  refine lv_aload_n hx hb dL_law_1388 rfl (lv_at hl 3 rfl) ?_
  refine qI_SW (A := A0f s.heap.size) (A1 := (A1f SA out H.size)) (As := [.ref (SA 0), .int y1, .int y2, .ref out]) (rest := []) ⟨hx, hb, hml, hown, hts⟩ (mL_first (A := (A1f SA out H.size)) hst (out := out) (SA := SA) (X := X) (es := es) (k := k) (fun i hi => Or.inl ⟨i, hi, rfl⟩) (Or.inr (Or.inl rfl)) hSo) (vx_cwSW 4 hts (gSW tw_4_25 tw_4_26 tw_1_0 cw_first) rfl rfl rfl (by decide +kernel) ⟨Nat.le_of_ble_eq_true rfl, Nat.le_of_ble_eq_true rfl⟩) hC hS (A1f_in hSA hout hS.1) (fun q h => Or.inr (Or.inr h)) ⟨hSS, hO⟩ rfl rfl hl.1 (Nat.le_of_ble_eq_true rfl) ⟨Nat.le_trans (by omega) hc, Nat.le_trans (by omega) hs⟩ dL_law_1389 (fun r1 H1 L1 hP hk hS => ?_)
  have h60 := hM.h60
  have he := hM.he
  have hM := MW.kc hK hSS hM hO hk
  have hN : SS G SA X es k H1 ∧ OA G out H1 := by
    rcases hP with ⟨-, v9, H0, hv, hk0, w9, hO1⟩ | ⟨-, -, hS1, hO1⟩ | ⟨-, -, hS1, hO1⟩
    · obtain ⟨_, _, -, -, -, -, -, hS1⟩ := hv
      exact ⟨hS1.kp hk0 (fun i hi e => hSo i hi e), ⟨_, _, hO1⟩⟩
    · exact ⟨hS1, hO1⟩
    · exact ⟨hS1, hO1⟩
  obtain ⟨hSS, hO⟩ := hN
  refine lv_istore (lv' := [(5, .int r1), (0, .ref b), (1, .ref (SA 0)), (2, .ref am), (3, .ref out), (4, .int (nI i))]) hx hb dL_law_1392 hl (by decide) rfl (fun ls hl => ?_)
  refine lv_aload_n hx hb dL_law_1394 rfl (lv_at hl 3 rfl) ?_
  refine lv_aload_n hx hb dL_law_1395 rfl (lv_at hl 1 rfl) ?_
  refine lv_iload hx hb dL_law_1396 (lv_at hl 5 rfl) ?_
  refine lv_iconst (v := nI 1) hx hb dL_law_1398 (by decide) ?_
  refine lv_iadd hx hb dL_law_1399 ?_
  refine lv_cv (nI_add i 1) ?_
  refine va_sld hx hb hX hbl hbA hS (vp_in_nI (n := i + 1) (N := L) (by omega) (by omega)) dL_law_1400 ?_
  refine lv_cv e1 ?_
  refine lv_aload_n hx hb dL_law_1401 rfl (lv_at hl 1 rfl) ?_
  refine lv_iload hx hb dL_law_1402 (lv_at hl 5 rfl) ?_
  refine lv_iconst (v := nI 2) hx hb dL_law_1404 (by decide) ?_
  refine lv_iadd hx hb dL_law_1405 ?_
  refine lv_cv (nI_add i 2) ?_
  refine va_sld hx hb hX hbl hbA hS (vp_in_nI (n := i + 2) (N := L) (by omega) (by omega)) dL_law_1406 ?_
  refine lv_cv e2 ?_
  refine qI_V (A := A0f s.heap.size) (A1 := (A2f s.heap.size SA out)) (b := am) (As := [.int y1, .int y2]) (rest := []) ⟨hx, hb, hml, hown, hts⟩ (mX4_first_ (A := (A2f s.heap.size SA out)) (am := am) (xa := xa) (X := X) (P := pcL (X 14) es) (k := k) (th := th)) (cwV 2 hts (gV tw_6_168 tw_6_169 tw_6_170 tw_1_8 tw_6_171) rfl rfl rfl (by decide +kernel) ⟨Nat.le_of_ble_eq_true rfl, Nat.le_of_ble_eq_true rfl⟩) hC hS (fun q h => h.1) (A2f_new hSS hO hS.1) (hM.recv hK) hM rfl rfl hl.1 (Nat.le_of_ble_eq_true rfl) ⟨Nat.le_trans (by omega) hc, Nat.le_trans (by omega) hs⟩ dL_law_1407 (fun r2 H2 L2 hP hk hS => ?_)
  have hSS := hSS.kp hk (fun i hi h => h.2.1 i hi rfl)
  have hO := hO.kp hk (fun h => h.2.2 rfl)
  have hM2 : ∃ th, MW G (A2f s.heap.size SA out) am xa X (pcL (X 14) es) k th H2 := by
    rcases hP with ⟨-, -, h9⟩ | ⟨-, -, h9⟩ | ⟨_, _, -, -, -, -, -, h9⟩
    · exact ⟨_, h9⟩
    · exact ⟨_, h9⟩
    · exact ⟨_, h9⟩
  refine lv_istore (lv' := [(6, .int r2), (5, .int r1), (0, .ref b), (1, .ref (SA 0)), (2, .ref am), (3, .ref out), (4, .int (nI i))]) hx hb dL_law_1410 hl (by decide) rfl (fun ls hl => ?_)
  refine lv_goto (tgt := 2115) hx hb dL_law_1412 (by decide) ?_
  refine W.widen (k := cells + 140) (n := slots + 9600) (by omega) (by omega) ?_
  exact kk k H2 L2 ls ⟨_, _, hSS, hM2, hO⟩ hS (lv_sub hl [2, 3, 4, 5, 6] rfl)

theorem lc_last {p : Program} {l : Launch} {e : Env} {s : State} {m : MethodId} {below : List Frame} {meth : Method} {c : Code} {b L : Nat} {xs : Nat → Int32} {G : Cx} {SA : Nat → Nat} {am xa out : Nat} (Z : LX p l e s m meth c b L xs G SA out) : LStep p l e s m below meth c b L G SA am xa out 1415 := by
  intro k H locs cells slots i ls Q hI hS hi hc hs hl kk
  obtain ⟨hx, hb, hml, hown, hts, hC, hX, hbl, hL, hst, hSA, hSo, hout⟩ := Z
  have hK := hC.1
  have hA : ∀ q : Nat, s.heap.size ≤ q → A0f s.heap.size q := fun q h => h
  have hbA : ¬ A0f s.heap.size b := Nat.not_le_of_lt hbl
  obtain ⟨X, es, hSS, ⟨th, hM⟩, hO⟩ := hI
  obtain ⟨y1, e1⟩ : ∃ y, xs (nI (i + 1)).toNatClampNeg = y := ⟨_, rfl⟩
  obtain ⟨y2, e2⟩ : ∃ y, xs (nI (i + 2)).toNatClampNeg = y := ⟨_, rfl⟩
  refine lv_aload_n hx hb dL_law_1415 rfl (lv_at hl 1 rfl) ?_
  refine lv_aload_n hx hb dL_law_1416 rfl (lv_at hl 0 rfl) ?_
  refine lv_iload hx hb dL_law_1417 (lv_at hl 4 rfl) ?_
  refine lv_iconst (v := nI 1) hx hb dL_law_1419 (by decide) ?_
  refine lv_iadd hx hb dL_law_1420 ?_
  refine lv_cv (nI_add i 1) ?_
  refine va_sld hx hb hX hbl hbA hS (vp_in_nI (n := i + 1) (N := L) (by omega) (by omega)) dL_law_1421 ?_
  refine lv_cv e1 ?_
  refine lv_aload_n hx hb dL_law_1422 rfl (lv_at hl 0 rfl) ?_
  refine lv_iload hx hb dL_law_1423 (lv_at hl 4 rfl) ?_
  refine lv_iconst (v := nI 2) hx hb dL_law_1425 (by decide) ?_
  refine lv_iadd hx hb dL_law_1426 ?_
  refine lv_cv (nI_add i 2) ?_
  refine va_sld hx hb hX hbl hbA hS (vp_in_nI (n := i + 2) (N := L) (by omega) (by omega)) dL_law_1427 ?_
  refine lv_cv e2 ?_
  refine lv_aload_n hx hb dL_law_1428 rfl (lv_at hl 3 rfl) ?_
  refine qI_SW (A := A0f s.heap.size) (A1 := (A1f SA out H.size)) (As := [.ref (SA 0), .int y1, .int y2, .ref out]) (rest := []) ⟨hx, hb, hml, hown, hts⟩ (mL_last (A := (A1f SA out H.size)) hst (out := out) (SA := SA) (X := X) (es := es) (k := k) (fun i hi => Or.inl ⟨i, hi, rfl⟩) (Or.inr (Or.inl rfl)) hSo) (vx_cwSW 4 hts (gSW tw_4_36 tw_4_37 tw_1_0 cw_last) rfl rfl rfl (by decide +kernel) ⟨Nat.le_of_ble_eq_true rfl, Nat.le_of_ble_eq_true rfl⟩) hC hS (A1f_in hSA hout hS.1) (fun q h => Or.inr (Or.inr h)) ⟨hSS, hO⟩ rfl rfl hl.1 (Nat.le_of_ble_eq_true rfl) ⟨Nat.le_trans (by omega) hc, Nat.le_trans (by omega) hs⟩ dL_law_1429 (fun r1 H1 L1 hP hk hS => ?_)
  have h60 := hM.h60
  have he := hM.he
  have hM := MW.kc hK hSS hM hO hk
  have hN : SS G SA X es k H1 ∧ OA G out H1 := by
    rcases hP with ⟨-, v9, H0, hv, hk0, w9, hO1⟩ | ⟨-, -, hS1, hO1⟩ | ⟨-, -, hS1, hO1⟩
    · obtain ⟨_, _, -, -, -, -, -, hS1⟩ := hv
      exact ⟨hS1.kp hk0 (fun i hi e => hSo i hi e), ⟨_, _, hO1⟩⟩
    · exact ⟨hS1, hO1⟩
    · exact ⟨hS1, hO1⟩
  obtain ⟨hSS, hO⟩ := hN
  refine lv_istore (lv' := [(5, .int r1), (0, .ref b), (1, .ref (SA 0)), (2, .ref am), (3, .ref out), (4, .int (nI i))]) hx hb dL_law_1432 hl (by decide) rfl (fun ls hl => ?_)
  refine lv_aload_n hx hb dL_law_1434 rfl (lv_at hl 3 rfl) ?_
  refine lv_aload_n hx hb dL_law_1435 rfl (lv_at hl 1 rfl) ?_
  refine lv_iload hx hb dL_law_1436 (lv_at hl 5 rfl) ?_
  refine lv_iconst (v := nI 1) hx hb dL_law_1438 (by decide) ?_
  refine lv_iadd hx hb dL_law_1439 ?_
  refine lv_cv (nI_add i 1) ?_
  refine va_sld hx hb hX hbl hbA hS (vp_in_nI (n := i + 1) (N := L) (by omega) (by omega)) dL_law_1440 ?_
  refine lv_cv e1 ?_
  refine lv_aload_n hx hb dL_law_1441 rfl (lv_at hl 1 rfl) ?_
  refine lv_iload hx hb dL_law_1442 (lv_at hl 5 rfl) ?_
  refine lv_iconst (v := nI 2) hx hb dL_law_1444 (by decide) ?_
  refine lv_iadd hx hb dL_law_1445 ?_
  refine lv_cv (nI_add i 2) ?_
  refine va_sld hx hb hX hbl hbA hS (vp_in_nI (n := i + 2) (N := L) (by omega) (by omega)) dL_law_1446 ?_
  refine lv_cv e2 ?_
  refine qI_V (A := A0f s.heap.size) (A1 := (A2f s.heap.size SA out)) (b := am) (As := [.int y1, .int y2]) (rest := []) ⟨hx, hb, hml, hown, hts⟩ (mX4_last_ (A := (A2f s.heap.size SA out)) (am := am) (xa := xa) (X := X) (P := pcL (X 14) es) (k := k) (th := th)) (cwV 2 hts (gV tw_6_181 tw_6_182 tw_6_183 tw_1_8 tw_6_184) rfl rfl rfl (by decide +kernel) ⟨Nat.le_of_ble_eq_true rfl, Nat.le_of_ble_eq_true rfl⟩) hC hS (fun q h => h.1) (A2f_new hSS hO hS.1) (hM.recv hK) hM rfl rfl hl.1 (Nat.le_of_ble_eq_true rfl) ⟨Nat.le_trans (by omega) hc, Nat.le_trans (by omega) hs⟩ dL_law_1447 (fun r2 H2 L2 hP hk hS => ?_)
  have hSS := hSS.kp hk (fun i hi h => h.2.1 i hi rfl)
  have hO := hO.kp hk (fun h => h.2.2 rfl)
  have hM2 : ∃ th, MW G (A2f s.heap.size SA out) am xa X (pcL (X 14) es) k th H2 := by
    rcases hP with ⟨-, -, h9⟩ | ⟨-, -, h9⟩ | ⟨_, _, -, -, -, -, -, h9⟩
    · exact ⟨_, h9⟩
    · exact ⟨_, h9⟩
    · exact ⟨_, h9⟩
  refine lv_istore (lv' := [(6, .int r2), (5, .int r1), (0, .ref b), (1, .ref (SA 0)), (2, .ref am), (3, .ref out), (4, .int (nI i))]) hx hb dL_law_1450 hl (by decide) rfl (fun ls hl => ?_)
  refine lv_goto (tgt := 2115) hx hb dL_law_1452 (by decide) ?_
  refine W.widen (k := cells + 140) (n := slots + 9600) (by omega) (by omega) ?_
  exact kk k H2 L2 ls ⟨_, _, hSS, hM2, hO⟩ hS (lv_sub hl [2, 3, 4, 5, 6] rfl)

theorem lc_next {p : Program} {l : Launch} {e : Env} {s : State} {m : MethodId} {below : List Frame} {meth : Method} {c : Code} {b L : Nat} {xs : Nat → Int32} {G : Cx} {SA : Nat → Nat} {am xa out : Nat} (Z : LX p l e s m meth c b L xs G SA out) : LStep p l e s m below meth c b L G SA am xa out 1455 := by
  intro k H locs cells slots i ls Q hI hS hi hc hs hl kk
  obtain ⟨hx, hb, hml, hown, hts, hC, hX, hbl, hL, hst, hSA, hSo, hout⟩ := Z
  have hK := hC.1
  have hA : ∀ q : Nat, s.heap.size ≤ q → A0f s.heap.size q := fun q h => h
  have hbA : ¬ A0f s.heap.size b := Nat.not_le_of_lt hbl
  obtain ⟨X, es, hSS, ⟨th, hM⟩, hO⟩ := hI
  obtain ⟨y1, e1⟩ : ∃ y, xs (nI (i + 1)).toNatClampNeg = y := ⟨_, rfl⟩
  obtain ⟨y2, e2⟩ : ∃ y, xs (nI (i + 2)).toNatClampNeg = y := ⟨_, rfl⟩
  obtain ⟨y3, e3⟩ : ∃ y, xs (nI (i + 3)).toNatClampNeg = y := ⟨_, rfl⟩
  refine lv_aload_n hx hb dL_law_1455 rfl (lv_at hl 1 rfl) ?_
  refine lv_aload_n hx hb dL_law_1456 rfl (lv_at hl 0 rfl) ?_
  refine lv_iload hx hb dL_law_1457 (lv_at hl 4 rfl) ?_
  refine lv_iconst (v := nI 1) hx hb dL_law_1459 (by decide) ?_
  refine lv_iadd hx hb dL_law_1460 ?_
  refine lv_cv (nI_add i 1) ?_
  refine va_sld hx hb hX hbl hbA hS (vp_in_nI (n := i + 1) (N := L) (by omega) (by omega)) dL_law_1461 ?_
  refine lv_cv e1 ?_
  refine lv_aload_n hx hb dL_law_1462 rfl (lv_at hl 0 rfl) ?_
  refine lv_iload hx hb dL_law_1463 (lv_at hl 4 rfl) ?_
  refine lv_iconst (v := nI 2) hx hb dL_law_1465 (by decide) ?_
  refine lv_iadd hx hb dL_law_1466 ?_
  refine lv_cv (nI_add i 2) ?_
  refine va_sld hx hb hX hbl hbA hS (vp_in_nI (n := i + 2) (N := L) (by omega) (by omega)) dL_law_1467 ?_
  refine lv_cv e2 ?_
  refine lv_aload_n hx hb dL_law_1468 rfl (lv_at hl 0 rfl) ?_
  refine lv_iload hx hb dL_law_1469 (lv_at hl 4 rfl) ?_
  refine lv_iconst (v := nI 3) hx hb dL_law_1471 (by decide) ?_
  refine lv_iadd hx hb dL_law_1472 ?_
  refine lv_cv (nI_add i 3) ?_
  refine va_sld hx hb hX hbl hbA hS (vp_in_nI (n := i + 3) (N := L) (by omega) (by omega)) dL_law_1473 ?_
  refine lv_cv e3 ?_
  refine lv_aload_n hx hb dL_law_1474 rfl (lv_at hl 3 rfl) ?_
  refine qI_SW (A := A0f s.heap.size) (A1 := (A1f SA out H.size)) (As := [.ref (SA 0), .int y1, .int y2, .int y3, .ref out]) (rest := []) ⟨hx, hb, hml, hown, hts⟩ (mL_next (A := (A1f SA out H.size)) hst (out := out) (SA := SA) (X := X) (es := es) (k := k) (fun i hi => Or.inl ⟨i, hi, rfl⟩) (Or.inr (Or.inl rfl)) hSo) (vx_cwSW 5 hts (gSW tw_4_47 tw_4_48 tw_1_0 cw_next) rfl rfl rfl (by decide +kernel) ⟨Nat.le_of_ble_eq_true rfl, Nat.le_of_ble_eq_true rfl⟩) hC hS (A1f_in hSA hout hS.1) (fun q h => Or.inr (Or.inr h)) ⟨hSS, hO⟩ rfl rfl hl.1 (Nat.le_of_ble_eq_true rfl) ⟨Nat.le_trans (by omega) hc, Nat.le_trans (by omega) hs⟩ dL_law_1475 (fun r1 H1 L1 hP hk hS => ?_)
  have h60 := hM.h60
  have he := hM.he
  have hM := MW.kc hK hSS hM hO hk
  have hN : SS G SA X es k H1 ∧ OA G out H1 := by
    rcases hP with ⟨-, v9, H0, hv, hk0, w9, hO1⟩ | ⟨-, -, hS1, hO1⟩ | ⟨-, -, hS1, hO1⟩
    · obtain ⟨_, _, _, -, -, -, -, -, -, -, hS1⟩ := hv
      exact ⟨hS1.kp hk0 (fun i hi e => hSo i hi e), ⟨_, _, hO1⟩⟩
    · exact ⟨hS1, hO1⟩
    · exact ⟨hS1, hO1⟩
  obtain ⟨hSS, hO⟩ := hN
  refine lv_istore (lv' := [(5, .int r1), (0, .ref b), (1, .ref (SA 0)), (2, .ref am), (3, .ref out), (4, .int (nI i))]) hx hb dL_law_1478 hl (by decide) rfl (fun ls hl => ?_)
  refine lv_aload_n hx hb dL_law_1480 rfl (lv_at hl 3 rfl) ?_
  refine lv_aload_n hx hb dL_law_1481 rfl (lv_at hl 1 rfl) ?_
  refine lv_iload hx hb dL_law_1482 (lv_at hl 5 rfl) ?_
  refine lv_iconst (v := nI 1) hx hb dL_law_1484 (by decide) ?_
  refine lv_iadd hx hb dL_law_1485 ?_
  refine lv_cv (nI_add i 1) ?_
  refine va_sld hx hb hX hbl hbA hS (vp_in_nI (n := i + 1) (N := L) (by omega) (by omega)) dL_law_1486 ?_
  refine lv_cv e1 ?_
  refine lv_aload_n hx hb dL_law_1487 rfl (lv_at hl 1 rfl) ?_
  refine lv_iload hx hb dL_law_1488 (lv_at hl 5 rfl) ?_
  refine lv_iconst (v := nI 2) hx hb dL_law_1490 (by decide) ?_
  refine lv_iadd hx hb dL_law_1491 ?_
  refine lv_cv (nI_add i 2) ?_
  refine va_sld hx hb hX hbl hbA hS (vp_in_nI (n := i + 2) (N := L) (by omega) (by omega)) dL_law_1492 ?_
  refine lv_cv e2 ?_
  refine lv_aload_n hx hb dL_law_1493 rfl (lv_at hl 1 rfl) ?_
  refine lv_iload hx hb dL_law_1494 (lv_at hl 5 rfl) ?_
  refine lv_iconst (v := nI 3) hx hb dL_law_1496 (by decide) ?_
  refine lv_iadd hx hb dL_law_1497 ?_
  refine lv_cv (nI_add i 3) ?_
  refine va_sld hx hb hX hbl hbA hS (vp_in_nI (n := i + 3) (N := L) (by omega) (by omega)) dL_law_1498 ?_
  refine lv_cv e3 ?_
  refine qI_V (A := A0f s.heap.size) (A1 := (A2f s.heap.size SA out)) (b := am) (As := [.int y1, .int y2, .int y3]) (rest := []) ⟨hx, hb, hml, hown, hts⟩ (mX4_next (A := (A2f s.heap.size SA out)) (am := am) (xa := xa) (X := X) (P := pcL (X 14) es) (k := k) (th := th)) (cwV 3 hts (gV tw_6_188 tw_6_189 tw_6_190 tw_1_8 tw_6_191) rfl rfl rfl (by decide +kernel) ⟨Nat.le_of_ble_eq_true rfl, Nat.le_of_ble_eq_true rfl⟩) hC hS (fun q h => h.1) (A2f_new hSS hO hS.1) (hM.recv hK) hM rfl rfl hl.1 (Nat.le_of_ble_eq_true rfl) ⟨Nat.le_trans (by omega) hc, Nat.le_trans (by omega) hs⟩ dL_law_1499 (fun r2 H2 L2 hP hk hS => ?_)
  have hSS := hSS.kp hk (fun i hi h => h.2.1 i hi rfl)
  have hO := hO.kp hk (fun h => h.2.2 rfl)
  have hM2 : ∃ th, MW G (A2f s.heap.size SA out) am xa X (pcL (X 14) es) k th H2 := by
    rcases hP with ⟨-, -, h9⟩ | ⟨-, -, h9⟩ | ⟨_, _, _, -, -, -, -, -, -, -, h9⟩
    · exact ⟨_, h9⟩
    · exact ⟨_, h9⟩
    · exact ⟨_, h9⟩
  refine lv_istore (lv' := [(6, .int r2), (5, .int r1), (0, .ref b), (1, .ref (SA 0)), (2, .ref am), (3, .ref out), (4, .int (nI i))]) hx hb dL_law_1502 hl (by decide) rfl (fun ls hl => ?_)
  refine lv_goto (tgt := 2115) hx hb dL_law_1504 (by decide) ?_
  refine W.widen (k := cells + 140) (n := slots + 9600) (by omega) (by omega) ?_
  exact kk k H2 L2 ls ⟨_, _, hSS, hM2, hO⟩ hS (lv_sub hl [2, 3, 4, 5, 6] rfl)
