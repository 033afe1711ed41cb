/-! THE LAW, 8: cases -/
theorem lc_begins {p : Program} {l : Launch} {e : Env} {s : State} {m : MethodId} {below : List Frame} {meth : Method} {c : Code} {b L : Nat} {xs : Nat → Int32} {G : Cx} {SA : Nat → Nat} {am xa out : Nat} (Z : LX p l e s m meth c b L xs G SA out) : LStep p l e s m below meth c b L G SA am xa out 1507 := by
  intro k H locs cells slots i ls Q hI hS hi hc hs hl kk
  obtain ⟨hx, hb, hml, hown, hts, hC, hX, hbl, hL, hst, hSA, hSo, hout⟩ := Z
  have hK := hC.1
  have hA : ∀ q : Nat, s.heap.size ≤ q → A0f s.heap.size q := fun q h => h
  have hbA : ¬ A0f s.heap.size b := Nat.not_le_of_lt hbl
  obtain ⟨X, es, hSS, ⟨th, hM⟩, hO⟩ := hI
  obtain ⟨y1, e1⟩ : ∃ y, xs (nI (i + 1)).toNatClampNeg = y := ⟨_, rfl⟩
  obtain ⟨y2, e2⟩ : ∃ y, xs (nI (i + 2)).toNatClampNeg = y := ⟨_, rfl⟩
  obtain ⟨y3, e3⟩ : ∃ y, xs (nI (i + 3)).toNatClampNeg = y := ⟨_, rfl⟩
  by_cases hz3 : y3 = 0
  · refine lv_aload_n hx hb dL_law_1507 rfl (lv_at hl 1 rfl) ?_
    refine lv_aload_n hx hb dL_law_1508 rfl (lv_at hl 0 rfl) ?_
    refine lv_iload hx hb dL_law_1509 (lv_at hl 4 rfl) ?_
    refine lv_iconst (v := nI 1) hx hb dL_law_1511 (by decide) ?_
    refine lv_iadd hx hb dL_law_1512 ?_
    refine lv_cv (nI_add i 1) ?_
    refine va_sld hx hb hX hbl hbA hS (vp_in_nI (n := i + 1) (N := L) (by omega) (by omega)) dL_law_1513 ?_
    refine lv_cv e1 ?_
    refine lv_aload_n hx hb dL_law_1514 rfl (lv_at hl 0 rfl) ?_
    refine lv_iload hx hb dL_law_1515 (lv_at hl 4 rfl) ?_
    refine lv_iconst (v := nI 2) hx hb dL_law_1517 (by decide) ?_
    refine lv_iadd hx hb dL_law_1518 ?_
    refine lv_cv (nI_add i 2) ?_
    refine va_sld hx hb hX hbl hbA hS (vp_in_nI (n := i + 2) (N := L) (by omega) (by omega)) dL_law_1519 ?_
    refine lv_cv e2 ?_
    refine lv_aload_n hx hb dL_law_1520 rfl (lv_at hl 0 rfl) ?_
    refine lv_iload hx hb dL_law_1521 (lv_at hl 4 rfl) ?_
    refine lv_iconst (v := nI 3) hx hb dL_law_1523 (by decide) ?_
    refine lv_iadd hx hb dL_law_1524 ?_
    refine lv_cv (nI_add i 3) ?_
    refine va_sld hx hb hX hbl hbA hS (vp_in_nI (n := i + 3) (N := L) (by omega) (by omega)) dL_law_1525 ?_
    refine lv_cv e3 ?_
    refine lv_if_eq (tgt := 1533) hx hb dL_law_1526 (by decide) (fun c_32 => ?_) (fun c_32 => ?_)
    · refine lv_iconst (v := nI 0) hx hb dL_law_1533 (by decide) ?_
      refine lv_aload_n hx hb dL_law_1534 rfl (lv_at hl 3 rfl) ?_
      refine qI_SW (A := A0f s.heap.size) (A1 := (A1f SA out H.size)) (As := [.ref (SA 0), .int y1, .int y2, .int (bI false), .ref out]) (rest := []) ⟨hx, hb, hml, hown, hts⟩ (mL_begins (A := (A1f SA out H.size)) hst (out := out) (SA := SA) (X := X) (es := es) (k := k) (fun i hi => Or.inl ⟨i, hi, rfl⟩) (Or.inr (Or.inl rfl)) hSo) (vx_cwSW 5 hts (gSW tw_4_54 tw_4_55 tw_1_0 cw_begins) rfl rfl rfl (by decide +kernel) ⟨Nat.le_of_ble_eq_true rfl, Nat.le_of_ble_eq_true rfl⟩) hC hS (A1f_in hSA hout hS.1) (fun q h => Or.inr (Or.inr h)) ⟨hSS, hO⟩ rfl rfl hl.1 (Nat.le_of_ble_eq_true rfl) ⟨Nat.le_trans (by omega) hc, Nat.le_trans (by omega) hs⟩ dL_law_1535 (fun r1 H1 L1 hP hk hS => ?_)
      have h60 := hM.h60
      have he := hM.he
      have hM := MW.kc hK hSS hM hO hk
      have hN : SS G SA X es k H1 ∧ OA G out H1 := by
        rcases hP with ⟨-, v9, H0, hv, hk0, w9, hO1⟩ | ⟨-, -, hS1, hO1⟩ | ⟨-, -, hS1, hO1⟩
        · obtain ⟨_, _, _, -, -, -, -, -, -, hS1⟩ := hv
          exact ⟨hS1.kp hk0 (fun i hi e => hSo i hi e), ⟨_, _, hO1⟩⟩
        · exact ⟨hS1, hO1⟩
        · exact ⟨hS1, hO1⟩
      obtain ⟨hSS, hO⟩ := hN
      refine lv_istore (lv' := [(5, .int r1), (0, .ref b), (1, .ref (SA 0)), (2, .ref am), (3, .ref out), (4, .int (nI i))]) hx hb dL_law_1538 hl (by decide) rfl (fun ls hl => ?_)
      refine lv_aload_n hx hb dL_law_1540 rfl (lv_at hl 3 rfl) ?_
      refine lv_aload_n hx hb dL_law_1541 rfl (lv_at hl 1 rfl) ?_
      refine lv_iload hx hb dL_law_1542 (lv_at hl 5 rfl) ?_
      refine lv_iconst (v := nI 1) hx hb dL_law_1544 (by decide) ?_
      refine lv_iadd hx hb dL_law_1545 ?_
      refine lv_cv (nI_add i 1) ?_
      refine va_sld hx hb hX hbl hbA hS (vp_in_nI (n := i + 1) (N := L) (by omega) (by omega)) dL_law_1546 ?_
      refine lv_cv e1 ?_
      refine lv_aload_n hx hb dL_law_1547 rfl (lv_at hl 1 rfl) ?_
      refine lv_iload hx hb dL_law_1548 (lv_at hl 5 rfl) ?_
      refine lv_iconst (v := nI 2) hx hb dL_law_1550 (by decide) ?_
      refine lv_iadd hx hb dL_law_1551 ?_
      refine lv_cv (nI_add i 2) ?_
      refine va_sld hx hb hX hbl hbA hS (vp_in_nI (n := i + 2) (N := L) (by omega) (by omega)) dL_law_1552 ?_
      refine lv_cv e2 ?_
      refine lv_aload_n hx hb dL_law_1553 rfl (lv_at hl 1 rfl) ?_
      refine lv_iload hx hb dL_law_1554 (lv_at hl 5 rfl) ?_
      refine lv_iconst (v := nI 3) hx hb dL_law_1556 (by decide) ?_
      refine lv_iadd hx hb dL_law_1557 ?_
      refine lv_cv (nI_add i 3) ?_
      refine va_sld hx hb hX hbl hbA hS (vp_in_nI (n := i + 3) (N := L) (by omega) (by omega)) dL_law_1558 ?_
      refine lv_cv e3 ?_
      refine lv_if_eq (tgt := 1566) hx hb dL_law_1559 (by decide) (fun c_33 => ?_) (fun c_33 => ?_)
      · refine lv_iconst (v := nI 0) hx hb dL_law_1566 (by decide) ?_
        refine qI_V (A := A0f s.heap.size) (A1 := (A2f s.heap.size SA out)) (b := am) (As := [.int y1, .int y2, .int (bI false)]) (rest := []) ⟨hx, hb, hml, hown, hts⟩ (mX4_begins (A := (A2f s.heap.size SA out)) (am := am) (xa := xa) (X := X) (P := pcL (X 14) es) (k := k) (th := th)) (cwV 3 hts (gV tw_6_192 tw_6_193 tw_6_194 tw_1_8 tw_6_195) rfl rfl rfl (by decide +kernel) ⟨Nat.le_of_ble_eq_true rfl, Nat.le_of_ble_eq_true rfl⟩) hC hS (fun q h => h.1) (A2f_new hSS hO hS.1) (hM.recv hK) hM rfl rfl hl.1 (Nat.le_of_ble_eq_true rfl) ⟨Nat.le_trans (by omega) hc, Nat.le_trans (by omega) hs⟩ dL_law_1567 (fun r2 H2 L2 hP hk hS => ?_)
        have hSS := hSS.kp hk (fun i hi h => h.2.1 i hi rfl)
        have hO := hO.kp hk (fun h => h.2.2 rfl)
        have hM2 : ∃ th, MW G (A2f s.heap.size SA out) am xa X (pcL (X 14) es) k th H2 := by
          rcases hP with ⟨-, -, h9⟩ | ⟨-, -, h9⟩ | ⟨_, _, _, -, -, -, -, -, -, h9⟩
          · exact ⟨_, h9⟩
          · exact ⟨_, h9⟩
          · exact ⟨_, h9⟩
        refine lv_istore (lv' := [(6, .int r2), (5, .int r1), (0, .ref b), (1, .ref (SA 0)), (2, .ref am), (3, .ref out), (4, .int (nI i))]) hx hb dL_law_1570 hl (by decide) rfl (fun ls hl => ?_)
        refine lv_goto (tgt := 2115) hx hb dL_law_1572 (by decide) ?_
        refine W.widen (k := cells + 140) (n := slots + 9600) (by omega) (by omega) ?_
        exact kk k H2 L2 ls ⟨_, _, hSS, hM2, hO⟩ hS (lv_sub hl [2, 3, 4, 5, 6] rfl)
      · exact absurd hz3 c_33
    · exact absurd hz3 c_32
  · refine lv_aload_n hx hb dL_law_1507 rfl (lv_at hl 1 rfl) ?_
    refine lv_aload_n hx hb dL_law_1508 rfl (lv_at hl 0 rfl) ?_
    refine lv_iload hx hb dL_law_1509 (lv_at hl 4 rfl) ?_
    refine lv_iconst (v := nI 1) hx hb dL_law_1511 (by decide) ?_
    refine lv_iadd hx hb dL_law_1512 ?_
    refine lv_cv (nI_add i 1) ?_
    refine va_sld hx hb hX hbl hbA hS (vp_in_nI (n := i + 1) (N := L) (by omega) (by omega)) dL_law_1513 ?_
    refine lv_cv e1 ?_
    refine lv_aload_n hx hb dL_law_1514 rfl (lv_at hl 0 rfl) ?_
    refine lv_iload hx hb dL_law_1515 (lv_at hl 4 rfl) ?_
    refine lv_iconst (v := nI 2) hx hb dL_law_1517 (by decide) ?_
    refine lv_iadd hx hb dL_law_1518 ?_
    refine lv_cv (nI_add i 2) ?_
    refine va_sld hx hb hX hbl hbA hS (vp_in_nI (n := i + 2) (N := L) (by omega) (by omega)) dL_law_1519 ?_
    refine lv_cv e2 ?_
    refine lv_aload_n hx hb dL_law_1520 rfl (lv_at hl 0 rfl) ?_
    refine lv_iload hx hb dL_law_1521 (lv_at hl 4 rfl) ?_
    refine lv_iconst (v := nI 3) hx hb dL_law_1523 (by decide) ?_
    refine lv_iadd hx hb dL_law_1524 ?_
    refine lv_cv (nI_add i 3) ?_
    refine va_sld hx hb hX hbl hbA hS (vp_in_nI (n := i + 3) (N := L) (by omega) (by omega)) dL_law_1525 ?_
    refine lv_cv e3 ?_
    refine lv_if_eq (tgt := 1533) hx hb dL_law_1526 (by decide) (fun c_34 => ?_) (fun c_34 => ?_)
    · exact absurd c_34 hz3
    · refine lv_iconst (v := nI 1) hx hb dL_law_1529 (by decide) ?_
      refine lv_goto (tgt := 1534) hx hb dL_law_1530 (by decide) ?_
      refine lv_aload_n hx hb dL_law_1534 rfl (lv_at hl 3 rfl) ?_
      refine qI_SW (A := A0f s.heap.size) (A1 := (A1f SA out H.size)) (As := [.ref (SA 0), .int y1, .int y2, .int (bI true), .ref out]) (rest := []) ⟨hx, hb, hml, hown, hts⟩ (mL_begins (A := (A1f SA out H.size)) hst (out := out) (SA := SA) (X := X) (es := es) (k := k) (fun i hi => Or.inl ⟨i, hi, rfl⟩) (Or.inr (Or.inl rfl)) hSo) (vx_cwSW 5 hts (gSW tw_4_54 tw_4_55 tw_1_0 cw_begins) rfl rfl rfl (by decide +kernel) ⟨Nat.le_of_ble_eq_true rfl, Nat.le_of_ble_eq_true rfl⟩) hC hS (A1f_in hSA hout hS.1) (fun q h => Or.inr (Or.inr h)) ⟨hSS, hO⟩ rfl rfl hl.1 (Nat.le_of_ble_eq_true rfl) ⟨Nat.le_trans (by omega) hc, Nat.le_trans (by omega) hs⟩ dL_law_1535 (fun r1 H1 L1 hP hk hS => ?_)
      have h60 := hM.h60
      have he := hM.he
      have hM := MW.kc hK hSS hM hO hk
      have hN : SS G SA X es k H1 ∧ OA G out H1 := by
        rcases hP with ⟨-, v9, H0, hv, hk0, w9, hO1⟩ | ⟨-, -, hS1, hO1⟩ | ⟨-, -, hS1, hO1⟩
        · obtain ⟨_, _, _, -, -, -, -, -, -, hS1⟩ := hv
          exact ⟨hS1.kp hk0 (fun i hi e => hSo i hi e), ⟨_, _, hO1⟩⟩
        · exact ⟨hS1, hO1⟩
        · exact ⟨hS1, hO1⟩
      obtain ⟨hSS, hO⟩ := hN
      refine lv_istore (lv' := [(5, .int r1), (0, .ref b), (1, .ref (SA 0)), (2, .ref am), (3, .ref out), (4, .int (nI i))]) hx hb dL_law_1538 hl (by decide) rfl (fun ls hl => ?_)
      refine lv_aload_n hx hb dL_law_1540 rfl (lv_at hl 3 rfl) ?_
      refine lv_aload_n hx hb dL_law_1541 rfl (lv_at hl 1 rfl) ?_
      refine lv_iload hx hb dL_law_1542 (lv_at hl 5 rfl) ?_
      refine lv_iconst (v := nI 1) hx hb dL_law_1544 (by decide) ?_
      refine lv_iadd hx hb dL_law_1545 ?_
      refine lv_cv (nI_add i 1) ?_
      refine va_sld hx hb hX hbl hbA hS (vp_in_nI (n := i + 1) (N := L) (by omega) (by omega)) dL_law_1546 ?_
      refine lv_cv e1 ?_
      refine lv_aload_n hx hb dL_law_1547 rfl (lv_at hl 1 rfl) ?_
      refine lv_iload hx hb dL_law_1548 (lv_at hl 5 rfl) ?_
      refine lv_iconst (v := nI 2) hx hb dL_law_1550 (by decide) ?_
      refine lv_iadd hx hb dL_law_1551 ?_
      refine lv_cv (nI_add i 2) ?_
      refine va_sld hx hb hX hbl hbA hS (vp_in_nI (n := i + 2) (N := L) (by omega) (by omega)) dL_law_1552 ?_
      refine lv_cv e2 ?_
      refine lv_aload_n hx hb dL_law_1553 rfl (lv_at hl 1 rfl) ?_
      refine lv_iload hx hb dL_law_1554 (lv_at hl 5 rfl) ?_
      refine lv_iconst (v := nI 3) hx hb dL_law_1556 (by decide) ?_
      refine lv_iadd hx hb dL_law_1557 ?_
      refine lv_cv (nI_add i 3) ?_
      refine va_sld hx hb hX hbl hbA hS (vp_in_nI (n := i + 3) (N := L) (by omega) (by omega)) dL_law_1558 ?_
      refine lv_cv e3 ?_
      refine lv_if_eq (tgt := 1566) hx hb dL_law_1559 (by decide) (fun c_35 => ?_) (fun c_35 => ?_)
      · exact absurd c_35 hz3
      · refine lv_iconst (v := nI 1) hx hb dL_law_1562 (by decide) ?_
        refine lv_goto (tgt := 1567) hx hb dL_law_1563 (by decide) ?_
        refine qI_V (A := A0f s.heap.size) (A1 := (A2f s.heap.size SA out)) (b := am) (As := [.int y1, .int y2, .int (bI true)]) (rest := []) ⟨hx, hb, hml, hown, hts⟩ (mX4_begins (A := (A2f s.heap.size SA out)) (am := am) (xa := xa) (X := X) (P := pcL (X 14) es) (k := k) (th := th)) (cwV 3 hts (gV tw_6_192 tw_6_193 tw_6_194 tw_1_8 tw_6_195) rfl rfl rfl (by decide +kernel) ⟨Nat.le_of_ble_eq_true rfl, Nat.le_of_ble_eq_true rfl⟩) hC hS (fun q h => h.1) (A2f_new hSS hO hS.1) (hM.recv hK) hM rfl rfl hl.1 (Nat.le_of_ble_eq_true rfl) ⟨Nat.le_trans (by omega) hc, Nat.le_trans (by omega) hs⟩ dL_law_1567 (fun r2 H2 L2 hP hk hS => ?_)
        have hSS := hSS.kp hk (fun i hi h => h.2.1 i hi rfl)
        have hO := hO.kp hk (fun h => h.2.2 rfl)
        have hM2 : ∃ th, MW G (A2f s.heap.size SA out) am xa X (pcL (X 14) es) k th H2 := by
          rcases hP with ⟨-, -, h9⟩ | ⟨-, -, h9⟩ | ⟨_, _, _, -, -, -, -, -, -, h9⟩
          · exact ⟨_, h9⟩
          · exact ⟨_, h9⟩
          · exact ⟨_, h9⟩
        refine lv_istore (lv' := [(6, .int r2), (5, .int r1), (0, .ref b), (1, .ref (SA 0)), (2, .ref am), (3, .ref out), (4, .int (nI i))]) hx hb dL_law_1570 hl (by decide) rfl (fun ls hl => ?_)
        refine lv_goto (tgt := 2115) hx hb dL_law_1572 (by decide) ?_
        refine W.widen (k := cells + 140) (n := slots + 9600) (by omega) (by omega) ?_
        exact kk k H2 L2 ls ⟨_, _, hSS, hM2, hO⟩ hS (lv_sub hl [2, 3, 4, 5, 6] rfl)

theorem lc_stands {p : Program} {l : Launch} {e : Env} {s : State} {m : MethodId} {below : List Frame} {meth : Method} {c : Code} {b L : Nat} {xs : Nat → Int32} {G : Cx} {SA : Nat → Nat} {am xa out : Nat} (Z : LX p l e s m meth c b L xs G SA out) : LStep p l e s m below meth c b L G SA am xa out 1575 := by
  intro k H locs cells slots i ls Q hI hS hi hc hs hl kk
  obtain ⟨hx, hb, hml, hown, hts, hC, hX, hbl, hL, hst, hSA, hSo, hout⟩ := Z
  have hK := hC.1
  have hA : ∀ q : Nat, s.heap.size ≤ q → A0f s.heap.size q := fun q h => h
  have hbA : ¬ A0f s.heap.size b := Nat.not_le_of_lt hbl
  obtain ⟨X, es, hSS, ⟨th, hM⟩, hO⟩ := hI
  obtain ⟨y1, e1⟩ : ∃ y, xs (nI (i + 1)).toNatClampNeg = y := ⟨_, rfl⟩
  obtain ⟨y2, e2⟩ : ∃ y, xs (nI (i + 2)).toNatClampNeg = y := ⟨_, rfl⟩
  obtain ⟨y3, e3⟩ : ∃ y, xs (nI (i + 3)).toNatClampNeg = y := ⟨_, rfl⟩
  obtain ⟨y4, e4⟩ : ∃ y, xs (nI (i + 4)).toNatClampNeg = y := ⟨_, rfl⟩
  by_cases hz4 : y4 = 0
  · refine lv_aload_n hx hb dL_law_1575 rfl (lv_at hl 1 rfl) ?_
    refine lv_aload_n hx hb dL_law_1576 rfl (lv_at hl 0 rfl) ?_
    refine lv_iload hx hb dL_law_1577 (lv_at hl 4 rfl) ?_
    refine lv_iconst (v := nI 1) hx hb dL_law_1579 (by decide) ?_
    refine lv_iadd hx hb dL_law_1580 ?_
    refine lv_cv (nI_add i 1) ?_
    refine va_sld hx hb hX hbl hbA hS (vp_in_nI (n := i + 1) (N := L) (by omega) (by omega)) dL_law_1581 ?_
    refine lv_cv e1 ?_
    refine lv_aload_n hx hb dL_law_1582 rfl (lv_at hl 0 rfl) ?_
    refine lv_iload hx hb dL_law_1583 (lv_at hl 4 rfl) ?_
    refine lv_iconst (v := nI 2) hx hb dL_law_1585 (by decide) ?_
    refine lv_iadd hx hb dL_law_1586 ?_
    refine lv_cv (nI_add i 2) ?_
    refine va_sld hx hb hX hbl hbA hS (vp_in_nI (n := i + 2) (N := L) (by omega) (by omega)) dL_law_1587 ?_
    refine lv_cv e2 ?_
    refine lv_aload_n hx hb dL_law_1588 rfl (lv_at hl 0 rfl) ?_
    refine lv_iload hx hb dL_law_1589 (lv_at hl 4 rfl) ?_
    refine lv_iconst (v := nI 3) hx hb dL_law_1591 (by decide) ?_
    refine lv_iadd hx hb dL_law_1592 ?_
    refine lv_cv (nI_add i 3) ?_
    refine va_sld hx hb hX hbl hbA hS (vp_in_nI (n := i + 3) (N := L) (by omega) (by omega)) dL_law_1593 ?_
    refine lv_cv e3 ?_
    refine lv_aload_n hx hb dL_law_1594 rfl (lv_at hl 0 rfl) ?_
    refine lv_iload hx hb dL_law_1595 (lv_at hl 4 rfl) ?_
    refine lv_iconst (v := nI 4) hx hb dL_law_1597 (by decide) ?_
    refine lv_iadd hx hb dL_law_1598 ?_
    refine lv_cv (nI_add i 4) ?_
    refine va_sld hx hb hX hbl hbA hS (vp_in_nI (n := i + 4) (N := L) (by omega) (by omega)) dL_law_1599 ?_
    refine lv_cv e4 ?_
    refine lv_if_eq (tgt := 1607) hx hb dL_law_1600 (by decide) (fun c_36 => ?_) (fun c_36 => ?_)
    · refine lv_iconst (v := nI 0) hx hb dL_law_1607 (by decide) ?_
      refine lv_aload_n hx hb dL_law_1608 rfl (lv_at hl 3 rfl) ?_
      refine qI_SW (A := A0f s.heap.size) (A1 := (A1f SA out H.size)) (As := [.ref (SA 0), .int y1, .int y2, .int y3, .int (bI false), .ref out]) (rest := []) ⟨hx, hb, hml, hown, hts⟩ (mL_stands (A := (A1f SA out H.size)) hst (out := out) (SA := SA) (X := X) (es := es) (k := k) (fun i hi => Or.inl ⟨i, hi, rfl⟩) (Or.inr (Or.inl rfl)) hSo) (vx_cwSW 6 hts (gSW tw_4_61 tw_4_62 tw_1_0 cw_stands) rfl rfl rfl (by decide +kernel) ⟨Nat.le_of_ble_eq_true rfl, Nat.le_of_ble_eq_true rfl⟩) hC hS (A1f_in hSA hout hS.1) (fun q h => Or.inr (Or.inr h)) ⟨hSS, hO⟩ rfl rfl hl.1 (Nat.le_of_ble_eq_true rfl) ⟨Nat.le_trans (by omega) hc, Nat.le_trans (by omega) hs⟩ dL_law_1609 (fun r1 H1 L1 hP hk hS => ?_)
      have h60 := hM.h60
      have he := hM.he
      have hM := MW.kc hK hSS hM hO hk
      have hN : SS G SA X es k H1 ∧ OA G out H1 := by
        rcases hP with ⟨-, v9, H0, hv, hk0, w9, hO1⟩ | ⟨-, -, hS1, hO1⟩ | ⟨-, -, hS1, hO1⟩
        · obtain ⟨_, _, _, -, -, -, -, -, -, hS1⟩ := hv
          exact ⟨hS1.kp hk0 (fun i hi e => hSo i hi e), ⟨_, _, hO1⟩⟩
        · exact ⟨hS1, hO1⟩
        · exact ⟨hS1, hO1⟩
      obtain ⟨hSS, hO⟩ := hN
      refine lv_istore (lv' := [(5, .int r1), (0, .ref b), (1, .ref (SA 0)), (2, .ref am), (3, .ref out), (4, .int (nI i))]) hx hb dL_law_1612 hl (by decide) rfl (fun ls hl => ?_)
      refine lv_aload_n hx hb dL_law_1614 rfl (lv_at hl 3 rfl) ?_
      refine lv_aload_n hx hb dL_law_1615 rfl (lv_at hl 1 rfl) ?_
      refine lv_iload hx hb dL_law_1616 (lv_at hl 5 rfl) ?_
      refine lv_iconst (v := nI 1) hx hb dL_law_1618 (by decide) ?_
      refine lv_iadd hx hb dL_law_1619 ?_
      refine lv_cv (nI_add i 1) ?_
      refine va_sld hx hb hX hbl hbA hS (vp_in_nI (n := i + 1) (N := L) (by omega) (by omega)) dL_law_1620 ?_
      refine lv_cv e1 ?_
      refine lv_aload_n hx hb dL_law_1621 rfl (lv_at hl 1 rfl) ?_
      refine lv_iload hx hb dL_law_1622 (lv_at hl 5 rfl) ?_
      refine lv_iconst (v := nI 2) hx hb dL_law_1624 (by decide) ?_
      refine lv_iadd hx hb dL_law_1625 ?_
      refine lv_cv (nI_add i 2) ?_
      refine va_sld hx hb hX hbl hbA hS (vp_in_nI (n := i + 2) (N := L) (by omega) (by omega)) dL_law_1626 ?_
      refine lv_cv e2 ?_
      refine lv_aload_n hx hb dL_law_1627 rfl (lv_at hl 1 rfl) ?_
      refine lv_iload hx hb dL_law_1628 (lv_at hl 5 rfl) ?_
      refine lv_iconst (v := nI 3) hx hb dL_law_1630 (by decide) ?_
      refine lv_iadd hx hb dL_law_1631 ?_
      refine lv_cv (nI_add i 3) ?_
      refine va_sld hx hb hX hbl hbA hS (vp_in_nI (n := i + 3) (N := L) (by omega) (by omega)) dL_law_1632 ?_
      refine lv_cv e3 ?_
      refine lv_aload_n hx hb dL_law_1633 rfl (lv_at hl 1 rfl) ?_
      refine lv_iload hx hb dL_law_1634 (lv_at hl 5 rfl) ?_
      refine lv_iconst (v := nI 4) hx hb dL_law_1636 (by decide) ?_
      refine lv_iadd hx hb dL_law_1637 ?_
      refine lv_cv (nI_add i 4) ?_
      refine va_sld hx hb hX hbl hbA hS (vp_in_nI (n := i + 4) (N := L) (by omega) (by omega)) dL_law_1638 ?_
      refine lv_cv e4 ?_
      refine lv_if_eq (tgt := 1646) hx hb dL_law_1639 (by decide) (fun c_37 => ?_) (fun c_37 => ?_)
      · refine lv_iconst (v := nI 0) hx hb dL_law_1646 (by decide) ?_
        refine qI_V (A := A0f s.heap.size) (A1 := (A2f s.heap.size SA out)) (b := am) (As := [.int y1, .int y2, .int y3, .int (bI false)]) (rest := []) ⟨hx, hb, hml, hown, hts⟩ (mX4_stands_ (A := (A2f s.heap.size SA out)) (am := am) (xa := xa) (X := X) (P := pcL (X 14) es) (k := k) (th := th)) (cwV 4 hts (gV tw_6_196 tw_6_197 tw_6_198 tw_1_8 tw_6_199) rfl rfl rfl (by decide +kernel) ⟨Nat.le_of_ble_eq_true rfl, Nat.le_of_ble_eq_true rfl⟩) hC hS (fun q h => h.1) (A2f_new hSS hO hS.1) (hM.recv hK) hM rfl rfl hl.1 (Nat.le_of_ble_eq_true rfl) ⟨Nat.le_trans (by omega) hc, Nat.le_trans (by omega) hs⟩ dL_law_1647 (fun r2 H2 L2 hP hk hS => ?_)
        have hSS := hSS.kp hk (fun i hi h => h.2.1 i hi rfl)
        have hO := hO.kp hk (fun h => h.2.2 rfl)
        have hM2 : ∃ th, MW G (A2f s.heap.size SA out) am xa X (pcL (X 14) es) k th H2 := by
          rcases hP with ⟨-, -, h9⟩ | ⟨-, -, h9⟩ | ⟨_, _, _, -, -, -, -, -, -, h9⟩
          · exact ⟨_, h9⟩
          · exact ⟨_, h9⟩
          · exact ⟨_, h9⟩
        refine lv_istore (lv' := [(6, .int r2), (5, .int r1), (0, .ref b), (1, .ref (SA 0)), (2, .ref am), (3, .ref out), (4, .int (nI i))]) hx hb dL_law_1650 hl (by decide) rfl (fun ls hl => ?_)
        refine lv_goto (tgt := 2115) hx hb dL_law_1652 (by decide) ?_
        refine W.widen (k := cells + 140) (n := slots + 9600) (by omega) (by omega) ?_
        exact kk k H2 L2 ls ⟨_, _, hSS, hM2, hO⟩ hS (lv_sub hl [2, 3, 4, 5, 6] rfl)
      · exact absurd hz4 c_37
    · exact absurd hz4 c_36
  · refine lv_aload_n hx hb dL_law_1575 rfl (lv_at hl 1 rfl) ?_
    refine lv_aload_n hx hb dL_law_1576 rfl (lv_at hl 0 rfl) ?_
    refine lv_iload hx hb dL_law_1577 (lv_at hl 4 rfl) ?_
    refine lv_iconst (v := nI 1) hx hb dL_law_1579 (by decide) ?_
    refine lv_iadd hx hb dL_law_1580 ?_
    refine lv_cv (nI_add i 1) ?_
    refine va_sld hx hb hX hbl hbA hS (vp_in_nI (n := i + 1) (N := L) (by omega) (by omega)) dL_law_1581 ?_
    refine lv_cv e1 ?_
    refine lv_aload_n hx hb dL_law_1582 rfl (lv_at hl 0 rfl) ?_
    refine lv_iload hx hb dL_law_1583 (lv_at hl 4 rfl) ?_
    refine lv_iconst (v := nI 2) hx hb dL_law_1585 (by decide) ?_
    refine lv_iadd hx hb dL_law_1586 ?_
    refine lv_cv (nI_add i 2) ?_
    refine va_sld hx hb hX hbl hbA hS (vp_in_nI (n := i + 2) (N := L) (by omega) (by omega)) dL_law_1587 ?_
    refine lv_cv e2 ?_
    refine lv_aload_n hx hb dL_law_1588 rfl (lv_at hl 0 rfl) ?_
    refine lv_iload hx hb dL_law_1589 (lv_at hl 4 rfl) ?_
    refine lv_iconst (v := nI 3) hx hb dL_law_1591 (by decide) ?_
    refine lv_iadd hx hb dL_law_1592 ?_
    refine lv_cv (nI_add i 3) ?_
    refine va_sld hx hb hX hbl hbA hS (vp_in_nI (n := i + 3) (N := L) (by omega) (by omega)) dL_law_1593 ?_
    refine lv_cv e3 ?_
    refine lv_aload_n hx hb dL_law_1594 rfl (lv_at hl 0 rfl) ?_
    refine lv_iload hx hb dL_law_1595 (lv_at hl 4 rfl) ?_
    refine lv_iconst (v := nI 4) hx hb dL_law_1597 (by decide) ?_
    refine lv_iadd hx hb dL_law_1598 ?_
    refine lv_cv (nI_add i 4) ?_
    refine va_sld hx hb hX hbl hbA hS (vp_in_nI (n := i + 4) (N := L) (by omega) (by omega)) dL_law_1599 ?_
    refine lv_cv e4 ?_
    refine lv_if_eq (tgt := 1607) hx hb dL_law_1600 (by decide) (fun c_38 => ?_) (fun c_38 => ?_)
    · exact absurd c_38 hz4
    · refine lv_iconst (v := nI 1) hx hb dL_law_1603 (by decide) ?_
      refine lv_goto (tgt := 1608) hx hb dL_law_1604 (by decide) ?_
      refine lv_aload_n hx hb dL_law_1608 rfl (lv_at hl 3 rfl) ?_
      refine qI_SW (A := A0f s.heap.size) (A1 := (A1f SA out H.size)) (As := [.ref (SA 0), .int y1, .int y2, .int y3, .int (bI true), .ref out]) (rest := []) ⟨hx, hb, hml, hown, hts⟩ (mL_stands (A := (A1f SA out H.size)) hst (out := out) (SA := SA) (X := X) (es := es) (k := k) (fun i hi => Or.inl ⟨i, hi, rfl⟩) (Or.inr (Or.inl rfl)) hSo) (vx_cwSW 6 hts (gSW tw_4_61 tw_4_62 tw_1_0 cw_stands) rfl rfl rfl (by decide +kernel) ⟨Nat.le_of_ble_eq_true rfl, Nat.le_of_ble_eq_true rfl⟩) hC hS (A1f_in hSA hout hS.1) (fun q h => Or.inr (Or.inr h)) ⟨hSS, hO⟩ rfl rfl hl.1 (Nat.le_of_ble_eq_true rfl) ⟨Nat.le_trans (by omega) hc, Nat.le_trans (by omega) hs⟩ dL_law_1609 (fun r1 H1 L1 hP hk hS => ?_)
      have h60 := hM.h60
      have he := hM.he
      have hM := MW.kc hK hSS hM hO hk
      have hN : SS G SA X es k H1 ∧ OA G out H1 := by
        rcases hP with ⟨-, v9, H0, hv, hk0, w9, hO1⟩ | ⟨-, -, hS1, hO1⟩ | ⟨-, -, hS1, hO1⟩
        · obtain ⟨_, _, _, -, -, -, -, -, -, hS1⟩ := hv
          exact ⟨hS1.kp hk0 (fun i hi e => hSo i hi e), ⟨_, _, hO1⟩⟩
        · exact ⟨hS1, hO1⟩
        · exact ⟨hS1, hO1⟩
      obtain ⟨hSS, hO⟩ := hN
      refine lv_istore (lv' := [(5, .int r1), (0, .ref b), (1, .ref (SA 0)), (2, .ref am), (3, .ref out), (4, .int (nI i))]) hx hb dL_law_1612 hl (by decide) rfl (fun ls hl => ?_)
      refine lv_aload_n hx hb dL_law_1614 rfl (lv_at hl 3 rfl) ?_
      refine lv_aload_n hx hb dL_law_1615 rfl (lv_at hl 1 rfl) ?_
      refine lv_iload hx hb dL_law_1616 (lv_at hl 5 rfl) ?_
      refine lv_iconst (v := nI 1) hx hb dL_law_1618 (by decide) ?_
      refine lv_iadd hx hb dL_law_1619 ?_
      refine lv_cv (nI_add i 1) ?_
      refine va_sld hx hb hX hbl hbA hS (vp_in_nI (n := i + 1) (N := L) (by omega) (by omega)) dL_law_1620 ?_
      refine lv_cv e1 ?_
      refine lv_aload_n hx hb dL_law_1621 rfl (lv_at hl 1 rfl) ?_
      refine lv_iload hx hb dL_law_1622 (lv_at hl 5 rfl) ?_
      refine lv_iconst (v := nI 2) hx hb dL_law_1624 (by decide) ?_
      refine lv_iadd hx hb dL_law_1625 ?_
      refine lv_cv (nI_add i 2) ?_
      refine va_sld hx hb hX hbl hbA hS (vp_in_nI (n := i + 2) (N := L) (by omega) (by omega)) dL_law_1626 ?_
      refine lv_cv e2 ?_
      refine lv_aload_n hx hb dL_law_1627 rfl (lv_at hl 1 rfl) ?_
      refine lv_iload hx hb dL_law_1628 (lv_at hl 5 rfl) ?_
      refine lv_iconst (v := nI 3) hx hb dL_law_1630 (by decide) ?_
      refine lv_iadd hx hb dL_law_1631 ?_
      refine lv_cv (nI_add i 3) ?_
      refine va_sld hx hb hX hbl hbA hS (vp_in_nI (n := i + 3) (N := L) (by omega) (by omega)) dL_law_1632 ?_
      refine lv_cv e3 ?_
      refine lv_aload_n hx hb dL_law_1633 rfl (lv_at hl 1 rfl) ?_
      refine lv_iload hx hb dL_law_1634 (lv_at hl 5 rfl) ?_
      refine lv_iconst (v := nI 4) hx hb dL_law_1636 (by decide) ?_
      refine lv_iadd hx hb dL_law_1637 ?_
      refine lv_cv (nI_add i 4) ?_
      refine va_sld hx hb hX hbl hbA hS (vp_in_nI (n := i + 4) (N := L) (by omega) (by omega)) dL_law_1638 ?_
      refine lv_cv e4 ?_
      refine lv_if_eq (tgt := 1646) hx hb dL_law_1639 (by decide) (fun c_39 => ?_) (fun c_39 => ?_)
      · exact absurd c_39 hz4
      · refine lv_iconst (v := nI 1) hx hb dL_law_1642 (by decide) ?_
        refine lv_goto (tgt := 1647) hx hb dL_law_1643 (by decide) ?_
        refine qI_V (A := A0f s.heap.size) (A1 := (A2f s.heap.size SA out)) (b := am) (As := [.int y1, .int y2, .int y3, .int (bI true)]) (rest := []) ⟨hx, hb, hml, hown, hts⟩ (mX4_stands_ (A := (A2f s.heap.size SA out)) (am := am) (xa := xa) (X := X) (P := pcL (X 14) es) (k := k) (th := th)) (cwV 4 hts (gV tw_6_196 tw_6_197 tw_6_198 tw_1_8 tw_6_199) rfl rfl rfl (by decide +kernel) ⟨Nat.le_of_ble_eq_true rfl, Nat.le_of_ble_eq_true rfl⟩) hC hS (fun q h => h.1) (A2f_new hSS hO hS.1) (hM.recv hK) hM rfl rfl hl.1 (Nat.le_of_ble_eq_true rfl) ⟨Nat.le_trans (by omega) hc, Nat.le_trans (by omega) hs⟩ dL_law_1647 (fun r2 H2 L2 hP hk hS => ?_)
        have hSS := hSS.kp hk (fun i hi h => h.2.1 i hi rfl)
        have hO := hO.kp hk (fun h => h.2.2 rfl)
        have hM2 : ∃ th, MW G (A2f s.heap.size SA out) am xa X (pcL (X 14) es) k th H2 := by
          rcases hP with ⟨-, -, h9⟩ | ⟨-, -, h9⟩ | ⟨_, _, _, -, -, -, -, -, -, h9⟩
          · exact ⟨_, h9⟩
          · exact ⟨_, h9⟩
          · exact ⟨_, h9⟩
        refine lv_istore (lv' := [(6, .int r2), (5, .int r1), (0, .ref b), (1, .ref (SA 0)), (2, .ref am), (3, .ref out), (4, .int (nI i))]) hx hb dL_law_1650 hl (by decide) rfl (fun ls hl => ?_)
        refine lv_goto (tgt := 2115) hx hb dL_law_1652 (by decide) ?_
        refine W.widen (k := cells + 140) (n := slots + 9600) (by omega) (by omega) ?_
        exact kk k H2 L2 ls ⟨_, _, hSS, hM2, hO⟩ hS (lv_sub hl [2, 3, 4, 5, 6] rfl)

theorem lc_firstOf {p : Program} {l : Launch} {e : Env} {s : State} {m : MethodId} {below : List Frame} {meth : Method} {c : Code} {b L : Nat} {xs : Nat → Int32} {G : Cx} {SA : Nat → Nat} {am xa out : Nat} (Z : LX p l e s m meth c b L xs G SA out) : LStep p l e s m below meth c b L G SA am xa out 1655 := by
  intro k H locs cells slots i ls Q hI hS hi hc hs hl kk
  obtain ⟨hx, hb, hml, hown, hts, hC, hX, hbl, hL, hst, hSA, hSo, hout⟩ := Z
  have hK := hC.1
  have hA : ∀ q : Nat, s.heap.size ≤ q → A0f s.heap.size q := fun q h => h
  have hbA : ¬ A0f s.heap.size b := Nat.not_le_of_lt hbl
  obtain ⟨X, es, hSS, ⟨th, hM⟩, hO⟩ := hI
  obtain ⟨y1, e1⟩ : ∃ y, xs (nI (i + 1)).toNatClampNeg = y := ⟨_, rfl⟩
  obtain ⟨y2, e2⟩ : ∃ y, xs (nI (i + 2)).toNatClampNeg = y := ⟨_, rfl⟩
  refine lv_aload_n hx hb dL_law_1655 rfl (lv_at hl 1 rfl) ?_
  refine lv_aload_n hx hb dL_law_1656 rfl (lv_at hl 0 rfl) ?_
  refine lv_iload hx hb dL_law_1657 (lv_at hl 4 rfl) ?_
  refine lv_iconst (v := nI 1) hx hb dL_law_1659 (by decide) ?_
  refine lv_iadd hx hb dL_law_1660 ?_
  refine lv_cv (nI_add i 1) ?_
  refine va_sld hx hb hX hbl hbA hS (vp_in_nI (n := i + 1) (N := L) (by omega) (by omega)) dL_law_1661 ?_
  refine lv_cv e1 ?_
  refine lv_aload_n hx hb dL_law_1662 rfl (lv_at hl 0 rfl) ?_
  refine lv_iload hx hb dL_law_1663 (lv_at hl 4 rfl) ?_
  refine lv_iconst (v := nI 2) hx hb dL_law_1665 (by decide) ?_
  refine lv_iadd hx hb dL_law_1666 ?_
  refine lv_cv (nI_add i 2) ?_
  refine va_sld hx hb hX hbl hbA hS (vp_in_nI (n := i + 2) (N := L) (by omega) (by omega)) dL_law_1667 ?_
  refine lv_cv e2 ?_
  refine lv_aload_n hx hb dL_law_1668 rfl (lv_at hl 3 rfl) ?_
  refine qI_SW (A := A0f s.heap.size) (A1 := (A1f SA out H.size)) (As := [.ref (SA 0), .int y1, .int y2, .ref out]) (rest := []) ⟨hx, hb, hml, hown, hts⟩ (mL_firstOf (A := (A1f SA out H.size)) hst (out := out) (SA := SA) (X := X) (es := es) (k := k) (fun i hi => Or.inl ⟨i, hi, rfl⟩) (Or.inr (Or.inl rfl)) hSo) (vx_cwSW 4 hts (gSW tw_4_68 tw_4_69 tw_1_0 cw_firstOf) rfl rfl rfl (by decide +kernel) ⟨Nat.le_of_ble_eq_true rfl, Nat.le_of_ble_eq_true rfl⟩) hC hS (A1f_in hSA hout hS.1) (fun q h => Or.inr (Or.inr h)) ⟨hSS, hO⟩ rfl rfl hl.1 (Nat.le_of_ble_eq_true rfl) ⟨Nat.le_trans (by omega) hc, Nat.le_trans (by omega) hs⟩ dL_law_1669 (fun r1 H1 L1 hP hk hS => ?_)
  have h60 := hM.h60
  have he := hM.he
  have hM := MW.kc hK hSS hM hO hk
  have hN : SS G SA X es k H1 ∧ OA G out H1 := by
    rcases hP with ⟨-, v9, H0, hv, hk0, w9, hO1⟩ | ⟨-, -, hS1, hO1⟩
    · obtain ⟨_, _, -, -, -, -, -, hS1⟩ := hv
      exact ⟨hS1.kp hk0 (fun i hi e => hSo i hi e), ⟨_, _, hO1⟩⟩
    · exact ⟨hS1, hO1⟩
  obtain ⟨hSS, hO⟩ := hN
  refine lv_istore (lv' := [(5, .int r1), (0, .ref b), (1, .ref (SA 0)), (2, .ref am), (3, .ref out), (4, .int (nI i))]) hx hb dL_law_1672 hl (by decide) rfl (fun ls hl => ?_)
  refine lv_aload_n hx hb dL_law_1674 rfl (lv_at hl 3 rfl) ?_
  refine lv_aload_n hx hb dL_law_1675 rfl (lv_at hl 1 rfl) ?_
  refine lv_iload hx hb dL_law_1676 (lv_at hl 5 rfl) ?_
  refine lv_iconst (v := nI 1) hx hb dL_law_1678 (by decide) ?_
  refine lv_iadd hx hb dL_law_1679 ?_
  refine lv_cv (nI_add i 1) ?_
  refine va_sld hx hb hX hbl hbA hS (vp_in_nI (n := i + 1) (N := L) (by omega) (by omega)) dL_law_1680 ?_
  refine lv_cv e1 ?_
  refine lv_aload_n hx hb dL_law_1681 rfl (lv_at hl 1 rfl) ?_
  refine lv_iload hx hb dL_law_1682 (lv_at hl 5 rfl) ?_
  refine lv_iconst (v := nI 2) hx hb dL_law_1684 (by decide) ?_
  refine lv_iadd hx hb dL_law_1685 ?_
  refine lv_cv (nI_add i 2) ?_
  refine va_sld hx hb hX hbl hbA hS (vp_in_nI (n := i + 2) (N := L) (by omega) (by omega)) dL_law_1686 ?_
  refine lv_cv e2 ?_
  refine qI_V (A := A0f s.heap.size) (A1 := (A2f s.heap.size SA out)) (b := am) (As := [.int y1, .int y2]) (rest := []) ⟨hx, hb, hml, hown, hts⟩ (mX4_firstOf (A := (A2f s.heap.size SA out)) (am := am) (xa := xa) (X := X) (P := pcL (X 14) es) (k := k) (th := th)) (cwV 2 hts (gV tw_6_200 tw_6_201 tw_6_202 tw_1_8 tw_6_203) rfl rfl rfl (by decide +kernel) ⟨Nat.le_of_ble_eq_true rfl, Nat.le_of_ble_eq_true rfl⟩) hC hS (fun q h => h.1) (A2f_new hSS hO hS.1) (hM.recv hK) hM rfl rfl hl.1 (Nat.le_of_ble_eq_true rfl) ⟨Nat.le_trans (by omega) hc, Nat.le_trans (by omega) hs⟩ dL_law_1687 (fun r2 H2 L2 hP hk hS => ?_)
  have hSS := hSS.kp hk (fun i hi h => h.2.1 i hi rfl)
  have hO := hO.kp hk (fun h => h.2.2 rfl)
  have hM2 : ∃ th, MW G (A2f s.heap.size SA out) am xa X (pcL (X 14) es) k th H2 := by
    rcases hP with ⟨-, -, h9⟩ | ⟨_, _, -, -, -, -, -, h9⟩
    · exact ⟨_, h9⟩
    · exact ⟨_, h9⟩
  refine lv_istore (lv' := [(6, .int r2), (5, .int r1), (0, .ref b), (1, .ref (SA 0)), (2, .ref am), (3, .ref out), (4, .int (nI i))]) hx hb dL_law_1690 hl (by decide) rfl (fun ls hl => ?_)
  refine lv_goto (tgt := 2115) hx hb dL_law_1692 (by decide) ?_
  refine W.widen (k := cells + 140) (n := slots + 9600) (by omega) (by omega) ?_
  exact kk k H2 L2 ls ⟨_, _, hSS, hM2, hO⟩ hS (lv_sub hl [2, 3, 4, 5, 6] rfl)

theorem lc_lastOf {p : Program} {l : Launch} {e : Env} {s : State} {m : MethodId} {below : List Frame} {meth : Method} {c : Code} {b L : Nat} {xs : Nat → Int32} {G : Cx} {SA : Nat → Nat} {am xa out : Nat} (Z : LX p l e s m meth c b L xs G SA out) : LStep p l e s m below meth c b L G SA am xa out 1695 := by
  intro k H locs cells slots i ls Q hI hS hi hc hs hl kk
  obtain ⟨hx, hb, hml, hown, hts, hC, hX, hbl, hL, hst, hSA, hSo, hout⟩ := Z
  have hK := hC.1
  have hA : ∀ q : Nat, s.heap.size ≤ q → A0f s.heap.size q := fun q h => h
  have hbA : ¬ A0f s.heap.size b := Nat.not_le_of_lt hbl
  obtain ⟨X, es, hSS, ⟨th, hM⟩, hO⟩ := hI
  obtain ⟨y1, e1⟩ : ∃ y, xs (nI (i + 1)).toNatClampNeg = y := ⟨_, rfl⟩
  obtain ⟨y2, e2⟩ : ∃ y, xs (nI (i + 2)).toNatClampNeg = y := ⟨_, rfl⟩
  refine lv_aload_n hx hb dL_law_1695 rfl (lv_at hl 1 rfl) ?_
  refine lv_aload_n hx hb dL_law_1696 rfl (lv_at hl 0 rfl) ?_
  refine lv_iload hx hb dL_law_1697 (lv_at hl 4 rfl) ?_
  refine lv_iconst (v := nI 1) hx hb dL_law_1699 (by decide) ?_
  refine lv_iadd hx hb dL_law_1700 ?_
  refine lv_cv (nI_add i 1) ?_
  refine va_sld hx hb hX hbl hbA hS (vp_in_nI (n := i + 1) (N := L) (by omega) (by omega)) dL_law_1701 ?_
  refine lv_cv e1 ?_
  refine lv_aload_n hx hb dL_law_1702 rfl (lv_at hl 0 rfl) ?_
  refine lv_iload hx hb dL_law_1703 (lv_at hl 4 rfl) ?_
  refine lv_iconst (v := nI 2) hx hb dL_law_1705 (by decide) ?_
  refine lv_iadd hx hb dL_law_1706 ?_
  refine lv_cv (nI_add i 2) ?_
  refine va_sld hx hb hX hbl hbA hS (vp_in_nI (n := i + 2) (N := L) (by omega) (by omega)) dL_law_1707 ?_
  refine lv_cv e2 ?_
  refine lv_aload_n hx hb dL_law_1708 rfl (lv_at hl 3 rfl) ?_
  refine qI_SW (A := A0f s.heap.size) (A1 := (A1f SA out H.size)) (As := [.ref (SA 0), .int y1, .int y2, .ref out]) (rest := []) ⟨hx, hb, hml, hown, hts⟩ (mL_lastOf (A := (A1f SA out H.size)) hst (out := out) (SA := SA) (X := X) (es := es) (k := k) (fun i hi => Or.inl ⟨i, hi, rfl⟩) (Or.inr (Or.inl rfl)) hSo) (vx_cwSW 4 hts (gSW tw_4_75 tw_4_76 tw_1_0 cw_lastOf) rfl rfl rfl (by decide +kernel) ⟨Nat.le_of_ble_eq_true rfl, Nat.le_of_ble_eq_true rfl⟩) hC hS (A1f_in hSA hout hS.1) (fun q h => Or.inr (Or.inr h)) ⟨hSS, hO⟩ rfl rfl hl.1 (Nat.le_of_ble_eq_true rfl) ⟨Nat.le_trans (by omega) hc, Nat.le_trans (by omega) hs⟩ dL_law_1709 (fun r1 H1 L1 hP hk hS => ?_)
  have h60 := hM.h60
  have he := hM.he
  have hM := MW.kc hK hSS hM hO hk
  have hN : SS G SA X es k H1 ∧ OA G out H1 := by
    rcases hP with ⟨-, v9, H0, hv, hk0, w9, hO1⟩ | ⟨-, -, hS1, hO1⟩
    · obtain ⟨_, _, -, -, -, -, -, hS1⟩ := hv
      exact ⟨hS1.kp hk0 (fun i hi e => hSo i hi e), ⟨_, _, hO1⟩⟩
    · exact ⟨hS1, hO1⟩
  obtain ⟨hSS, hO⟩ := hN
  refine lv_istore (lv' := [(5, .int r1), (0, .ref b), (1, .ref (SA 0)), (2, .ref am), (3, .ref out), (4, .int (nI i))]) hx hb dL_law_1712 hl (by decide) rfl (fun ls hl => ?_)
  refine lv_aload_n hx hb dL_law_1714 rfl (lv_at hl 3 rfl) ?_
  refine lv_aload_n hx hb dL_law_1715 rfl (lv_at hl 1 rfl) ?_
  refine lv_iload hx hb dL_law_1716 (lv_at hl 5 rfl) ?_
  refine lv_iconst (v := nI 1) hx hb dL_law_1718 (by decide) ?_
  refine lv_iadd hx hb dL_law_1719 ?_
  refine lv_cv (nI_add i 1) ?_
  refine va_sld hx hb hX hbl hbA hS (vp_in_nI (n := i + 1) (N := L) (by omega) (by omega)) dL_law_1720 ?_
  refine lv_cv e1 ?_
  refine lv_aload_n hx hb dL_law_1721 rfl (lv_at hl 1 rfl) ?_
  refine lv_iload hx hb dL_law_1722 (lv_at hl 5 rfl) ?_
  refine lv_iconst (v := nI 2) hx hb dL_law_1724 (by decide) ?_
  refine lv_iadd hx hb dL_law_1725 ?_
  refine lv_cv (nI_add i 2) ?_
  refine va_sld hx hb hX hbl hbA hS (vp_in_nI (n := i + 2) (N := L) (by omega) (by omega)) dL_law_1726 ?_
  refine lv_cv e2 ?_
  refine qI_V (A := A0f s.heap.size) (A1 := (A2f s.heap.size SA out)) (b := am) (As := [.int y1, .int y2]) (rest := []) ⟨hx, hb, hml, hown, hts⟩ (mX4_lastOf (A := (A2f s.heap.size SA out)) (am := am) (xa := xa) (X := X) (P := pcL (X 14) es) (k := k) (th := th)) (cwV 2 hts (gV tw_6_208 tw_6_209 tw_6_210 tw_1_8 tw_6_211) rfl rfl rfl (by decide +kernel) ⟨Nat.le_of_ble_eq_true rfl, Nat.le_of_ble_eq_true rfl⟩) hC hS (fun q h => h.1) (A2f_new hSS hO hS.1) (hM.recv hK) hM rfl rfl hl.1 (Nat.le_of_ble_eq_true rfl) ⟨Nat.le_trans (by omega) hc, Nat.le_trans (by omega) hs⟩ dL_law_1727 (fun r2 H2 L2 hP hk hS => ?_)
  have hSS := hSS.kp hk (fun i hi h => h.2.1 i hi rfl)
  have hO := hO.kp hk (fun h => h.2.2 rfl)
  have hM2 : ∃ th, MW G (A2f s.heap.size SA out) am xa X (pcL (X 14) es) k th H2 := by
    rcases hP with ⟨-, -, h9⟩ | ⟨_, _, -, -, -, -, -, h9⟩
    · exact ⟨_, h9⟩
    · exact ⟨_, h9⟩
  refine lv_istore (lv' := [(6, .int r2), (5, .int r1), (0, .ref b), (1, .ref (SA 0)), (2, .ref am), (3, .ref out), (4, .int (nI i))]) hx hb dL_law_1730 hl (by decide) rfl (fun ls hl => ?_)
  refine lv_goto (tgt := 2115) hx hb dL_law_1732 (by decide) ?_
  refine W.widen (k := cells + 140) (n := slots + 9600) (by omega) (by omega) ?_
  exact kk k H2 L2 ls ⟨_, _, hSS, hM2, hO⟩ hS (lv_sub hl [2, 3, 4, 5, 6] rfl)

theorem lc_isIn {p : Program} {l : Launch} {e : Env} {s : State} {m : MethodId} {below : List Frame} {meth : Method} {c : Code} {b L : Nat} {xs : Nat → Int32} {G : Cx} {SA : Nat → Nat} {am xa out : Nat} (Z : LX p l e s m meth c b L xs G SA out) : LStep p l e s m below meth c b L G SA am xa out 1735 := by
  intro k H locs cells slots i ls Q hI hS hi hc hs hl kk
  obtain ⟨hx, hb, hml, hown, hts, hC, hX, hbl, hL, hst, hSA, hSo, hout⟩ := Z
  have hK := hC.1
  have hA : ∀ q : Nat, s.heap.size ≤ q → A0f s.heap.size q := fun q h => h
  have hbA : ¬ A0f s.heap.size b := Nat.not_le_of_lt hbl
  obtain ⟨X, es, hSS, ⟨th, hM⟩, hO⟩ := hI
  obtain ⟨y1, e1⟩ : ∃ y, xs (nI (i + 1)).toNatClampNeg = y := ⟨_, rfl⟩
  obtain ⟨y2, e2⟩ : ∃ y, xs (nI (i + 2)).toNatClampNeg = y := ⟨_, rfl⟩
  refine lv_aload_n hx hb dL_law_1735 rfl (lv_at hl 1 rfl) ?_
  refine lv_aload_n hx hb dL_law_1736 rfl (lv_at hl 0 rfl) ?_
  refine lv_iload hx hb dL_law_1737 (lv_at hl 4 rfl) ?_
  refine lv_iconst (v := nI 1) hx hb dL_law_1739 (by decide) ?_
  refine lv_iadd hx hb dL_law_1740 ?_
  refine lv_cv (nI_add i 1) ?_
  refine va_sld hx hb hX hbl hbA hS (vp_in_nI (n := i + 1) (N := L) (by omega) (by omega)) dL_law_1741 ?_
  refine lv_cv e1 ?_
  refine lv_aload_n hx hb dL_law_1742 rfl (lv_at hl 0 rfl) ?_
  refine lv_iload hx hb dL_law_1743 (lv_at hl 4 rfl) ?_
  refine lv_iconst (v := nI 2) hx hb dL_law_1745 (by decide) ?_
  refine lv_iadd hx hb dL_law_1746 ?_
  refine lv_cv (nI_add i 2) ?_
  refine va_sld hx hb hX hbl hbA hS (vp_in_nI (n := i + 2) (N := L) (by omega) (by omega)) dL_law_1747 ?_
  refine lv_cv e2 ?_
  refine lv_aload_n hx hb dL_law_1748 rfl (lv_at hl 3 rfl) ?_
  refine qI_SW (A := A0f s.heap.size) (A1 := (A1f SA out H.size)) (As := [.ref (SA 0), .int y1, .int y2, .ref out]) (rest := []) ⟨hx, hb, hml, hown, hts⟩ (mL_isIn (A := (A1f SA out H.size)) hst (out := out) (SA := SA) (X := X) (es := es) (k := k) (fun i hi => Or.inl ⟨i, hi, rfl⟩) (Or.inr (Or.inl rfl)) hSo) (vx_cwSW 4 hts (gSW tw_4_82 tw_4_83 tw_1_0 cw_isIn) rfl rfl rfl (by decide +kernel) ⟨Nat.le_of_ble_eq_true rfl, Nat.le_of_ble_eq_true rfl⟩) hC hS (A1f_in hSA hout hS.1) (fun q h => Or.inr (Or.inr h)) ⟨hSS, hO⟩ rfl rfl hl.1 (Nat.le_of_ble_eq_true rfl) ⟨Nat.le_trans (by omega) hc, Nat.le_trans (by omega) hs⟩ dL_law_1749 (fun r1 H1 L1 hP hk hS => ?_)
  have h60 := hM.h60
  have he := hM.he
  have hM := MW.kc hK hSS hM hO hk
  have hN : SS G SA X es k H1 ∧ OA G out H1 := by
    rcases hP with ⟨-, v9, H0, hv, hk0, w9, hO1⟩ | ⟨-, -, hS1, hO1⟩
    · obtain ⟨_, _, -, -, -, -, -, hS1⟩ := hv
      exact ⟨hS1.kp hk0 (fun i hi e => hSo i hi e), ⟨_, _, hO1⟩⟩
    · exact ⟨hS1, hO1⟩
  obtain ⟨hSS, hO⟩ := hN
  refine lv_istore (lv' := [(5, .int r1), (0, .ref b), (1, .ref (SA 0)), (2, .ref am), (3, .ref out), (4, .int (nI i))]) hx hb dL_law_1752 hl (by decide) rfl (fun ls hl => ?_)
  refine lv_aload_n hx hb dL_law_1754 rfl (lv_at hl 3 rfl) ?_
  refine lv_aload_n hx hb dL_law_1755 rfl (lv_at hl 1 rfl) ?_
  refine lv_iload hx hb dL_law_1756 (lv_at hl 5 rfl) ?_
  refine lv_iconst (v := nI 1) hx hb dL_law_1758 (by decide) ?_
  refine lv_iadd hx hb dL_law_1759 ?_
  refine lv_cv (nI_add i 1) ?_
  refine va_sld hx hb hX hbl hbA hS (vp_in_nI (n := i + 1) (N := L) (by omega) (by omega)) dL_law_1760 ?_
  refine lv_cv e1 ?_
  refine lv_aload_n hx hb dL_law_1761 rfl (lv_at hl 1 rfl) ?_
  refine lv_iload hx hb dL_law_1762 (lv_at hl 5 rfl) ?_
  refine lv_iconst (v := nI 2) hx hb dL_law_1764 (by decide) ?_
  refine lv_iadd hx hb dL_law_1765 ?_
  refine lv_cv (nI_add i 2) ?_
  refine va_sld hx hb hX hbl hbA hS (vp_in_nI (n := i + 2) (N := L) (by omega) (by omega)) dL_law_1766 ?_
  refine lv_cv e2 ?_
  refine qI_V (A := A0f s.heap.size) (A1 := (A2f s.heap.size SA out)) (b := am) (As := [.int y1, .int y2]) (rest := []) ⟨hx, hb, hml, hown, hts⟩ (mX4_isIn_ (A := (A2f s.heap.size SA out)) (am := am) (xa := xa) (X := X) (P := pcL (X 14) es) (k := k) (th := th)) (cwV 2 hts (gV tw_6_212 tw_6_213 tw_6_214 tw_1_8 tw_6_215) rfl rfl rfl (by decide +kernel) ⟨Nat.le_of_ble_eq_true rfl, Nat.le_of_ble_eq_true rfl⟩) hC hS (fun q h => h.1) (A2f_new hSS hO hS.1) (hM.recv hK) hM rfl rfl hl.1 (Nat.le_of_ble_eq_true rfl) ⟨Nat.le_trans (by omega) hc, Nat.le_trans (by omega) hs⟩ dL_law_1767 (fun r2 H2 L2 hP hk hS => ?_)
  have hSS := hSS.kp hk (fun i hi h => h.2.1 i hi rfl)
  have hO := hO.kp hk (fun h => h.2.2 rfl)
  have hM2 : ∃ th, MW G (A2f s.heap.size SA out) am xa X (pcL (X 14) es) k th H2 := by
    rcases hP with ⟨-, -, h9⟩ | ⟨_, _, -, -, -, -, -, h9⟩
    · exact ⟨_, h9⟩
    · exact ⟨_, h9⟩
  refine lv_istore (lv' := [(6, .int r2), (5, .int r1), (0, .ref b), (1, .ref (SA 0)), (2, .ref am), (3, .ref out), (4, .int (nI i))]) hx hb dL_law_1770 hl (by decide) rfl (fun ls hl => ?_)
  refine lv_goto (tgt := 2115) hx hb dL_law_1772 (by decide) ?_
  refine W.widen (k := cells + 140) (n := slots + 9600) (by omega) (by omega) ?_
  exact kk k H2 L2 ls ⟨_, _, hSS, hM2, hO⟩ hS (lv_sub hl [2, 3, 4, 5, 6] rfl)

theorem lc_isSame {p : Program} {l : Launch} {e : Env} {s : State} {m : MethodId} {below : List Frame} {meth : Method} {c : Code} {b L : Nat} {xs : Nat → Int32} {G : Cx} {SA : Nat → Nat} {am xa out : Nat} (Z : LX p l e s m meth c b L xs G SA out) : LStep p l e s m below meth c b L G SA am xa out 1775 := by
  intro k H locs cells slots i ls Q hI hS hi hc hs hl kk
  obtain ⟨hx, hb, hml, hown, hts, hC, hX, hbl, hL, hst, hSA, hSo, hout⟩ := Z
  have hK := hC.1
  have hA : ∀ q : Nat, s.heap.size ≤ q → A0f s.heap.size q := fun q h => h
  have hbA : ¬ A0f s.heap.size b := Nat.not_le_of_lt hbl
  obtain ⟨X, es, hSS, ⟨th, hM⟩, hO⟩ := hI
  obtain ⟨y1, e1⟩ : ∃ y, xs (nI (i + 1)).toNatClampNeg = y := ⟨_, rfl⟩
  obtain ⟨y2, e2⟩ : ∃ y, xs (nI (i + 2)).toNatClampNeg = y := ⟨_, rfl⟩
  obtain ⟨y3, e3⟩ : ∃ y, xs (nI (i + 3)).toNatClampNeg = y := ⟨_, rfl⟩
  by_cases hz3 : y3 = 0
  · refine lv_aload_n hx hb dL_law_1775 rfl (lv_at hl 1 rfl) ?_
    refine lv_aload_n hx hb dL_law_1776 rfl (lv_at hl 0 rfl) ?_
    refine lv_iload hx hb dL_law_1777 (lv_at hl 4 rfl) ?_
    refine lv_iconst (v := nI 1) hx hb dL_law_1779 (by decide) ?_
    refine lv_iadd hx hb dL_law_1780 ?_
    refine lv_cv (nI_add i 1) ?_
    refine va_sld hx hb hX hbl hbA hS (vp_in_nI (n := i + 1) (N := L) (by omega) (by omega)) dL_law_1781 ?_
    refine lv_cv e1 ?_
    refine lv_aload_n hx hb dL_law_1782 rfl (lv_at hl 0 rfl) ?_
    refine lv_iload hx hb dL_law_1783 (lv_at hl 4 rfl) ?_
    refine lv_iconst (v := nI 2) hx hb dL_law_1785 (by decide) ?_
    refine lv_iadd hx hb dL_law_1786 ?_
    refine lv_cv (nI_add i 2) ?_
    refine va_sld hx hb hX hbl hbA hS (vp_in_nI (n := i + 2) (N := L) (by omega) (by omega)) dL_law_1787 ?_
    refine lv_cv e2 ?_
    refine lv_aload_n hx hb dL_law_1788 rfl (lv_at hl 0 rfl) ?_
    refine lv_iload hx hb dL_law_1789 (lv_at hl 4 rfl) ?_
    refine lv_iconst (v := nI 3) hx hb dL_law_1791 (by decide) ?_
    refine lv_iadd hx hb dL_law_1792 ?_
    refine lv_cv (nI_add i 3) ?_
    refine va_sld hx hb hX hbl hbA hS (vp_in_nI (n := i + 3) (N := L) (by omega) (by omega)) dL_law_1793 ?_
    refine lv_cv e3 ?_
    refine lv_if_eq (tgt := 1801) hx hb dL_law_1794 (by decide) (fun c_40 => ?_) (fun c_40 => ?_)
    · refine lv_iconst (v := nI 0) hx hb dL_law_1801 (by decide) ?_
      refine lv_aload_n hx hb dL_law_1802 rfl (lv_at hl 3 rfl) ?_
      refine qI_SW (A := A0f s.heap.size) (A1 := (A1f SA out H.size)) (As := [.ref (SA 0), .int y1, .int y2, .int (bI false), .ref out]) (rest := []) ⟨hx, hb, hml, hown, hts⟩ (mL_isSame (A := (A1f SA out H.size)) hst (out := out) (SA := SA) (X := X) (es := es) (k := k) (fun i hi => Or.inl ⟨i, hi, rfl⟩) (Or.inr (Or.inl rfl)) hSo) (vx_cwSW 5 hts (gSW tw_4_89 tw_4_90 tw_1_0 cw_isSame) rfl rfl rfl (by decide +kernel) ⟨Nat.le_of_ble_eq_true rfl, Nat.le_of_ble_eq_true rfl⟩) hC hS (A1f_in hSA hout hS.1) (fun q h => Or.inr (Or.inr h)) ⟨hSS, hO⟩ rfl rfl hl.1 (Nat.le_of_ble_eq_true rfl) ⟨Nat.le_trans (by omega) hc, Nat.le_trans (by omega) hs⟩ dL_law_1803 (fun r1 H1 L1 hP hk hS => ?_)
      have h60 := hM.h60
      have he := hM.he
      have hM := MW.kc hK hSS hM hO hk
      have hN : SS G SA X es k H1 ∧ OA G out H1 := by
        rcases hP with ⟨-, v9, H0, hv, hk0, w9, hO1⟩ | ⟨-, -, hS1, hO1⟩
        · obtain ⟨_, _, -, -, -, -, -, hS1⟩ := hv
          exact ⟨hS1.kp hk0 (fun i hi e => hSo i hi e), ⟨_, _, hO1⟩⟩
        · exact ⟨hS1, hO1⟩
      obtain ⟨hSS, hO⟩ := hN
      refine lv_istore (lv' := [(5, .int r1), (0, .ref b), (1, .ref (SA 0)), (2, .ref am), (3, .ref out), (4, .int (nI i))]) hx hb dL_law_1806 hl (by decide) rfl (fun ls hl => ?_)
      refine lv_aload_n hx hb dL_law_1808 rfl (lv_at hl 3 rfl) ?_
      refine lv_aload_n hx hb dL_law_1809 rfl (lv_at hl 1 rfl) ?_
      refine lv_iload hx hb dL_law_1810 (lv_at hl 5 rfl) ?_
      refine lv_iconst (v := nI 1) hx hb dL_law_1812 (by decide) ?_
      refine lv_iadd hx hb dL_law_1813 ?_
      refine lv_cv (nI_add i 1) ?_
      refine va_sld hx hb hX hbl hbA hS (vp_in_nI (n := i + 1) (N := L) (by omega) (by omega)) dL_law_1814 ?_
      refine lv_cv e1 ?_
      refine lv_aload_n hx hb dL_law_1815 rfl (lv_at hl 1 rfl) ?_
      refine lv_iload hx hb dL_law_1816 (lv_at hl 5 rfl) ?_
      refine lv_iconst (v := nI 2) hx hb dL_law_1818 (by decide) ?_
      refine lv_iadd hx hb dL_law_1819 ?_
      refine lv_cv (nI_add i 2) ?_
      refine va_sld hx hb hX hbl hbA hS (vp_in_nI (n := i + 2) (N := L) (by omega) (by omega)) dL_law_1820 ?_
      refine lv_cv e2 ?_
      refine lv_aload_n hx hb dL_law_1821 rfl (lv_at hl 1 rfl) ?_
      refine lv_iload hx hb dL_law_1822 (lv_at hl 5 rfl) ?_
      refine lv_iconst (v := nI 3) hx hb dL_law_1824 (by decide) ?_
      refine lv_iadd hx hb dL_law_1825 ?_
      refine lv_cv (nI_add i 3) ?_
      refine va_sld hx hb hX hbl hbA hS (vp_in_nI (n := i + 3) (N := L) (by omega) (by omega)) dL_law_1826 ?_
      refine lv_cv e3 ?_
      refine lv_if_eq (tgt := 1834) hx hb dL_law_1827 (by decide) (fun c_41 => ?_) (fun c_41 => ?_)
      · refine lv_iconst (v := nI 0) hx hb dL_law_1834 (by decide) ?_
        refine qI_V (A := A0f s.heap.size) (A1 := (A2f s.heap.size SA out)) (b := am) (As := [.int y1, .int y2, .int (bI false)]) (rest := []) ⟨hx, hb, hml, hown, hts⟩ (mX4_isSame_ (A := (A2f s.heap.size SA out)) (am := am) (xa := xa) (X := X) (P := pcL (X 14) es) (k := k) (th := th)) (cwV 3 hts (gV tw_6_216 tw_6_217 tw_6_218 tw_1_8 tw_6_219) rfl rfl rfl (by decide +kernel) ⟨Nat.le_of_ble_eq_true rfl, Nat.le_of_ble_eq_true rfl⟩) hC hS (fun q h => h.1) (A2f_new hSS hO hS.1) (hM.recv hK) hM rfl rfl hl.1 (Nat.le_of_ble_eq_true rfl) ⟨Nat.le_trans (by omega) hc, Nat.le_trans (by omega) hs⟩ dL_law_1835 (fun r2 H2 L2 hP hk hS => ?_)
        have hSS := hSS.kp hk (fun i hi h => h.2.1 i hi rfl)
        have hO := hO.kp hk (fun h => h.2.2 rfl)
        have hM2 : ∃ th, MW G (A2f s.heap.size SA out) am xa X (pcL (X 14) es) k th H2 := by
          rcases hP with ⟨-, -, h9⟩ | ⟨_, _, -, -, -, -, -, h9⟩
          · exact ⟨_, h9⟩
          · exact ⟨_, h9⟩
        refine lv_istore (lv' := [(6, .int r2), (5, .int r1), (0, .ref b), (1, .ref (SA 0)), (2, .ref am), (3, .ref out), (4, .int (nI i))]) hx hb dL_law_1838 hl (by decide) rfl (fun ls hl => ?_)
        refine lv_goto (tgt := 2115) hx hb dL_law_1840 (by decide) ?_
        refine W.widen (k := cells + 140) (n := slots + 9600) (by omega) (by omega) ?_
        exact kk k H2 L2 ls ⟨_, _, hSS, hM2, hO⟩ hS (lv_sub hl [2, 3, 4, 5, 6] rfl)
      · exact absurd hz3 c_41
    · exact absurd hz3 c_40
  · refine lv_aload_n hx hb dL_law_1775 rfl (lv_at hl 1 rfl) ?_
    refine lv_aload_n hx hb dL_law_1776 rfl (lv_at hl 0 rfl) ?_
    refine lv_iload hx hb dL_law_1777 (lv_at hl 4 rfl) ?_
    refine lv_iconst (v := nI 1) hx hb dL_law_1779 (by decide) ?_
    refine lv_iadd hx hb dL_law_1780 ?_
    refine lv_cv (nI_add i 1) ?_
    refine va_sld hx hb hX hbl hbA hS (vp_in_nI (n := i + 1) (N := L) (by omega) (by omega)) dL_law_1781 ?_
    refine lv_cv e1 ?_
    refine lv_aload_n hx hb dL_law_1782 rfl (lv_at hl 0 rfl) ?_
    refine lv_iload hx hb dL_law_1783 (lv_at hl 4 rfl) ?_
    refine lv_iconst (v := nI 2) hx hb dL_law_1785 (by decide) ?_
    refine lv_iadd hx hb dL_law_1786 ?_
    refine lv_cv (nI_add i 2) ?_
    refine va_sld hx hb hX hbl hbA hS (vp_in_nI (n := i + 2) (N := L) (by omega) (by omega)) dL_law_1787 ?_
    refine lv_cv e2 ?_
    refine lv_aload_n hx hb dL_law_1788 rfl (lv_at hl 0 rfl) ?_
    refine lv_iload hx hb dL_law_1789 (lv_at hl 4 rfl) ?_
    refine lv_iconst (v := nI 3) hx hb dL_law_1791 (by decide) ?_
    refine lv_iadd hx hb dL_law_1792 ?_
    refine lv_cv (nI_add i 3) ?_
    refine va_sld hx hb hX hbl hbA hS (vp_in_nI (n := i + 3) (N := L) (by omega) (by omega)) dL_law_1793 ?_
    refine lv_cv e3 ?_
    refine lv_if_eq (tgt := 1801) hx hb dL_law_1794 (by decide) (fun c_42 => ?_) (fun c_42 => ?_)
    · exact absurd c_42 hz3
    · refine lv_iconst (v := nI 1) hx hb dL_law_1797 (by decide) ?_
      refine lv_goto (tgt := 1802) hx hb dL_law_1798 (by decide) ?_
      refine lv_aload_n hx hb dL_law_1802 rfl (lv_at hl 3 rfl) ?_
      refine qI_SW (A := A0f s.heap.size) (A1 := (A1f SA out H.size)) (As := [.ref (SA 0), .int y1, .int y2, .int (bI true), .ref out]) (rest := []) ⟨hx, hb, hml, hown, hts⟩ (mL_isSame (A := (A1f SA out H.size)) hst (out := out) (SA := SA) (X := X) (es := es) (k := k) (fun i hi => Or.inl ⟨i, hi, rfl⟩) (Or.inr (Or.inl rfl)) hSo) (vx_cwSW 5 hts (gSW tw_4_89 tw_4_90 tw_1_0 cw_isSame) rfl rfl rfl (by decide +kernel) ⟨Nat.le_of_ble_eq_true rfl, Nat.le_of_ble_eq_true rfl⟩) hC hS (A1f_in hSA hout hS.1) (fun q h => Or.inr (Or.inr h)) ⟨hSS, hO⟩ rfl rfl hl.1 (Nat.le_of_ble_eq_true rfl) ⟨Nat.le_trans (by omega) hc, Nat.le_trans (by omega) hs⟩ dL_law_1803 (fun r1 H1 L1 hP hk hS => ?_)
      have h60 := hM.h60
      have he := hM.he
      have hM := MW.kc hK hSS hM hO hk
      have hN : SS G SA X es k H1 ∧ OA G out H1 := by
        rcases hP with ⟨-, v9, H0, hv, hk0, w9, hO1⟩ | ⟨-, -, hS1, hO1⟩
        · obtain ⟨_, _, -, -, -, -, -, hS1⟩ := hv
          exact ⟨hS1.kp hk0 (fun i hi e => hSo i hi e), ⟨_, _, hO1⟩⟩
        · exact ⟨hS1, hO1⟩
      obtain ⟨hSS, hO⟩ := hN
      refine lv_istore (lv' := [(5, .int r1), (0, .ref b), (1, .ref (SA 0)), (2, .ref am), (3, .ref out), (4, .int (nI i))]) hx hb dL_law_1806 hl (by decide) rfl (fun ls hl => ?_)
      refine lv_aload_n hx hb dL_law_1808 rfl (lv_at hl 3 rfl) ?_
      refine lv_aload_n hx hb dL_law_1809 rfl (lv_at hl 1 rfl) ?_
      refine lv_iload hx hb dL_law_1810 (lv_at hl 5 rfl) ?_
      refine lv_iconst (v := nI 1) hx hb dL_law_1812 (by decide) ?_
      refine lv_iadd hx hb dL_law_1813 ?_
      refine lv_cv (nI_add i 1) ?_
      refine va_sld hx hb hX hbl hbA hS (vp_in_nI (n := i + 1) (N := L) (by omega) (by omega)) dL_law_1814 ?_
      refine lv_cv e1 ?_
      refine lv_aload_n hx hb dL_law_1815 rfl (lv_at hl 1 rfl) ?_
      refine lv_iload hx hb dL_law_1816 (lv_at hl 5 rfl) ?_
      refine lv_iconst (v := nI 2) hx hb dL_law_1818 (by decide) ?_
      refine lv_iadd hx hb dL_law_1819 ?_
      refine lv_cv (nI_add i 2) ?_
      refine va_sld hx hb hX hbl hbA hS (vp_in_nI (n := i + 2) (N := L) (by omega) (by omega)) dL_law_1820 ?_
      refine lv_cv e2 ?_
      refine lv_aload_n hx hb dL_law_1821 rfl (lv_at hl 1 rfl) ?_
      refine lv_iload hx hb dL_law_1822 (lv_at hl 5 rfl) ?_
      refine lv_iconst (v := nI 3) hx hb dL_law_1824 (by decide) ?_
      refine lv_iadd hx hb dL_law_1825 ?_
      refine lv_cv (nI_add i 3) ?_
      refine va_sld hx hb hX hbl hbA hS (vp_in_nI (n := i + 3) (N := L) (by omega) (by omega)) dL_law_1826 ?_
      refine lv_cv e3 ?_
      refine lv_if_eq (tgt := 1834) hx hb dL_law_1827 (by decide) (fun c_43 => ?_) (fun c_43 => ?_)
      · exact absurd c_43 hz3
      · refine lv_iconst (v := nI 1) hx hb dL_law_1830 (by decide) ?_
        refine lv_goto (tgt := 1835) hx hb dL_law_1831 (by decide) ?_
        refine qI_V (A := A0f s.heap.size) (A1 := (A2f s.heap.size SA out)) (b := am) (As := [.int y1, .int y2, .int (bI true)]) (rest := []) ⟨hx, hb, hml, hown, hts⟩ (mX4_isSame_ (A := (A2f s.heap.size SA out)) (am := am) (xa := xa) (X := X) (P := pcL (X 14) es) (k := k) (th := th)) (cwV 3 hts (gV tw_6_216 tw_6_217 tw_6_218 tw_1_8 tw_6_219) rfl rfl rfl (by decide +kernel) ⟨Nat.le_of_ble_eq_true rfl, Nat.le_of_ble_eq_true rfl⟩) hC hS (fun q h => h.1) (A2f_new hSS hO hS.1) (hM.recv hK) hM rfl rfl hl.1 (Nat.le_of_ble_eq_true rfl) ⟨Nat.le_trans (by omega) hc, Nat.le_trans (by omega) hs⟩ dL_law_1835 (fun r2 H2 L2 hP hk hS => ?_)
        have hSS := hSS.kp hk (fun i hi h => h.2.1 i hi rfl)
        have hO := hO.kp hk (fun h => h.2.2 rfl)
        have hM2 : ∃ th, MW G (A2f s.heap.size SA out) am xa X (pcL (X 14) es) k th H2 := by
          rcases hP with ⟨-, -, h9⟩ | ⟨_, _, -, -, -, -, -, h9⟩
          · exact ⟨_, h9⟩
          · exact ⟨_, h9⟩
        refine lv_istore (lv' := [(6, .int r2), (5, .int r1), (0, .ref b), (1, .ref (SA 0)), (2, .ref am), (3, .ref out), (4, .int (nI i))]) hx hb dL_law_1838 hl (by decide) rfl (fun ls hl => ?_)
        refine lv_goto (tgt := 2115) hx hb dL_law_1840 (by decide) ?_
        refine W.widen (k := cells + 140) (n := slots + 9600) (by omega) (by omega) ?_
        exact kk k H2 L2 ls ⟨_, _, hSS, hM2, hO⟩ hS (lv_sub hl [2, 3, 4, 5, 6] rfl)

theorem lc_order {p : Program} {l : Launch} {e : Env} {s : State} {m : MethodId} {below : List Frame} {meth : Method} {c : Code} {b L : Nat} {xs : Nat → Int32} {G : Cx} {SA : Nat → Nat} {am xa out : Nat} (Z : LX p l e s m meth c b L xs G SA out) : LStep p l e s m below meth c b L G SA am xa out 1843 := by
  intro k H locs cells slots i ls Q hI hS hi hc hs hl kk
  obtain ⟨hx, hb, hml, hown, hts, hC, hX, hbl, hL, hst, hSA, hSo, hout⟩ := Z
  have hK := hC.1
  have hA : ∀ q : Nat, s.heap.size ≤ q → A0f s.heap.size q := fun q h => h
  have hbA : ¬ A0f s.heap.size b := Nat.not_le_of_lt hbl
  obtain ⟨X, es, hSS, ⟨th, hM⟩, hO⟩ := hI
  obtain ⟨y1, e1⟩ : ∃ y, xs (nI (i + 1)).toNatClampNeg = y := ⟨_, rfl⟩
  obtain ⟨y2, e2⟩ : ∃ y, xs (nI (i + 2)).toNatClampNeg = y := ⟨_, rfl⟩
  refine lv_aload_n hx hb dL_law_1843 rfl (lv_at hl 1 rfl) ?_
  refine lv_aload_n hx hb dL_law_1844 rfl (lv_at hl 0 rfl) ?_
  refine lv_iload hx hb dL_law_1845 (lv_at hl 4 rfl) ?_
  refine lv_iconst (v := nI 1) hx hb dL_law_1847 (by decide) ?_
  refine lv_iadd hx hb dL_law_1848 ?_
  refine lv_cv (nI_add i 1) ?_
  refine va_sld hx hb hX hbl hbA hS (vp_in_nI (n := i + 1) (N := L) (by omega) (by omega)) dL_law_1849 ?_
  refine lv_cv e1 ?_
  refine lv_aload_n hx hb dL_law_1850 rfl (lv_at hl 0 rfl) ?_
  refine lv_iload hx hb dL_law_1851 (lv_at hl 4 rfl) ?_
  refine lv_iconst (v := nI 2) hx hb dL_law_1853 (by decide) ?_
  refine lv_iadd hx hb dL_law_1854 ?_
  refine lv_cv (nI_add i 2) ?_
  refine va_sld hx hb hX hbl hbA hS (vp_in_nI (n := i + 2) (N := L) (by omega) (by omega)) dL_law_1855 ?_
  refine lv_cv e2 ?_
  refine lv_aload_n hx hb dL_law_1856 rfl (lv_at hl 3 rfl) ?_
  refine qI_SW (A := A0f s.heap.size) (A1 := (A1f SA out H.size)) (As := [.ref (SA 0), .int y1, .int y2, .ref out]) (rest := []) ⟨hx, hb, hml, hown, hts⟩ (mL_order (A := (A1f SA out H.size)) hst (out := out) (SA := SA) (X := X) (es := es) (k := k) (fun i hi => Or.inl ⟨i, hi, rfl⟩) (Or.inr (Or.inl rfl)) hSo) (vx_cwSW 4 hts (gSW tw_4_96 tw_4_97 tw_1_0 cw_order) rfl rfl rfl (by decide +kernel) ⟨Nat.le_of_ble_eq_true rfl, Nat.le_of_ble_eq_true rfl⟩) hC hS (A1f_in hSA hout hS.1) (fun q h => Or.inr (Or.inr h)) ⟨hSS, hO⟩ rfl rfl hl.1 (Nat.le_of_ble_eq_true rfl) ⟨Nat.le_trans (by omega) hc, Nat.le_trans (by omega) hs⟩ dL_law_1857 (fun r1 H1 L1 hP hk hS => ?_)
  have h60 := hM.h60
  have he := hM.he
  have hM := MW.kc hK hSS hM hO hk
  have hN : SS G SA X es k H1 ∧ OA G out H1 := by
    rcases hP with ⟨-, v9, H0, hv, hk0, w9, hO1⟩ | ⟨-, -, hS1, hO1⟩
    · obtain ⟨_, _, -, -, -, -, -, hS1⟩ := hv
      exact ⟨hS1.kp hk0 (fun i hi e => hSo i hi e), ⟨_, _, hO1⟩⟩
    · exact ⟨hS1, hO1⟩
  obtain ⟨hSS, hO⟩ := hN
  refine lv_istore (lv' := [(5, .int r1), (0, .ref b), (1, .ref (SA 0)), (2, .ref am), (3, .ref out), (4, .int (nI i))]) hx hb dL_law_1860 hl (by decide) rfl (fun ls hl => ?_)
  refine lv_aload_n hx hb dL_law_1862 rfl (lv_at hl 3 rfl) ?_
  refine lv_aload_n hx hb dL_law_1863 rfl (lv_at hl 1 rfl) ?_
  refine lv_iload hx hb dL_law_1864 (lv_at hl 5 rfl) ?_
  refine lv_iconst (v := nI 1) hx hb dL_law_1866 (by decide) ?_
  refine lv_iadd hx hb dL_law_1867 ?_
  refine lv_cv (nI_add i 1) ?_
  refine va_sld hx hb hX hbl hbA hS (vp_in_nI (n := i + 1) (N := L) (by omega) (by omega)) dL_law_1868 ?_
  refine lv_cv e1 ?_
  refine lv_aload_n hx hb dL_law_1869 rfl (lv_at hl 1 rfl) ?_
  refine lv_iload hx hb dL_law_1870 (lv_at hl 5 rfl) ?_
  refine lv_iconst (v := nI 2) hx hb dL_law_1872 (by decide) ?_
  refine lv_iadd hx hb dL_law_1873 ?_
  refine lv_cv (nI_add i 2) ?_
  refine va_sld hx hb hX hbl hbA hS (vp_in_nI (n := i + 2) (N := L) (by omega) (by omega)) dL_law_1874 ?_
  refine lv_cv e2 ?_
  refine qI_V (A := A0f s.heap.size) (A1 := (A2f s.heap.size SA out)) (b := am) (As := [.int y1, .int y2]) (rest := []) ⟨hx, hb, hml, hown, hts⟩ (mX4_order_ (A := (A2f s.heap.size SA out)) (am := am) (xa := xa) (X := X) (P := pcL (X 14) es) (k := k) (th := th)) (cwV 2 hts (gV tw_6_223 tw_6_224 tw_6_225 tw_1_8 tw_6_226) rfl rfl rfl (by decide +kernel) ⟨Nat.le_of_ble_eq_true rfl, Nat.le_of_ble_eq_true rfl⟩) hC hS (fun q h => h.1) (A2f_new hSS hO hS.1) (hM.recv hK) hM rfl rfl hl.1 (Nat.le_of_ble_eq_true rfl) ⟨Nat.le_trans (by omega) hc, Nat.le_trans (by omega) hs⟩ dL_law_1875 (fun r2 H2 L2 hP hk hS => ?_)
  have hSS := hSS.kp hk (fun i hi h => h.2.1 i hi rfl)
  have hO := hO.kp hk (fun h => h.2.2 rfl)
  have hM2 : ∃ th, MW G (A2f s.heap.size SA out) am xa X (pcL (X 14) es) k th H2 := by
    rcases hP with ⟨-, -, h9⟩ | ⟨_, _, -, -, -, -, -, h9⟩
    · exact ⟨_, h9⟩
    · exact ⟨_, h9⟩
  refine lv_istore (lv' := [(6, .int r2), (5, .int r1), (0, .ref b), (1, .ref (SA 0)), (2, .ref am), (3, .ref out), (4, .int (nI i))]) hx hb dL_law_1878 hl (by decide) rfl (fun ls hl => ?_)
  refine lv_goto (tgt := 2115) hx hb dL_law_1880 (by decide) ?_
  refine W.widen (k := cells + 140) (n := slots + 9600) (by omega) (by omega) ?_
  exact kk k H2 L2 ls ⟨_, _, hSS, hM2, hO⟩ hS (lv_sub hl [2, 3, 4, 5, 6] rfl)

theorem lc_orderLike {p : Program} {l : Launch} {e : Env} {s : State} {m : MethodId} {below : List Frame} {meth : Method} {c : Code} {b L : Nat} {xs : Nat → Int32} {G : Cx} {SA : Nat → Nat} {am xa out : Nat} (Z : LX p l e s m meth c b L xs G SA out) : LStep p l e s m below meth c b L G SA am xa out 1883 := by
  intro k H locs cells slots i ls Q hI hS hi hc hs hl kk
  obtain ⟨hx, hb, hml, hown, hts, hC, hX, hbl, hL, hst, hSA, hSo, hout⟩ := Z
  have hK := hC.1
  have hA : ∀ q : Nat, s.heap.size ≤ q → A0f s.heap.size q := fun q h => h
  have hbA : ¬ A0f s.heap.size b := Nat.not_le_of_lt hbl
  obtain ⟨X, es, hSS, ⟨th, hM⟩, hO⟩ := hI
  obtain ⟨y1, e1⟩ : ∃ y, xs (nI (i + 1)).toNatClampNeg = y := ⟨_, rfl⟩
  obtain ⟨y2, e2⟩ : ∃ y, xs (nI (i + 2)).toNatClampNeg = y := ⟨_, rfl⟩
  refine lv_aload_n hx hb dL_law_1883 rfl (lv_at hl 1 rfl) ?_
  refine lv_aload_n hx hb dL_law_1884 rfl (lv_at hl 0 rfl) ?_
  refine lv_iload hx hb dL_law_1885 (lv_at hl 4 rfl) ?_
  refine lv_iconst (v := nI 1) hx hb dL_law_1887 (by decide) ?_
  refine lv_iadd hx hb dL_law_1888 ?_
  refine lv_cv (nI_add i 1) ?_
  refine va_sld hx hb hX hbl hbA hS (vp_in_nI (n := i + 1) (N := L) (by omega) (by omega)) dL_law_1889 ?_
  refine lv_cv e1 ?_
  refine lv_aload_n hx hb dL_law_1890 rfl (lv_at hl 0 rfl) ?_
  refine lv_iload hx hb dL_law_1891 (lv_at hl 4 rfl) ?_
  refine lv_iconst (v := nI 2) hx hb dL_law_1893 (by decide) ?_
  refine lv_iadd hx hb dL_law_1894 ?_
  refine lv_cv (nI_add i 2) ?_
  refine va_sld hx hb hX hbl hbA hS (vp_in_nI (n := i + 2) (N := L) (by omega) (by omega)) dL_law_1895 ?_
  refine lv_cv e2 ?_
  refine lv_aload_n hx hb dL_law_1896 rfl (lv_at hl 3 rfl) ?_
  refine qI_SW (A := A0f s.heap.size) (A1 := (A1f SA out H.size)) (As := [.ref (SA 0), .int y1, .int y2, .ref out]) (rest := []) ⟨hx, hb, hml, hown, hts⟩ (mL_orderLike (A := (A1f SA out H.size)) hst (out := out) (SA := SA) (X := X) (es := es) (k := k) (fun i hi => Or.inl ⟨i, hi, rfl⟩) (Or.inr (Or.inl rfl)) hSo) (vx_cwSW 4 hts (gSW tw_4_103 tw_4_104 tw_1_0 cw_orderLike) rfl rfl rfl (by decide +kernel) ⟨Nat.le_of_ble_eq_true rfl, Nat.le_of_ble_eq_true rfl⟩) hC hS (A1f_in hSA hout hS.1) (fun q h => Or.inr (Or.inr h)) ⟨hSS, hO⟩ rfl rfl hl.1 (Nat.le_of_ble_eq_true rfl) ⟨Nat.le_trans (by omega) hc, Nat.le_trans (by omega) hs⟩ dL_law_1897 (fun r1 H1 L1 hP hk hS => ?_)
  have h60 := hM.h60
  have he := hM.he
  have hM := MW.kc hK hSS hM hO hk
  have hN : ∃ (v : Int32) (X1 : Nat → List Nat) (es1 : List Nat), RP_orderLike X es y1 y2 r1 v X1 es1 ∧ SS G SA X1 es1 k H1 ∧ ∃ (n : Int64) (w : Value), va_at G.1 vwCl (out, .inr (7, [.long n, w])) H1 ∧ (r1 = 0 → n = v.toInt64) := by
    rcases hP with ⟨e0, v9, H0, hv, hk0, w9, hO1⟩ | ⟨e0, c0, hS1, n0, w0, hO1⟩
    · obtain ⟨z0, z1, q0, q1, q2, q3, q4, hS1⟩ := hv
      exact ⟨v9, _, _, Or.inl ⟨e0, z0, z1, q0, q1, q2, q3, q4, rfl, rfl⟩, hS1.kp hk0 (fun i hi e => hSo i hi e), _, _, hO1, fun _ => rfl⟩
    · exact ⟨0, _, _, Or.inr (⟨e0, c0, rfl, rfl⟩), hS1, _, _, hO1, fun e => absurd (e0.symm.trans e) (by decide)⟩
  obtain ⟨v1, X1, es1, hR1, hSS, n1, w1, hO, hn1⟩ := hN
  refine lv_istore (lv' := [(5, .int r1), (0, .ref b), (1, .ref (SA 0)), (2, .ref am), (3, .ref out), (4, .int (nI i))]) hx hb dL_law_1900 hl (by decide) rfl (fun ls hl => ?_)
  refine lv_aload_n hx hb dL_law_1902 rfl (lv_at hl 3 rfl) ?_
  refine lv_aload_n hx hb dL_law_1903 rfl (lv_at hl 1 rfl) ?_
  refine lv_iload hx hb dL_law_1904 (lv_at hl 5 rfl) ?_
  refine lv_iconst (v := nI 1) hx hb dL_law_1906 (by decide) ?_
  refine lv_iadd hx hb dL_law_1907 ?_
  refine lv_cv (nI_add i 1) ?_
  refine va_sld hx hb hX hbl hbA hS (vp_in_nI (n := i + 1) (N := L) (by omega) (by omega)) dL_law_1908 ?_
  refine lv_cv e1 ?_
  refine lv_aload_n hx hb dL_law_1909 rfl (lv_at hl 1 rfl) ?_
  refine lv_iload hx hb dL_law_1910 (lv_at hl 5 rfl) ?_
  refine lv_iconst (v := nI 2) hx hb dL_law_1912 (by decide) ?_
  refine lv_iadd hx hb dL_law_1913 ?_
  refine lv_cv (nI_add i 2) ?_
  refine va_sld hx hb hX hbl hbA hS (vp_in_nI (n := i + 2) (N := L) (by omega) (by omega)) dL_law_1914 ?_
  refine lv_cv e2 ?_
  refine qI_V (A := A0f s.heap.size) (A1 := (A2f s.heap.size SA out)) (b := am) (As := [.int y1, .int y2]) (rest := []) ⟨hx, hb, hml, hown, hts⟩ (mX4_orderLike (A := (A2f s.heap.size SA out)) (am := am) (xa := xa) (X := X) (P := pcL (X 14) es) (k := k) (th := th)) (cwV 2 hts (gV tw_6_230 tw_6_231 tw_6_232 tw_1_8 tw_6_233) rfl rfl rfl (by decide +kernel) ⟨Nat.le_of_ble_eq_true rfl, Nat.le_of_ble_eq_true rfl⟩) hC hS (fun q h => h.1) (A2f_new hSS ⟨_, _, hO⟩ hS.1) (hM.recv hK) hM rfl rfl hl.1 (Nat.le_of_ble_eq_true rfl) ⟨Nat.le_trans (by omega) hc, Nat.le_trans (by omega) hs⟩ dL_law_1915 (fun r2 H2 L2 hP hk hS => ?_)
  have hSS := hSS.kp hk (fun i hi h => h.2.1 i hi rfl)
  have hO := at_kp hO hk (fun h => h.2.2 rfl)
  have hM2 : ∃ (X2 : Nat → List Nat) (es2 : List Nat) (th2 : Int32), RP_orderLike X es y1 y2 th2 r2 X2 es2 ∧ MW G (A2f s.heap.size SA out) am xa X2 (pcL (X2 14) es2) k th2 H2 := by
    rcases hP with ⟨c0, -, h9⟩ | ⟨z0, z1, q0, q1, q2, q3, q4, h9⟩
    · exact ⟨_, _, _, Or.inr (⟨rfl, c0, rfl, rfl⟩), h9⟩
    · exact ⟨_, _, _, Or.inl ⟨rfl, z0, z1, q0, q1, q2, q3, q4, rfl, rfl⟩, h9⟩
  obtain ⟨X2, es2, th2, hR2, hM⟩ := hM2
  obtain ⟨ec, eX, ee, ev⟩ := ag_orderLike h60 he hR1 hR2
  subst eX
  subst ee
  refine lv_istore (lv' := [(6, .int r2), (5, .int r1), (0, .ref b), (1, .ref (SA 0)), (2, .ref am), (3, .ref out), (4, .int (nI i))]) hx hb dL_law_1918 hl (by decide) rfl (fun ls hl => ?_)
  refine lv_aload_n hx hb dL_law_1920 rfl (lv_at hl 4 rfl) ?_
  refine kV_i (A := A0f s.heap.size) (b := am) (As := []) (rest := []) ⟨hx, hb, hml, hown, hts⟩ (mX4_thrown (A := A0f s.heap.size) (A2 := A2f s.heap.size SA out) (am := am) (xa := xa) (th := th2)) (cwV 0 hts (gV tv_4_188 tv_4_189 tv_4_190 tw_1_8 tv_4_191) rfl rfl rfl (by decide +kernel) ⟨Nat.le_of_ble_eq_true rfl, Nat.le_of_ble_eq_true rfl⟩) hC hS hA (hM.recv hK) ⟨_, _, _, hM⟩ rfl rfl hl.1 (Nat.le_of_ble_eq_true rfl) ⟨Nat.le_trans (by omega) hc, Nat.le_trans (by omega) hs⟩ dL_law_1921 (fun r9 h9 => lv_cv h9 ?_)
  refine lv_iload hx hb dL_law_1924 (lv_at hl 1 rfl) ?_
  refine lv_icmp_eq (tgt := 1931) hx hb dL_law_1926 (by decide) (fun c_44 => ?_) (fun c_44 => ?_)
  · refine lv_iload hx hb dL_law_1931 (lv_at hl 1 rfl) ?_
    refine lv_if_ne (tgt := 1949) hx hb dL_law_1933 (by decide) (fun c_45 => ?_) (fun c_45 => ?_)
    · refine lv_goto (tgt := 2115) hx hb dL_law_1949 (by decide) ?_
      refine W.widen (k := cells + 140) (n := slots + 9600) (by omega) (by omega) ?_
      exact kk k H2 L2 ls ⟨_, _, hSS, ⟨_, hM⟩, _, _, hO⟩ hS (lv_sub hl [2, 3, 4, 5, 6] rfl)
    · refine lv_aload_n hx hb dL_law_1936 rfl (lv_at hl 5 rfl) ?_
      have hr0 : r1 = 0 := by first | exact c_45 | exact Decidable.not_not.mp c_45
      have hn1 := hn1 hr0
      have ev := ev hr0
      refine va_getN (D := G.1) (ci := 7) (C := RX3) (T := TX3) (N := 2) hx hb hts inX3 hown hK (at_P hO) 0 rfl rfl 0 (by decide) (va_Nw.use rfl hC.2.2.2.2.2.2.2.2.2.2.2.2.2.1) (fun _ h9 => h9) rfl dL_law_1937 ?_
      refine lv_iload hx hb dL_law_1940 (lv_at hl 0 rfl) ?_
      refine lv_i2l hx hb dL_law_1942 rfl ?_
      refine W.lcmp hx hb dL_law_1943 ?_
      rw [hn1, ev, lg_cmp_self]
      refine lv_if_eq (tgt := 1949) hx hb dL_law_1944 (by decide) (fun c_46 => ?_) (fun c_46 => ?_)
      · refine lv_goto (tgt := 2115) hx hb dL_law_1949 (by decide) ?_
        refine W.widen (k := cells + 140) (n := slots + 9600) (by omega) (by omega) ?_
        exact kk k H2 L2 ls ⟨_, _, hSS, ⟨_, hM⟩, _, _, hO⟩ hS (lv_sub hl [2, 3, 4, 5, 6] rfl)
      · exact absurd rfl c_46
  · exact absurd ec.symm c_44

theorem lc_row {p : Program} {l : Launch} {e : Env} {s : State} {m : MethodId} {below : List Frame} {meth : Method} {c : Code} {b L : Nat} {xs : Nat → Int32} {G : Cx} {SA : Nat → Nat} {am xa out : Nat} (Z : LX p l e s m meth c b L xs G SA out) : LStep p l e s m below meth c b L G SA am xa out 1952 := by
  intro k H locs cells slots i ls Q hI hS hi hc hs hl kk
  obtain ⟨hx, hb, hml, hown, hts, hC, hX, hbl, hL, hst, hSA, hSo, hout⟩ := Z
  have hK := hC.1
  have hA : ∀ q : Nat, s.heap.size ≤ q → A0f s.heap.size q := fun q h => h
  have hbA : ¬ A0f s.heap.size b := Nat.not_le_of_lt hbl
  obtain ⟨X, es, hSS, ⟨th, hM⟩, hO⟩ := hI
  refine lv_aload_n hx hb dL_law_1952 rfl (lv_at hl 1 rfl) ?_
  refine qR_V (A := A0f s.heap.size) (A1 := (fun q => (∃ i : Nat, i < 39 ∧ q = SA i) ∨ H.size ≤ q)) (b := SA 0) (As := []) (rest := []) ⟨hx, hb, hml, hown, hts⟩ (mX2_row (A := (fun q => (∃ i : Nat, i < 39 ∧ q = SA i) ∨ H.size ≤ q)) (SA := SA) (X := X) (es := es) (k := k) (fun i hi => Or.inl ⟨i, hi, rfl⟩)) (cwV 0 hts (gV tv_1_167 tw_1_168 tw_1_169 tw_1_1 tw_1_170) rfl rfl rfl (by decide +kernel) ⟨Nat.le_of_ble_eq_true rfl, Nat.le_of_ble_eq_true rfl⟩) hC hS (fun q h => A1f_in (out := out) hSA hout hS.1 q (h.elim Or.inl (fun h => Or.inr (Or.inr h)))) (fun q h => Or.inr h) (hSS.recv hK) hSS rfl rfl hl.1 (Nat.le_of_ble_eq_true rfl) ⟨Nat.le_trans (by omega) hc, Nat.le_trans (by omega) hs⟩ dL_law_1953 (fun r1 H1 L1 hP hk hS => ?_)
  have hM := MW.kc hK hSS hM hO (hk.wk (fun q _ h => h.elim Or.inl (fun h => Or.inr (Or.inr h))))
  have hO := hO.kp hk (fun h => h.elim (fun ⟨i, hi, e⟩ => hSo i hi e.symm) (fun h => absurd hO.lt (Nat.not_lt_of_le h)))
  have hSS := hP
  refine lv_pop hx hb dL_law_1956 rfl ?_
  refine lv_aload_n hx hb dL_law_1957 rfl (lv_at hl 2 rfl) ?_
  refine qR_V (A := A0f s.heap.size) (A1 := (A2f s.heap.size SA out)) (b := am) (As := []) (rest := []) ⟨hx, hb, hml, hown, hts⟩ (mX4_row (A := (A2f s.heap.size SA out)) (am := am) (xa := xa) (X := X) (P := pcL (X 14) es) (k := k) (th := th)) (cwV 0 hts (gV tv_6_238 tw_6_235 tw_6_236 tw_1_8 tw_6_237) rfl rfl rfl (by decide +kernel) ⟨Nat.le_of_ble_eq_true rfl, Nat.le_of_ble_eq_true rfl⟩) hC hS (fun q h => h.1) (A2f_new hSS hO hS.1) (hM.recv hK) hM rfl rfl hl.1 (Nat.le_of_ble_eq_true rfl) ⟨Nat.le_trans (by omega) hc, Nat.le_trans (by omega) hs⟩ dL_law_1958 (fun r2 H2 L2 hP hk hS => ?_)
  have hSS := hSS.kp hk (fun i hi h => h.2.1 i hi rfl)
  have hO := hO.kp hk (fun h => h.2.2 rfl)
  have hM2 : ∃ th, MW G (A2f s.heap.size SA out) am xa X (pcL (X 14) es) k th H2 := by
    have h9 := hP
    exact ⟨_, h9⟩
  refine lv_pop hx hb dL_law_1961 rfl ?_
  refine lv_goto (tgt := 2115) hx hb dL_law_1962 (by decide) ?_
  refine W.widen (k := cells + 140) (n := slots + 9600) (by omega) (by omega) ?_
  exact kk k H2 L2 ls ⟨_, _, hSS, hM2, hO⟩ hS (lv_sub hl [0, 1, 2, 3, 4] rfl)

theorem lc_rowAt {p : Program} {l : Launch} {e : Env} {s : State} {m : MethodId} {below : List Frame} {meth : Method} {c : Code} {b L : Nat} {xs : Nat → Int32} {G : Cx} {SA : Nat → Nat} {am xa out : Nat} (Z : LX p l e s m meth c b L xs G SA out) : LStep p l e s m below meth c b L G SA am xa out 1965 := by
  intro k H locs cells slots i ls Q hI hS hi hc hs hl kk
  obtain ⟨hx, hb, hml, hown, hts, hC, hX, hbl, hL, hst, hSA, hSo, hout⟩ := Z
  have hK := hC.1
  have hA : ∀ q : Nat, s.heap.size ≤ q → A0f s.heap.size q := fun q h => h
  have hbA : ¬ A0f s.heap.size b := Nat.not_le_of_lt hbl
  obtain ⟨X, es, hSS, ⟨th, hM⟩, hO⟩ := hI
  obtain ⟨y1, e1⟩ : ∃ y, xs (nI (i + 1)).toNatClampNeg = y := ⟨_, rfl⟩
  refine lv_aload_n hx hb dL_law_1965 rfl (lv_at hl 1 rfl) ?_
  refine lv_aload_n hx hb dL_law_1966 rfl (lv_at hl 0 rfl) ?_
  refine lv_iload hx hb dL_law_1967 (lv_at hl 4 rfl) ?_
  refine lv_iconst (v := nI 1) hx hb dL_law_1969 (by decide) ?_
  refine lv_iadd hx hb dL_law_1970 ?_
  refine lv_cv (nI_add i 1) ?_
  refine va_sld hx hb hX hbl hbA hS (vp_in_nI (n := i + 1) (N := L) (by omega) (by omega)) dL_law_1971 ?_
  refine lv_cv e1 ?_
  refine lv_aload_n hx hb dL_law_1972 rfl (lv_at hl 3 rfl) ?_
  refine qI_SW (A := A0f s.heap.size) (A1 := (A1f SA out H.size)) (As := [.ref (SA 0), .int y1, .ref out]) (rest := []) ⟨hx, hb, hml, hown, hts⟩ (mL_rowAt (A := (A1f SA out H.size)) hst (out := out) (SA := SA) (X := X) (es := es) (k := k) (fun i hi => Or.inl ⟨i, hi, rfl⟩) (Or.inr (Or.inl rfl)) hSo) (vx_cwSW 3 hts (gSW tv_4_110 tw_4_111 tw_1_0 cw_rowAt) rfl rfl rfl (by decide +kernel) ⟨Nat.le_of_ble_eq_true rfl, Nat.le_of_ble_eq_true rfl⟩) hC hS (A1f_in hSA hout hS.1) (fun q h => Or.inr (Or.inr h)) ⟨hSS, hO⟩ rfl rfl hl.1 (Nat.le_of_ble_eq_true rfl) ⟨Nat.le_trans (by omega) hc, Nat.le_trans (by omega) hs⟩ dL_law_1973 (fun r1 H1 L1 hP hk hS => ?_)
  have h60 := hM.h60
  have he := hM.he
  have hM := MW.kc hK hSS hM hO hk
  have hN : SS G SA X es k H1 ∧ OA G out H1 := by
    rcases hP with ⟨-, v9, H0, hv, hk0, w9, hO1⟩ | ⟨-, -, hS1, hO1⟩
    · obtain ⟨_, -, -, -, hS1⟩ := hv
      exact ⟨hS1.kp hk0 (fun i hi e => hSo i hi e), ⟨_, _, hO1⟩⟩
    · exact ⟨hS1, hO1⟩
  obtain ⟨hSS, hO⟩ := hN
  refine lv_istore (lv' := [(5, .int r1), (0, .ref b), (1, .ref (SA 0)), (2, .ref am), (3, .ref out), (4, .int (nI i))]) hx hb dL_law_1976 hl (by decide) rfl (fun ls hl => ?_)
  refine lv_aload_n hx hb dL_law_1978 rfl (lv_at hl 3 rfl) ?_
  refine lv_aload_n hx hb dL_law_1979 rfl (lv_at hl 1 rfl) ?_
  refine lv_iload hx hb dL_law_1980 (lv_at hl 5 rfl) ?_
  refine lv_iconst (v := nI 1) hx hb dL_law_1982 (by decide) ?_
  refine lv_iadd hx hb dL_law_1983 ?_
  refine lv_cv (nI_add i 1) ?_
  refine va_sld hx hb hX hbl hbA hS (vp_in_nI (n := i + 1) (N := L) (by omega) (by omega)) dL_law_1984 ?_
  refine lv_cv e1 ?_
  refine qI_V (A := A0f s.heap.size) (A1 := (A2f s.heap.size SA out)) (b := am) (As := [.int y1]) (rest := []) ⟨hx, hb, hml, hown, hts⟩ (mX4_rowAt (A := (A2f s.heap.size SA out)) (am := am) (xa := xa) (X := X) (P := pcL (X 14) es) (k := k) (th := th)) (cwV 1 hts (gV tv_7_2 tw_6_239 tw_7_0 tw_1_8 tw_7_1) rfl rfl rfl (by decide +kernel) ⟨Nat.le_of_ble_eq_true rfl, Nat.le_of_ble_eq_true rfl⟩) hC hS (fun q h => h.1) (A2f_new hSS hO hS.1) (hM.recv hK) hM rfl rfl hl.1 (Nat.le_of_ble_eq_true rfl) ⟨Nat.le_trans (by omega) hc, Nat.le_trans (by omega) hs⟩ dL_law_1985 (fun r2 H2 L2 hP hk hS => ?_)
  have hSS := hSS.kp hk (fun i hi h => h.2.1 i hi rfl)
  have hO := hO.kp hk (fun h => h.2.2 rfl)
  have hM2 : ∃ th, MW G (A2f s.heap.size SA out) am xa X (pcL (X 14) es) k th H2 := by
    rcases hP with ⟨-, -, h9⟩ | ⟨_, -, -, -, h9⟩
    · exact ⟨_, h9⟩
    · exact ⟨_, h9⟩
  refine lv_istore (lv' := [(6, .int r2), (5, .int r1), (0, .ref b), (1, .ref (SA 0)), (2, .ref am), (3, .ref out), (4, .int (nI i))]) hx hb dL_law_1988 hl (by decide) rfl (fun ls hl => ?_)
  refine lv_goto (tgt := 2115) hx hb dL_law_1990 (by decide) ?_
  refine W.widen (k := cells + 140) (n := slots + 9600) (by omega) (by omega) ?_
  exact kk k H2 L2 ls ⟨_, _, hSS, hM2, hO⟩ hS (lv_sub hl [2, 3, 4, 5, 6] rfl)

theorem lc_piece {p : Program} {l : Launch} {e : Env} {s : State} {m : MethodId} {below : List Frame} {meth : Method} {c : Code} {b L : Nat} {xs : Nat → Int32} {G : Cx} {SA : Nat → Nat} {am xa out : Nat} (Z : LX p l e s m meth c b L xs G SA out) : LStep p l e s m below meth c b L G SA am xa out 1993 := by
  intro k H locs cells slots i ls Q hI hS hi hc hs hl kk
  obtain ⟨hx, hb, hml, hown, hts, hC, hX, hbl, hL, hst, hSA, hSo, hout⟩ := Z
  have hK := hC.1
  have hA : ∀ q : Nat, s.heap.size ≤ q → A0f s.heap.size q := fun q h => h
  have hbA : ¬ A0f s.heap.size b := Nat.not_le_of_lt hbl
  obtain ⟨X, es, hSS, ⟨th, hM⟩, hO⟩ := hI
  obtain ⟨y1, e1⟩ : ∃ y, xs (nI (i + 1)).toNatClampNeg = y := ⟨_, rfl⟩
  refine lv_aload_n hx hb dL_law_1993 rfl (lv_at hl 1 rfl) ?_
  refine lv_aload_n hx hb dL_law_1994 rfl (lv_at hl 0 rfl) ?_
  refine lv_iload hx hb dL_law_1995 (lv_at hl 4 rfl) ?_
  refine lv_iconst (v := nI 1) hx hb dL_law_1997 (by decide) ?_
  refine lv_iadd hx hb dL_law_1998 ?_
  refine lv_cv (nI_add i 1) ?_
  refine va_sld hx hb hX hbl hbA hS (vp_in_nI (n := i + 1) (N := L) (by omega) (by omega)) dL_law_1999 ?_
  refine lv_cv e1 ?_
  refine lv_aload_n hx hb dL_law_2000 rfl (lv_at hl 3 rfl) ?_
  refine qI_SW (A := A0f s.heap.size) (A1 := (A1f SA out H.size)) (As := [.ref (SA 0), .int y1, .ref out]) (rest := []) ⟨hx, hb, hml, hown, hts⟩ (mL_piece (A := (A1f SA out H.size)) hst (out := out) (SA := SA) (X := X) (es := es) (k := k) (fun i hi => Or.inl ⟨i, hi, rfl⟩) (Or.inr (Or.inl rfl)) hSo) (vx_cwSW 3 hts (gSW tv_4_117 tw_4_118 tw_1_0 cw_piece) rfl rfl rfl (by decide +kernel) ⟨Nat.le_of_ble_eq_true rfl, Nat.le_of_ble_eq_true rfl⟩) hC hS (A1f_in hSA hout hS.1) (fun q h => Or.inr (Or.inr h)) ⟨hSS, hO⟩ rfl rfl hl.1 (Nat.le_of_ble_eq_true rfl) ⟨Nat.le_trans (by omega) hc, Nat.le_trans (by omega) hs⟩ dL_law_2001 (fun r1 H1 L1 hP hk hS => ?_)
  have h60 := hM.h60
  have he := hM.he
  have hM := MW.kc hK hSS hM hO hk
  have hN : SS G SA X es k H1 ∧ OA G out H1 := by
    rcases hP with ⟨-, v9, H0, hv, hk0, w9, hO1⟩ | ⟨-, -, hS1, hO1⟩
    · obtain ⟨-, hS1⟩ := hv
      exact ⟨hS1.kp hk0 (fun i hi e => hSo i hi e), ⟨_, _, hO1⟩⟩
    · exact ⟨hS1, hO1⟩
  obtain ⟨hSS, hO⟩ := hN
  refine lv_istore (lv' := [(5, .int r1), (0, .ref b), (1, .ref (SA 0)), (2, .ref am), (3, .ref out), (4, .int (nI i))]) hx hb dL_law_2004 hl (by decide) rfl (fun ls hl => ?_)
  refine lv_aload_n hx hb dL_law_2006 rfl (lv_at hl 3 rfl) ?_
  refine lv_aload_n hx hb dL_law_2007 rfl (lv_at hl 1 rfl) ?_
  refine lv_iload hx hb dL_law_2008 (lv_at hl 5 rfl) ?_
  refine lv_iconst (v := nI 1) hx hb dL_law_2010 (by decide) ?_
  refine lv_iadd hx hb dL_law_2011 ?_
  refine lv_cv (nI_add i 1) ?_
  refine va_sld hx hb hX hbl hbA hS (vp_in_nI (n := i + 1) (N := L) (by omega) (by omega)) dL_law_2012 ?_
  refine lv_cv e1 ?_
  refine qR_V (A := A0f s.heap.size) (A1 := (A2f s.heap.size SA out)) (b := am) (As := [.int y1]) (rest := []) ⟨hx, hb, hml, hown, hts⟩ (mX4_piece (A := (A2f s.heap.size SA out)) (am := am) (xa := xa) (X := X) (P := pcL (X 14) es) (k := k) (th := th)) (cwV 1 hts (gV tv_7_6 tw_7_3 tw_7_4 tw_1_8 tw_7_5) rfl rfl rfl (by decide +kernel) ⟨Nat.le_of_ble_eq_true rfl, Nat.le_of_ble_eq_true rfl⟩) hC hS (fun q h => h.1) (A2f_new hSS hO hS.1) (hM.recv hK) hM rfl rfl hl.1 (Nat.le_of_ble_eq_true rfl) ⟨Nat.le_trans (by omega) hc, Nat.le_trans (by omega) hs⟩ dL_law_2013 (fun r2 H2 L2 hP hk hS => ?_)
  have hSS := hSS.kp hk (fun i hi h => h.2.1 i hi rfl)
  have hO := hO.kp hk (fun h => h.2.2 rfl)
  have hM2 : ∃ th, MW G (A2f s.heap.size SA out) am xa X (pcL (X 14) es) k th H2 := by
    rcases hP with ⟨-, h9⟩ | ⟨-, h9⟩
    · exact ⟨_, h9⟩
    · exact ⟨_, h9⟩
  refine lv_astore (lv' := [(6, .ref r2), (5, .int r1), (0, .ref b), (1, .ref (SA 0)), (2, .ref am), (3, .ref out), (4, .int (nI i))]) hx hb dL_law_2016 hl (by decide) rfl (fun ls hl => ?_)
  refine lv_goto (tgt := 2115) hx hb dL_law_2018 (by decide) ?_
  refine W.widen (k := cells + 140) (n := slots + 9600) (by omega) (by omega) ?_
  exact kk k H2 L2 ls ⟨_, _, hSS, hM2, hO⟩ hS (lv_sub hl [2, 3, 4, 5, 6] rfl)

theorem lc_isPiece {p : Program} {l : Launch} {e : Env} {s : State} {m : MethodId} {below : List Frame} {meth : Method} {c : Code} {b L : Nat} {xs : Nat → Int32} {G : Cx} {SA : Nat → Nat} {am xa out : Nat} (Z : LX p l e s m meth c b L xs G SA out) : LStep p l e s m below meth c b L G SA am xa out 2021 := by
  intro k H locs cells slots i ls Q hI hS hi hc hs hl kk
  obtain ⟨hx, hb, hml, hown, hts, hC, hX, hbl, hL, hst, hSA, hSo, hout⟩ := Z
  have hK := hC.1
  have hA : ∀ q : Nat, s.heap.size ≤ q → A0f s.heap.size q := fun q h => h
  have hbA : ¬ A0f s.heap.size b := Nat.not_le_of_lt hbl
  obtain ⟨X, es, hSS, ⟨th, hM⟩, hO⟩ := hI
  obtain ⟨y1, e1⟩ : ∃ y, xs (nI (i + 1)).toNatClampNeg = y := ⟨_, rfl⟩
  obtain ⟨y2, e2⟩ : ∃ y, xs (nI (i + 2)).toNatClampNeg = y := ⟨_, rfl⟩
  refine lv_aload_n hx hb dL_law_2021 rfl (lv_at hl 1 rfl) ?_
  refine lv_aload_n hx hb dL_law_2022 rfl (lv_at hl 0 rfl) ?_
  refine lv_iload hx hb dL_law_2023 (lv_at hl 4 rfl) ?_
  refine lv_iconst (v := nI 1) hx hb dL_law_2025 (by decide) ?_
  refine lv_iadd hx hb dL_law_2026 ?_
  refine lv_cv (nI_add i 1) ?_
  refine va_sld hx hb hX hbl hbA hS (vp_in_nI (n := i + 1) (N := L) (by omega) (by omega)) dL_law_2027 ?_
  refine lv_cv e1 ?_
  refine lv_aload_n hx hb dL_law_2028 rfl (lv_at hl 0 rfl) ?_
  refine lv_iload hx hb dL_law_2029 (lv_at hl 4 rfl) ?_
  refine lv_iconst (v := nI 2) hx hb dL_law_2031 (by decide) ?_
  refine lv_iadd hx hb dL_law_2032 ?_
  refine lv_cv (nI_add i 2) ?_
  refine va_sld hx hb hX hbl hbA hS (vp_in_nI (n := i + 2) (N := L) (by omega) (by omega)) dL_law_2033 ?_
  refine lv_cv e2 ?_
  refine lv_aload_n hx hb dL_law_2034 rfl (lv_at hl 3 rfl) ?_
  refine qI_SW (A := A0f s.heap.size) (A1 := (A1f SA out H.size)) (As := [.ref (SA 0), .int y1, .int y2, .ref out]) (rest := []) ⟨hx, hb, hml, hown, hts⟩ (mL_isPiece (A := (A1f SA out H.size)) hst (out := out) (SA := SA) (X := X) (es := es) (k := k) (fun i hi => Or.inl ⟨i, hi, rfl⟩) (Or.inr (Or.inl rfl)) hSo) (vx_cwSW 4 hts (gSW tv_4_124 tw_4_125 tw_1_0 cw_isPiece) rfl rfl rfl (by decide +kernel) ⟨Nat.le_of_ble_eq_true rfl, Nat.le_of_ble_eq_true rfl⟩) hC hS (A1f_in hSA hout hS.1) (fun q h => Or.inr (Or.inr h)) ⟨hSS, hO⟩ rfl rfl hl.1 (Nat.le_of_ble_eq_true rfl) ⟨Nat.le_trans (by omega) hc, Nat.le_trans (by omega) hs⟩ dL_law_2035 (fun r1 H1 L1 hP hk hS => ?_)
  have h60 := hM.h60
  have he := hM.he
  have hM := MW.kc hK hSS hM hO hk
  have hN : SS G SA X es k H1 ∧ OA G out H1 := by
    rcases hP with ⟨-, v9, H0, hv, hk0, w9, hO1⟩ | ⟨-, -, hS1, hO1⟩
    · obtain ⟨_, _, _, -, -, -, -, -, -, hS1⟩ := hv
      exact ⟨hS1.kp hk0 (fun i hi e => hSo i hi e), ⟨_, _, hO1⟩⟩
    · exact ⟨hS1, hO1⟩
  obtain ⟨hSS, hO⟩ := hN
  refine lv_istore (lv' := [(5, .int r1), (0, .ref b), (1, .ref (SA 0)), (2, .ref am), (3, .ref out), (4, .int (nI i))]) hx hb dL_law_2038 hl (by decide) rfl (fun ls hl => ?_)
  refine lv_aload_n hx hb dL_law_2040 rfl (lv_at hl 3 rfl) ?_
  refine lv_aload_n hx hb dL_law_2041 rfl (lv_at hl 1 rfl) ?_
  refine lv_iload hx hb dL_law_2042 (lv_at hl 5 rfl) ?_
  refine lv_iconst (v := nI 1) hx hb dL_law_2044 (by decide) ?_
  refine lv_iadd hx hb dL_law_2045 ?_
  refine lv_cv (nI_add i 1) ?_
  refine va_sld hx hb hX hbl hbA hS (vp_in_nI (n := i + 1) (N := L) (by omega) (by omega)) dL_law_2046 ?_
  refine lv_cv e1 ?_
  refine lv_aload_n hx hb dL_law_2047 rfl (lv_at hl 1 rfl) ?_
  refine lv_iload hx hb dL_law_2048 (lv_at hl 5 rfl) ?_
  refine lv_iconst (v := nI 2) hx hb dL_law_2050 (by decide) ?_
  refine lv_iadd hx hb dL_law_2051 ?_
  refine lv_cv (nI_add i 2) ?_
  refine va_sld hx hb hX hbl hbA hS (vp_in_nI (n := i + 2) (N := L) (by omega) (by omega)) dL_law_2052 ?_
  refine lv_cv e2 ?_
  refine qI_V (A := A0f s.heap.size) (A1 := (A2f s.heap.size SA out)) (b := am) (As := [.int y1, .int y2]) (rest := []) ⟨hx, hb, hml, hown, hts⟩ (mX4_isPiece (A := (A2f s.heap.size SA out)) (am := am) (xa := xa) (X := X) (P := pcL (X 14) es) (k := k) (th := th)) (cwV 2 hts (gV tv_7_10 tw_7_7 tw_7_8 tw_1_8 tw_7_9) rfl rfl rfl (by decide +kernel) ⟨Nat.le_of_ble_eq_true rfl, Nat.le_of_ble_eq_true rfl⟩) hC hS (fun q h => h.1) (A2f_new hSS hO hS.1) (hM.recv hK) hM rfl rfl hl.1 (Nat.le_of_ble_eq_true rfl) ⟨Nat.le_trans (by omega) hc, Nat.le_trans (by omega) hs⟩ dL_law_2053 (fun r2 H2 L2 hP hk hS => ?_)
  have hSS := hSS.kp hk (fun i hi h => h.2.1 i hi rfl)
  have hO := hO.kp hk (fun h => h.2.2 rfl)
  have hM2 : ∃ th, MW G (A2f s.heap.size SA out) am xa X (pcL (X 14) es) k th H2 := by
    rcases hP with ⟨-, -, h9⟩ | ⟨_, _, _, -, -, -, -, -, -, h9⟩
    · exact ⟨_, h9⟩
    · exact ⟨_, h9⟩
  refine lv_istore (lv' := [(6, .int r2), (5, .int r1), (0, .ref b), (1, .ref (SA 0)), (2, .ref am), (3, .ref out), (4, .int (nI i))]) hx hb dL_law_2056 hl (by decide) rfl (fun ls hl => ?_)
  refine lv_goto (tgt := 2115) hx hb dL_law_2058 (by decide) ?_
  refine W.widen (k := cells + 140) (n := slots + 9600) (by omega) (by omega) ?_
  exact kk k H2 L2 ls ⟨_, _, hSS, hM2, hO⟩ hS (lv_sub hl [2, 3, 4, 5, 6] rfl)

theorem lc_house {p : Program} {l : Launch} {e : Env} {s : State} {m : MethodId} {below : List Frame} {meth : Method} {c : Code} {b L : Nat} {xs : Nat → Int32} {G : Cx} {SA : Nat → Nat} {am xa out : Nat} (Z : LX p l e s m meth c b L xs G SA out) : LStep p l e s m below meth c b L G SA am xa out 2061 := by
  intro k H locs cells slots i ls Q hI hS hi hc hs hl kk
  obtain ⟨hx, hb, hml, hown, hts, hC, hX, hbl, hL, hst, hSA, hSo, hout⟩ := Z
  have hK := hC.1
  have hA : ∀ q : Nat, s.heap.size ≤ q → A0f s.heap.size q := fun q h => h
  have hbA : ¬ A0f s.heap.size b := Nat.not_le_of_lt hbl
  obtain ⟨X, es, hSS, ⟨th, hM⟩, hO⟩ := hI
  obtain ⟨y1, e1⟩ : ∃ y, xs (nI (i + 1)).toNatClampNeg = y := ⟨_, rfl⟩
  refine lv_aload_n hx hb dL_law_2061 rfl (lv_at hl 1 rfl) ?_
  refine lv_aload_n hx hb dL_law_2062 rfl (lv_at hl 0 rfl) ?_
  refine lv_iload hx hb dL_law_2063 (lv_at hl 4 rfl) ?_
  refine lv_iconst (v := nI 1) hx hb dL_law_2065 (by decide) ?_
  refine lv_iadd hx hb dL_law_2066 ?_
  refine lv_cv (nI_add i 1) ?_
  refine va_sld hx hb hX hbl hbA hS (vp_in_nI (n := i + 1) (N := L) (by omega) (by omega)) dL_law_2067 ?_
  refine lv_cv e1 ?_
  refine lv_aload_n hx hb dL_law_2068 rfl (lv_at hl 3 rfl) ?_
  refine qI_SW (A := A0f s.heap.size) (A1 := (A1f SA out H.size)) (As := [.ref (SA 0), .int y1, .ref out]) (rest := []) ⟨hx, hb, hml, hown, hts⟩ (mL_house (A := (A1f SA out H.size)) hst (out := out) (SA := SA) (X := X) (es := es) (k := k) (fun i hi => Or.inl ⟨i, hi, rfl⟩) (Or.inr (Or.inl rfl)) hSo) (vx_cwSW 3 hts (gSW tv_4_131 tw_4_132 tw_1_0 cw_house) rfl rfl rfl (by decide +kernel) ⟨Nat.le_of_ble_eq_true rfl, Nat.le_of_ble_eq_true rfl⟩) hC hS (A1f_in hSA hout hS.1) (fun q h => Or.inr (Or.inr h)) ⟨hSS, hO⟩ rfl rfl hl.1 (Nat.le_of_ble_eq_true rfl) ⟨Nat.le_trans (by omega) hc, Nat.le_trans (by omega) hs⟩ dL_law_2069 (fun r1 H1 L1 hP hk hS => ?_)
  have h60 := hM.h60
  have he := hM.he
  have hM := MW.kc hK hSS hM hO hk
  have hN : SS G SA X es k H1 ∧ OA G out H1 := by
    rcases hP with ⟨-, v9, H0, hv, hk0, w9, hO1⟩ | ⟨-, -, hS1, hO1⟩
    · obtain ⟨_, -, -, -, hS1⟩ := hv
      exact ⟨hS1.kp hk0 (fun i hi e => hSo i hi e), ⟨_, _, hO1⟩⟩
    · exact ⟨hS1, hO1⟩
  obtain ⟨hSS, hO⟩ := hN
  refine lv_istore (lv' := [(5, .int r1), (0, .ref b), (1, .ref (SA 0)), (2, .ref am), (3, .ref out), (4, .int (nI i))]) hx hb dL_law_2072 hl (by decide) rfl (fun ls hl => ?_)
  refine lv_aload_n hx hb dL_law_2074 rfl (lv_at hl 3 rfl) ?_
  refine lv_aload_n hx hb dL_law_2075 rfl (lv_at hl 1 rfl) ?_
  refine lv_iload hx hb dL_law_2076 (lv_at hl 5 rfl) ?_
  refine lv_iconst (v := nI 1) hx hb dL_law_2078 (by decide) ?_
  refine lv_iadd hx hb dL_law_2079 ?_
  refine lv_cv (nI_add i 1) ?_
  refine va_sld hx hb hX hbl hbA hS (vp_in_nI (n := i + 1) (N := L) (by omega) (by omega)) dL_law_2080 ?_
  refine lv_cv e1 ?_
  refine qI_V (A := A0f s.heap.size) (A1 := (A2f s.heap.size SA out)) (b := am) (As := [.int y1]) (rest := []) ⟨hx, hb, hml, hown, hts⟩ (mX4_house (A := (A2f s.heap.size SA out)) (am := am) (xa := xa) (X := X) (P := pcL (X 14) es) (k := k) (th := th)) (cwV 1 hts (gV tv_7_14 tw_7_11 tw_7_12 tw_1_8 tw_7_13) rfl rfl rfl (by decide +kernel) ⟨Nat.le_of_ble_eq_true rfl, Nat.le_of_ble_eq_true rfl⟩) hC hS (fun q h => h.1) (A2f_new hSS hO hS.1) (hM.recv hK) hM rfl rfl hl.1 (Nat.le_of_ble_eq_true rfl) ⟨Nat.le_trans (by omega) hc, Nat.le_trans (by omega) hs⟩ dL_law_2081 (fun r2 H2 L2 hP hk hS => ?_)
  have hSS := hSS.kp hk (fun i hi h => h.2.1 i hi rfl)
  have hO := hO.kp hk (fun h => h.2.2 rfl)
  have hM2 : ∃ th, MW G (A2f s.heap.size SA out) am xa X (pcL (X 14) es) k th H2 := by
    rcases hP with ⟨-, -, h9⟩ | ⟨_, -, -, -, h9⟩
    · exact ⟨_, h9⟩
    · exact ⟨_, h9⟩
  refine lv_istore (lv' := [(6, .int r2), (5, .int r1), (0, .ref b), (1, .ref (SA 0)), (2, .ref am), (3, .ref out), (4, .int (nI i))]) hx hb dL_law_2084 hl (by decide) rfl (fun ls hl => ?_)
  refine lv_goto (tgt := 2115) hx hb dL_law_2086 (by decide) ?_
  refine W.widen (k := cells + 140) (n := slots + 9600) (by omega) (by omega) ?_
  exact kk k H2 L2 ls ⟨_, _, hSS, hM2, hO⟩ hS (lv_sub hl [2, 3, 4, 5, 6] rfl)

theorem lc_isSound {p : Program} {l : Launch} {e : Env} {s : State} {m : MethodId} {below : List Frame} {meth : Method} {c : Code} {b L : Nat} {xs : Nat → Int32} {G : Cx} {SA : Nat → Nat} {am xa out : Nat} (Z : LX p l e s m meth c b L xs G SA out) : LStep p l e s m below meth c b L G SA am xa out 2089 := by
  intro k H locs cells slots i ls Q hI hS hi hc hs hl kk
  obtain ⟨hx, hb, hml, hown, hts, hC, hX, hbl, hL, hst, hSA, hSo, hout⟩ := Z
  have hK := hC.1
  have hA : ∀ q : Nat, s.heap.size ≤ q → A0f s.heap.size q := fun q h => h
  have hbA : ¬ A0f s.heap.size b := Nat.not_le_of_lt hbl
  obtain ⟨X, es, hSS, ⟨th, hM⟩, hO⟩ := hI
  refine lv_aload_n hx hb dL_law_2089 rfl (lv_at hl 1 rfl) ?_
  refine qI_V (A := A0f s.heap.size) (A1 := (fun q => (∃ i : Nat, i < 39 ∧ q = SA i) ∨ H.size ≤ q)) (b := SA 0) (As := []) (rest := []) ⟨hx, hb, hml, hown, hts⟩ (mX2_isSound (A := (fun q => (∃ i : Nat, i < 39 ∧ q = SA i) ∨ H.size ≤ q)) (SA := SA) (X := X) (es := es) (k := k) (fun i hi => Or.inl ⟨i, hi, rfl⟩)) (cwV 0 hts (gV tv_1_231 tw_1_232 tw_1_233 tw_1_1 tw_1_234) rfl rfl rfl (by decide +kernel) ⟨Nat.le_of_ble_eq_true rfl, Nat.le_of_ble_eq_true rfl⟩) hC hS (fun q h => A1f_in (out := out) hSA hout hS.1 q (h.elim Or.inl (fun h => Or.inr (Or.inr h)))) (fun q h => Or.inr h) (hSS.recv hK) hSS rfl rfl hl.1 (Nat.le_of_ble_eq_true rfl) ⟨Nat.le_trans (by omega) hc, Nat.le_trans (by omega) hs⟩ dL_law_2090 (fun r1 H1 L1 hP hk hS => ?_)
  have hM := MW.kc hK hSS hM hO (hk.wk (fun q _ h => h.elim Or.inl (fun h => Or.inr (Or.inr h))))
  have hO := hO.kp hk (fun h => h.elim (fun ⟨i, hi, e⟩ => hSo i hi e.symm) (fun h => absurd hO.lt (Nat.not_lt_of_le h)))
  obtain ⟨-, hSS⟩ := hP
  refine lv_pop hx hb dL_law_2093 rfl ?_
  refine lv_aload_n hx hb dL_law_2094 rfl (lv_at hl 2 rfl) ?_
  refine qI_V (A := A0f s.heap.size) (A1 := (A2f s.heap.size SA out)) (b := am) (As := []) (rest := []) ⟨hx, hb, hml, hown, hts⟩ (mX4_isSound (A := (A2f s.heap.size SA out)) (am := am) (xa := xa) (X := X) (P := pcL (X 14) es) (k := k) (th := th)) (cwV 0 hts (gV tv_7_22 tw_7_19 tw_7_20 tw_1_8 tw_7_21) rfl rfl rfl (by decide +kernel) ⟨Nat.le_of_ble_eq_true rfl, Nat.le_of_ble_eq_true rfl⟩) hC hS (fun q h => h.1) (A2f_new hSS hO hS.1) (hM.recv hK) hM rfl rfl hl.1 (Nat.le_of_ble_eq_true rfl) ⟨Nat.le_trans (by omega) hc, Nat.le_trans (by omega) hs⟩ dL_law_2095 (fun r2 H2 L2 hP hk hS => ?_)
  have hSS := hSS.kp hk (fun i hi h => h.2.1 i hi rfl)
  have hO := hO.kp hk (fun h => h.2.2 rfl)
  have hM2 : ∃ th, MW G (A2f s.heap.size SA out) am xa X (pcL (X 14) es) k th H2 := by
    obtain ⟨-, h9⟩ := hP
    exact ⟨_, h9⟩
  refine lv_pop hx hb dL_law_2098 rfl ?_
  refine lv_goto (tgt := 2115) hx hb dL_law_2099 (by decide) ?_
  refine W.widen (k := cells + 140) (n := slots + 9600) (by omega) (by omega) ?_
  exact kk k H2 L2 ls ⟨_, _, hSS, hM2, hO⟩ hS (lv_sub hl [0, 1, 2, 3, 4] rfl)

theorem lc_digest {p : Program} {l : Launch} {e : Env} {s : State} {m : MethodId} {below : List Frame} {meth : Method} {c : Code} {b L : Nat} {xs : Nat → Int32} {G : Cx} {SA : Nat → Nat} {am xa out : Nat} (Z : LX p l e s m meth c b L xs G SA out) : LStep p l e s m below meth c b L G SA am xa out 2102 := by
  intro k H locs cells slots i ls Q hI hS hi hc hs hl kk
  obtain ⟨hx, hb, hml, hown, hts, hC, hX, hbl, hL, hst, hSA, hSo, hout⟩ := Z
  have hK := hC.1
  have hA : ∀ q : Nat, s.heap.size ≤ q → A0f s.heap.size q := fun q h => h
  have hbA : ¬ A0f s.heap.size b := Nat.not_le_of_lt hbl
  obtain ⟨X, es, hSS, ⟨th, hM⟩, hO⟩ := hI
  refine lv_aload_n hx hb dL_law_2102 rfl (lv_at hl 1 rfl) ?_
  refine cL_V (A := A0f s.heap.size) (A1 := (fun q => (∃ i : Nat, i < 39 ∧ q = SA i) ∨ H.size ≤ q)) (b := SA 0) (As := []) (rest := []) ⟨hx, hb, hml, hown, hts⟩ (mX2_digest (A := (fun q => (∃ i : Nat, i < 39 ∧ q = SA i) ∨ H.size ≤ q)) hst (SA := SA) (X := X) (es := es) (k := k) (fun i hi => Or.inl ⟨i, hi, rfl⟩)) (cwV 0 hts (gV tv_2_119 tw_2_120 tw_2_121 tw_1_1 tw_2_122) rfl rfl rfl (by decide +kernel) ⟨Nat.le_of_ble_eq_true rfl, Nat.le_of_ble_eq_true rfl⟩) hC hS (fun q h => A1f_in (out := out) hSA hout hS.1 q (h.elim Or.inl (fun h => Or.inr (Or.inr h)))) (fun q h => Or.inr h) (hSS.recv hK) hSS rfl rfl hl.1 (Nat.le_of_ble_eq_true rfl) ⟨Nat.le_trans (by omega) hc, Nat.le_trans (by omega) hs⟩ dL_law_2103 (fun E ce q9 H1 L1 hX hk hS h1 h2 h3 => hX.elim) (fun r1 H1 L1 hP hk hS => ?_)
  have hM := MW.kc hK hSS hM hO (hk.wk (fun q _ h => h.elim Or.inl (fun h => Or.inr (Or.inr h))))
  have hO := hO.kp hk (fun h => h.elim (fun ⟨i, hi, e⟩ => hSo i hi e.symm) (fun h => absurd hO.lt (Nat.not_lt_of_le h)))
  have hSS := hP
  refine lv_pop2_2 hx hb dL_law_2106 rfl ?_
  refine lv_aload_n hx hb dL_law_2107 rfl (lv_at hl 2 rfl) ?_
  refine qL_V (A := A0f s.heap.size) (A1 := (A2f s.heap.size SA out)) (b := am) (As := []) (rest := []) ⟨hx, hb, hml, hown, hts⟩ (mX4_digest (A := (A2f s.heap.size SA out)) (am := am) (xa := xa) (X := X) (P := pcL (X 14) es) (k := k) (th := th)) (cwV 0 hts (gV tv_7_30 tw_7_27 tw_7_28 tw_1_8 tw_7_29) rfl rfl rfl (by decide +kernel) ⟨Nat.le_of_ble_eq_true rfl, Nat.le_of_ble_eq_true rfl⟩) hC hS (fun q h => h.1) (A2f_new hSS hO hS.1) (hM.recv hK) hM rfl rfl hl.1 (Nat.le_of_ble_eq_true rfl) ⟨Nat.le_trans (by omega) hc, Nat.le_trans (by omega) hs⟩ dL_law_2108 (fun r2 H2 L2 hP hk hS => ?_)
  have hSS := hSS.kp hk (fun i hi h => h.2.1 i hi rfl)
  have hO := hO.kp hk (fun h => h.2.2 rfl)
  have hM2 : ∃ th, MW G (A2f s.heap.size SA out) am xa X (pcL (X 14) es) k th H2 := by
    have h9 := hP
    exact ⟨_, h9⟩
  refine lv_pop2_2 hx hb dL_law_2111 rfl ?_
  refine lv_goto (tgt := 2115) hx hb dL_law_2112 (by decide) ?_
  refine W.widen (k := cells + 140) (n := slots + 9600) (by omega) (by omega) ?_
  exact kk k H2 L2 ls ⟨_, _, hSS, hM2, hO⟩ hS (lv_sub hl [0, 1, 2, 3, 4] rfl)
