/-! THE LAW, 6: cases -/
theorem lc_number {p : Program} {l : Launch} {e : Env} {s : State} {m : MethodId} {below : List Frame} {meth : Method} {c : Code} {b L : Nat} {xs : Nat → Int32} {G : Cx} {SA : Nat → Nat} {am xa out : Nat} (Z : LX p l e s m meth c b L xs G SA out) : LStep p l e s m below meth c b L G SA am xa out 682 := by
  intro k H locs cells slots i ls Q hI hS hi hc hs hl kk
  obtain ⟨hx, hb, hml, hown, hts, hC, hX, hbl, hL, hst, hSA, hSo, hout⟩ := Z
  have hK := hC.1
  have hA : ∀ q : Nat, s.heap.size ≤ q → A0f s.heap.size q := fun q h => h
  have hbA : ¬ A0f s.heap.size b := Nat.not_le_of_lt hbl
  obtain ⟨X, es, hSS, ⟨th, hM⟩, hO⟩ := hI
  obtain ⟨y1, e1⟩ : ∃ y, xs (nI (i + 1)).toNatClampNeg = y := ⟨_, rfl⟩
  obtain ⟨y2, e2⟩ : ∃ y, xs (nI (i + 2)).toNatClampNeg = y := ⟨_, rfl⟩
  obtain ⟨y3, e3⟩ : ∃ y, xs (nI (i + 3)).toNatClampNeg = y := ⟨_, rfl⟩
  by_cases hz3 : y3 = 0
  · refine lv_aload_n hx hb dL_law_682 rfl (lv_at hl 1 rfl) ?_
    refine lv_aload_n hx hb dL_law_683 rfl (lv_at hl 0 rfl) ?_
    refine lv_iload hx hb dL_law_684 (lv_at hl 4 rfl) ?_
    refine lv_iconst (v := nI 1) hx hb dL_law_686 (by decide) ?_
    refine lv_iadd hx hb dL_law_687 ?_
    refine lv_cv (nI_add i 1) ?_
    refine va_sld hx hb hX hbl hbA hS (vp_in_nI (n := i + 1) (N := L) (by omega) (by omega)) dL_law_688 ?_
    refine lv_cv e1 ?_
    refine lv_aload_n hx hb dL_law_689 rfl (lv_at hl 0 rfl) ?_
    refine lv_iload hx hb dL_law_690 (lv_at hl 4 rfl) ?_
    refine lv_iconst (v := nI 2) hx hb dL_law_692 (by decide) ?_
    refine lv_iadd hx hb dL_law_693 ?_
    refine lv_cv (nI_add i 2) ?_
    refine va_sld hx hb hX hbl hbA hS (vp_in_nI (n := i + 2) (N := L) (by omega) (by omega)) dL_law_694 ?_
    refine lv_cv e2 ?_
    refine lv_aload_n hx hb dL_law_695 rfl (lv_at hl 0 rfl) ?_
    refine lv_iload hx hb dL_law_696 (lv_at hl 4 rfl) ?_
    refine lv_iconst (v := nI 3) hx hb dL_law_698 (by decide) ?_
    refine lv_iadd hx hb dL_law_699 ?_
    refine lv_cv (nI_add i 3) ?_
    refine va_sld hx hb hX hbl hbA hS (vp_in_nI (n := i + 3) (N := L) (by omega) (by omega)) dL_law_700 ?_
    refine lv_cv e3 ?_
    refine lv_if_eq (tgt := 708) hx hb dL_law_701 (by decide) (fun c_12 => ?_) (fun c_12 => ?_)
    · refine lv_iconst (v := nI 0) hx hb dL_law_708 (by decide) ?_
      refine lv_aload_n hx hb dL_law_709 rfl (lv_at hl 3 rfl) ?_
      refine qI_SW (A := A0f s.heap.size) (A1 := (A1f SA out H.size)) (As := [.ref (SA 0), .int y1, .int y2, .int (bI false), .ref out]) (rest := []) ⟨hx, hb, hml, hown, hts⟩ (mL_number (A := (A1f SA out H.size)) hst (out := out) (SA := SA) (X := X) (es := es) (k := k) (fun i hi => Or.inl ⟨i, hi, rfl⟩) (Or.inr (Or.inl rfl)) hSo) (vx_cwSW 5 hts (gSW tw_3_111 tw_3_112 tw_1_0 cw_number) rfl rfl rfl (by decide +kernel) ⟨Nat.le_of_ble_eq_true rfl, Nat.le_of_ble_eq_true rfl⟩) hC hS (A1f_in hSA hout hS.1) (fun q h => Or.inr (Or.inr h)) ⟨hSS, hO⟩ rfl rfl hl.1 (Nat.le_of_ble_eq_true rfl) ⟨Nat.le_trans (by omega) hc, Nat.le_trans (by omega) hs⟩ dL_law_710 (fun r1 H1 L1 hP hk hS => ?_)
      have h60 := hM.h60
      have he := hM.he
      have hM := MW.kc hK hSS hM hO hk
      have hN : ∃ (v : Int32) (X1 : Nat → List Nat) (es1 : List Nat), RP_number X es y1 y2 false r1 v X1 es1 ∧ SS G SA X1 es1 k H1 ∧ ∃ (n : Int64) (w : Value), va_at G.1 vwCl (out, .inr (7, [.long n, w])) H1 ∧ (r1 = 0 → n = v.toInt64) := by
        rcases hP with ⟨e0, v9, H0, hv, hk0, w9, hO1⟩ | ⟨e0, c0, hS1, n0, w0, hO1⟩ | ⟨e0, c0, hS1, n0, w0, hO1⟩
        · obtain ⟨z0, q0, q1, q2, q3, hS1⟩ := hv
          exact ⟨v9, _, _, Or.inl ⟨e0, z0, q0, q1, q2, q3, rfl, rfl⟩, hS1.kp hk0 (fun i hi e => hSo i hi e), _, _, hO1, fun _ => rfl⟩
        · exact ⟨0, _, _, Or.inr (Or.inl ⟨e0, c0, rfl, rfl⟩), hS1, _, _, hO1, fun e => absurd (e0.symm.trans e) (by decide)⟩
        · exact ⟨0, _, _, Or.inr (Or.inr (⟨e0, c0, rfl, rfl⟩)), hS1, _, _, hO1, fun e => absurd (e0.symm.trans e) (by decide)⟩
      obtain ⟨v1, X1, es1, hR1, hSS, n1, w1, hO, hn1⟩ := hN
      refine lv_istore (lv' := [(5, .int r1), (0, .ref b), (1, .ref (SA 0)), (2, .ref am), (3, .ref out), (4, .int (nI i))]) hx hb dL_law_713 hl (by decide) rfl (fun ls hl => ?_)
      refine lv_aload_n hx hb dL_law_715 rfl (lv_at hl 3 rfl) ?_
      refine lv_aload_n hx hb dL_law_716 rfl (lv_at hl 1 rfl) ?_
      refine lv_iload hx hb dL_law_717 (lv_at hl 5 rfl) ?_
      refine lv_iconst (v := nI 1) hx hb dL_law_719 (by decide) ?_
      refine lv_iadd hx hb dL_law_720 ?_
      refine lv_cv (nI_add i 1) ?_
      refine va_sld hx hb hX hbl hbA hS (vp_in_nI (n := i + 1) (N := L) (by omega) (by omega)) dL_law_721 ?_
      refine lv_cv e1 ?_
      refine lv_aload_n hx hb dL_law_722 rfl (lv_at hl 1 rfl) ?_
      refine lv_iload hx hb dL_law_723 (lv_at hl 5 rfl) ?_
      refine lv_iconst (v := nI 2) hx hb dL_law_725 (by decide) ?_
      refine lv_iadd hx hb dL_law_726 ?_
      refine lv_cv (nI_add i 2) ?_
      refine va_sld hx hb hX hbl hbA hS (vp_in_nI (n := i + 2) (N := L) (by omega) (by omega)) dL_law_727 ?_
      refine lv_cv e2 ?_
      refine lv_aload_n hx hb dL_law_728 rfl (lv_at hl 1 rfl) ?_
      refine lv_iload hx hb dL_law_729 (lv_at hl 5 rfl) ?_
      refine lv_iconst (v := nI 3) hx hb dL_law_731 (by decide) ?_
      refine lv_iadd hx hb dL_law_732 ?_
      refine lv_cv (nI_add i 3) ?_
      refine va_sld hx hb hX hbl hbA hS (vp_in_nI (n := i + 3) (N := L) (by omega) (by omega)) dL_law_733 ?_
      refine lv_cv e3 ?_
      refine lv_if_eq (tgt := 741) hx hb dL_law_734 (by decide) (fun c_13 => ?_) (fun c_13 => ?_)
      · refine lv_iconst (v := nI 0) hx hb dL_law_741 (by decide) ?_
        refine qI_V (A := A0f s.heap.size) (A1 := (A2f s.heap.size SA out)) (b := am) (As := [.int y1, .int y2, .int (bI false)]) (rest := []) ⟨hx, hb, hml, hown, hts⟩ (mX4_number (A := (A2f s.heap.size SA out)) (am := am) (xa := xa) (X := X) (P := pcL (X 14) es) (k := k) (th := th)) (cwV 3 hts (gV tw_5_18 tw_5_19 tw_5_20 tw_1_8 tw_5_21) rfl rfl rfl (by decide +kernel) ⟨Nat.le_of_ble_eq_true rfl, Nat.le_of_ble_eq_true rfl⟩) hC hS (fun q h => h.1) (A2f_new hSS ⟨_, _, hO⟩ hS.1) (hM.recv hK) hM rfl rfl hl.1 (Nat.le_of_ble_eq_true rfl) ⟨Nat.le_trans (by omega) hc, Nat.le_trans (by omega) hs⟩ dL_law_742 (fun r2 H2 L2 hP hk hS => ?_)
        have hSS := hSS.kp hk (fun i hi h => h.2.1 i hi rfl)
        have hO := at_kp hO hk (fun h => h.2.2 rfl)
        have hM2 : ∃ (X2 : Nat → List Nat) (es2 : List Nat) (th2 : Int32), RP_number X es y1 y2 false th2 r2 X2 es2 ∧ MW G (A2f s.heap.size SA out) am xa X2 (pcL (X2 14) es2) k th2 H2 := by
          rcases hP with ⟨c0, -, h9⟩ | ⟨c0, -, h9⟩ | ⟨z0, q0, q1, q2, q3, h9⟩
          · exact ⟨_, _, _, Or.inr (Or.inl ⟨rfl, c0, rfl, rfl⟩), h9⟩
          · exact ⟨_, _, _, Or.inr (Or.inr (⟨rfl, c0, rfl, rfl⟩)), h9⟩
          · exact ⟨_, _, _, Or.inl ⟨rfl, z0, q0, q1, q2, q3, rfl, rfl⟩, by rw [updT_n (by omega)]; exact h9⟩
        obtain ⟨X2, es2, th2, hR2, hM⟩ := hM2
        obtain ⟨ec, eX, ee, ev⟩ := ag_number h60 he hR1 hR2
        subst eX
        subst ee
        refine lv_istore (lv' := [(6, .int r2), (5, .int r1), (0, .ref b), (1, .ref (SA 0)), (2, .ref am), (3, .ref out), (4, .int (nI i))]) hx hb dL_law_745 hl (by decide) rfl (fun ls hl => ?_)
        refine lv_goto (tgt := 2115) hx hb dL_law_747 (by decide) ?_
        refine W.widen (k := cells + 140) (n := slots + 9600) (by omega) (by omega) ?_
        exact kk k H2 L2 ls ⟨_, _, hSS, ⟨_, hM⟩, _, _, hO⟩ hS (lv_sub hl [2, 3, 4, 5, 6] rfl)
      · exact absurd hz3 c_13
    · exact absurd hz3 c_12
  · refine lv_aload_n hx hb dL_law_682 rfl (lv_at hl 1 rfl) ?_
    refine lv_aload_n hx hb dL_law_683 rfl (lv_at hl 0 rfl) ?_
    refine lv_iload hx hb dL_law_684 (lv_at hl 4 rfl) ?_
    refine lv_iconst (v := nI 1) hx hb dL_law_686 (by decide) ?_
    refine lv_iadd hx hb dL_law_687 ?_
    refine lv_cv (nI_add i 1) ?_
    refine va_sld hx hb hX hbl hbA hS (vp_in_nI (n := i + 1) (N := L) (by omega) (by omega)) dL_law_688 ?_
    refine lv_cv e1 ?_
    refine lv_aload_n hx hb dL_law_689 rfl (lv_at hl 0 rfl) ?_
    refine lv_iload hx hb dL_law_690 (lv_at hl 4 rfl) ?_
    refine lv_iconst (v := nI 2) hx hb dL_law_692 (by decide) ?_
    refine lv_iadd hx hb dL_law_693 ?_
    refine lv_cv (nI_add i 2) ?_
    refine va_sld hx hb hX hbl hbA hS (vp_in_nI (n := i + 2) (N := L) (by omega) (by omega)) dL_law_694 ?_
    refine lv_cv e2 ?_
    refine lv_aload_n hx hb dL_law_695 rfl (lv_at hl 0 rfl) ?_
    refine lv_iload hx hb dL_law_696 (lv_at hl 4 rfl) ?_
    refine lv_iconst (v := nI 3) hx hb dL_law_698 (by decide) ?_
    refine lv_iadd hx hb dL_law_699 ?_
    refine lv_cv (nI_add i 3) ?_
    refine va_sld hx hb hX hbl hbA hS (vp_in_nI (n := i + 3) (N := L) (by omega) (by omega)) dL_law_700 ?_
    refine lv_cv e3 ?_
    refine lv_if_eq (tgt := 708) hx hb dL_law_701 (by decide) (fun c_14 => ?_) (fun c_14 => ?_)
    · exact absurd c_14 hz3
    · refine lv_iconst (v := nI 1) hx hb dL_law_704 (by decide) ?_
      refine lv_goto (tgt := 709) hx hb dL_law_705 (by decide) ?_
      refine lv_aload_n hx hb dL_law_709 rfl (lv_at hl 3 rfl) ?_
      refine qI_SW (A := A0f s.heap.size) (A1 := (A1f SA out H.size)) (As := [.ref (SA 0), .int y1, .int y2, .int (bI true), .ref out]) (rest := []) ⟨hx, hb, hml, hown, hts⟩ (mL_number (A := (A1f SA out H.size)) hst (out := out) (SA := SA) (X := X) (es := es) (k := k) (fun i hi => Or.inl ⟨i, hi, rfl⟩) (Or.inr (Or.inl rfl)) hSo) (vx_cwSW 5 hts (gSW tw_3_111 tw_3_112 tw_1_0 cw_number) rfl rfl rfl (by decide +kernel) ⟨Nat.le_of_ble_eq_true rfl, Nat.le_of_ble_eq_true rfl⟩) hC hS (A1f_in hSA hout hS.1) (fun q h => Or.inr (Or.inr h)) ⟨hSS, hO⟩ rfl rfl hl.1 (Nat.le_of_ble_eq_true rfl) ⟨Nat.le_trans (by omega) hc, Nat.le_trans (by omega) hs⟩ dL_law_710 (fun r1 H1 L1 hP hk hS => ?_)
      have h60 := hM.h60
      have he := hM.he
      have hM := MW.kc hK hSS hM hO hk
      have hN : ∃ (v : Int32) (X1 : Nat → List Nat) (es1 : List Nat), RP_number X es y1 y2 true r1 v X1 es1 ∧ SS G SA X1 es1 k H1 ∧ ∃ (n : Int64) (w : Value), va_at G.1 vwCl (out, .inr (7, [.long n, w])) H1 ∧ (r1 = 0 → n = v.toInt64) := by
        rcases hP with ⟨e0, v9, H0, hv, hk0, w9, hO1⟩ | ⟨e0, c0, hS1, n0, w0, hO1⟩ | ⟨e0, c0, hS1, n0, w0, hO1⟩
        · obtain ⟨z0, q0, q1, q2, q3, hS1⟩ := hv
          exact ⟨v9, _, _, Or.inl ⟨e0, z0, q0, q1, q2, q3, rfl, rfl⟩, hS1.kp hk0 (fun i hi e => hSo i hi e), _, _, hO1, fun _ => rfl⟩
        · exact ⟨0, _, _, Or.inr (Or.inl ⟨e0, c0, rfl, rfl⟩), hS1, _, _, hO1, fun e => absurd (e0.symm.trans e) (by decide)⟩
        · exact ⟨0, _, _, Or.inr (Or.inr (⟨e0, c0, rfl, rfl⟩)), hS1, _, _, hO1, fun e => absurd (e0.symm.trans e) (by decide)⟩
      obtain ⟨v1, X1, es1, hR1, hSS, n1, w1, hO, hn1⟩ := hN
      refine lv_istore (lv' := [(5, .int r1), (0, .ref b), (1, .ref (SA 0)), (2, .ref am), (3, .ref out), (4, .int (nI i))]) hx hb dL_law_713 hl (by decide) rfl (fun ls hl => ?_)
      refine lv_aload_n hx hb dL_law_715 rfl (lv_at hl 3 rfl) ?_
      refine lv_aload_n hx hb dL_law_716 rfl (lv_at hl 1 rfl) ?_
      refine lv_iload hx hb dL_law_717 (lv_at hl 5 rfl) ?_
      refine lv_iconst (v := nI 1) hx hb dL_law_719 (by decide) ?_
      refine lv_iadd hx hb dL_law_720 ?_
      refine lv_cv (nI_add i 1) ?_
      refine va_sld hx hb hX hbl hbA hS (vp_in_nI (n := i + 1) (N := L) (by omega) (by omega)) dL_law_721 ?_
      refine lv_cv e1 ?_
      refine lv_aload_n hx hb dL_law_722 rfl (lv_at hl 1 rfl) ?_
      refine lv_iload hx hb dL_law_723 (lv_at hl 5 rfl) ?_
      refine lv_iconst (v := nI 2) hx hb dL_law_725 (by decide) ?_
      refine lv_iadd hx hb dL_law_726 ?_
      refine lv_cv (nI_add i 2) ?_
      refine va_sld hx hb hX hbl hbA hS (vp_in_nI (n := i + 2) (N := L) (by omega) (by omega)) dL_law_727 ?_
      refine lv_cv e2 ?_
      refine lv_aload_n hx hb dL_law_728 rfl (lv_at hl 1 rfl) ?_
      refine lv_iload hx hb dL_law_729 (lv_at hl 5 rfl) ?_
      refine lv_iconst (v := nI 3) hx hb dL_law_731 (by decide) ?_
      refine lv_iadd hx hb dL_law_732 ?_
      refine lv_cv (nI_add i 3) ?_
      refine va_sld hx hb hX hbl hbA hS (vp_in_nI (n := i + 3) (N := L) (by omega) (by omega)) dL_law_733 ?_
      refine lv_cv e3 ?_
      refine lv_if_eq (tgt := 741) hx hb dL_law_734 (by decide) (fun c_15 => ?_) (fun c_15 => ?_)
      · exact absurd c_15 hz3
      · refine lv_iconst (v := nI 1) hx hb dL_law_737 (by decide) ?_
        refine lv_goto (tgt := 742) hx hb dL_law_738 (by decide) ?_
        refine qI_V (A := A0f s.heap.size) (A1 := (A2f s.heap.size SA out)) (b := am) (As := [.int y1, .int y2, .int (bI true)]) (rest := []) ⟨hx, hb, hml, hown, hts⟩ (mX4_number (A := (A2f s.heap.size SA out)) (am := am) (xa := xa) (X := X) (P := pcL (X 14) es) (k := k) (th := th)) (cwV 3 hts (gV tw_5_18 tw_5_19 tw_5_20 tw_1_8 tw_5_21) rfl rfl rfl (by decide +kernel) ⟨Nat.le_of_ble_eq_true rfl, Nat.le_of_ble_eq_true rfl⟩) hC hS (fun q h => h.1) (A2f_new hSS ⟨_, _, hO⟩ hS.1) (hM.recv hK) hM rfl rfl hl.1 (Nat.le_of_ble_eq_true rfl) ⟨Nat.le_trans (by omega) hc, Nat.le_trans (by omega) hs⟩ dL_law_742 (fun r2 H2 L2 hP hk hS => ?_)
        have hSS := hSS.kp hk (fun i hi h => h.2.1 i hi rfl)
        have hO := at_kp hO hk (fun h => h.2.2 rfl)
        have hM2 : ∃ (X2 : Nat → List Nat) (es2 : List Nat) (th2 : Int32), RP_number X es y1 y2 true th2 r2 X2 es2 ∧ MW G (A2f s.heap.size SA out) am xa X2 (pcL (X2 14) es2) k th2 H2 := by
          rcases hP with ⟨c0, -, h9⟩ | ⟨c0, -, h9⟩ | ⟨z0, q0, q1, q2, q3, h9⟩
          · exact ⟨_, _, _, Or.inr (Or.inl ⟨rfl, c0, rfl, rfl⟩), h9⟩
          · exact ⟨_, _, _, Or.inr (Or.inr (⟨rfl, c0, rfl, rfl⟩)), h9⟩
          · exact ⟨_, _, _, Or.inl ⟨rfl, z0, q0, q1, q2, q3, rfl, rfl⟩, by rw [updT_n (by omega)]; exact h9⟩
        obtain ⟨X2, es2, th2, hR2, hM⟩ := hM2
        obtain ⟨ec, eX, ee, ev⟩ := ag_number h60 he hR1 hR2
        subst eX
        subst ee
        refine lv_istore (lv' := [(6, .int r2), (5, .int r1), (0, .ref b), (1, .ref (SA 0)), (2, .ref am), (3, .ref out), (4, .int (nI i))]) hx hb dL_law_745 hl (by decide) rfl (fun ls hl => ?_)
        refine lv_goto (tgt := 2115) hx hb dL_law_747 (by decide) ?_
        refine W.widen (k := cells + 140) (n := slots + 9600) (by omega) (by omega) ?_
        exact kk k H2 L2 ls ⟨_, _, hSS, ⟨_, hM⟩, _, _, hO⟩ hS (lv_sub hl [2, 3, 4, 5, 6] rfl)

theorem lc_great {p : Program} {l : Launch} {e : Env} {s : State} {m : MethodId} {below : List Frame} {meth : Method} {c : Code} {b L : Nat} {xs : Nat → Int32} {G : Cx} {SA : Nat → Nat} {am xa out : Nat} (Z : LX p l e s m meth c b L xs G SA out) : LStep p l e s m below meth c b L G SA am xa out 750 := by
  intro k H locs cells slots i ls Q hI hS hi hc hs hl kk
  obtain ⟨hx, hb, hml, hown, hts, hC, hX, hbl, hL, hst, hSA, hSo, hout⟩ := Z
  have hK := hC.1
  have hA : ∀ q : Nat, s.heap.size ≤ q → A0f s.heap.size q := fun q h => h
  have hbA : ¬ A0f s.heap.size b := Nat.not_le_of_lt hbl
  obtain ⟨X, es, hSS, ⟨th, hM⟩, hO⟩ := hI
  obtain ⟨y1, e1⟩ : ∃ y, xs (nI (i + 1)).toNatClampNeg = y := ⟨_, rfl⟩
  obtain ⟨y2, e2⟩ : ∃ y, xs (nI (i + 2)).toNatClampNeg = y := ⟨_, rfl⟩
  obtain ⟨y3, e3⟩ : ∃ y, xs (nI (i + 3)).toNatClampNeg = y := ⟨_, rfl⟩
  refine lv_aload_n hx hb dL_law_750 rfl (lv_at hl 1 rfl) ?_
  refine lv_aload_n hx hb dL_law_751 rfl (lv_at hl 0 rfl) ?_
  refine lv_iload hx hb dL_law_752 (lv_at hl 4 rfl) ?_
  refine lv_iconst (v := nI 1) hx hb dL_law_754 (by decide) ?_
  refine lv_iadd hx hb dL_law_755 ?_
  refine lv_cv (nI_add i 1) ?_
  refine va_sld hx hb hX hbl hbA hS (vp_in_nI (n := i + 1) (N := L) (by omega) (by omega)) dL_law_756 ?_
  refine lv_cv e1 ?_
  refine lv_aload_n hx hb dL_law_757 rfl (lv_at hl 0 rfl) ?_
  refine lv_iload hx hb dL_law_758 (lv_at hl 4 rfl) ?_
  refine lv_iconst (v := nI 2) hx hb dL_law_760 (by decide) ?_
  refine lv_iadd hx hb dL_law_761 ?_
  refine lv_cv (nI_add i 2) ?_
  refine va_sld hx hb hX hbl hbA hS (vp_in_nI (n := i + 2) (N := L) (by omega) (by omega)) dL_law_762 ?_
  refine lv_cv e2 ?_
  refine lv_aload_n hx hb dL_law_763 rfl (lv_at hl 0 rfl) ?_
  refine lv_iload hx hb dL_law_764 (lv_at hl 4 rfl) ?_
  refine lv_iconst (v := nI 3) hx hb dL_law_766 (by decide) ?_
  refine lv_iadd hx hb dL_law_767 ?_
  refine lv_cv (nI_add i 3) ?_
  refine va_sld hx hb hX hbl hbA hS (vp_in_nI (n := i + 3) (N := L) (by omega) (by omega)) dL_law_768 ?_
  refine lv_cv e3 ?_
  refine lv_aload_n hx hb dL_law_769 rfl (lv_at hl 3 rfl) ?_
  refine qI_SW (A := A0f s.heap.size) (A1 := (A1f SA out H.size)) (As := [.ref (SA 0), .int y1, .int y2, .int y3, .ref out]) (rest := []) ⟨hx, hb, hml, hown, hts⟩ (mL_great (A := (A1f SA out H.size)) hst (out := out) (SA := SA) (X := X) (es := es) (k := k) (fun i hi => Or.inl ⟨i, hi, rfl⟩) (Or.inr (Or.inl rfl)) hSo) (vx_cwSW 5 hts (gSW tw_3_131 tw_3_132 tw_1_0 cw_great) rfl rfl rfl (by decide +kernel) ⟨Nat.le_of_ble_eq_true rfl, Nat.le_of_ble_eq_true rfl⟩) hC hS (A1f_in hSA hout hS.1) (fun q h => Or.inr (Or.inr h)) ⟨hSS, hO⟩ rfl rfl hl.1 (Nat.le_of_ble_eq_true rfl) ⟨Nat.le_trans (by omega) hc, Nat.le_trans (by omega) hs⟩ dL_law_770 (fun r1 H1 L1 hP hk hS => ?_)
  have h60 := hM.h60
  have he := hM.he
  have hM := MW.kc hK hSS hM hO hk
  have hN : ∃ (v : Int32) (X1 : Nat → List Nat) (es1 : List Nat), RP_great X es y1 y2 y3 r1 v X1 es1 ∧ SS G SA X1 es1 k H1 ∧ ∃ (n : Int64) (w : Value), va_at G.1 vwCl (out, .inr (7, [.long n, w])) H1 ∧ (r1 = 0 → n = v.toInt64) := by
    rcases hP with ⟨e0, v9, H0, hv, hk0, w9, hO1⟩ | ⟨e0, c0, hS1, n0, w0, hO1⟩ | ⟨e0, c0, hS1, n0, w0, hO1⟩
    · obtain ⟨z0, q0, q1, q2, q3, hS1⟩ := hv
      exact ⟨v9, _, _, Or.inl ⟨e0, z0, q0, q1, q2, q3, rfl, rfl⟩, hS1.kp hk0 (fun i hi e => hSo i hi e), _, _, hO1, fun _ => rfl⟩
    · exact ⟨0, _, _, Or.inr (Or.inl ⟨e0, c0, rfl, rfl⟩), hS1, _, _, hO1, fun e => absurd (e0.symm.trans e) (by decide)⟩
    · exact ⟨0, _, _, Or.inr (Or.inr (⟨e0, c0, rfl, rfl⟩)), hS1, _, _, hO1, fun e => absurd (e0.symm.trans e) (by decide)⟩
  obtain ⟨v1, X1, es1, hR1, hSS, n1, w1, hO, hn1⟩ := hN
  refine lv_istore (lv' := [(5, .int r1), (0, .ref b), (1, .ref (SA 0)), (2, .ref am), (3, .ref out), (4, .int (nI i))]) hx hb dL_law_773 hl (by decide) rfl (fun ls hl => ?_)
  refine lv_aload_n hx hb dL_law_775 rfl (lv_at hl 3 rfl) ?_
  refine lv_aload_n hx hb dL_law_776 rfl (lv_at hl 1 rfl) ?_
  refine lv_iload hx hb dL_law_777 (lv_at hl 5 rfl) ?_
  refine lv_iconst (v := nI 1) hx hb dL_law_779 (by decide) ?_
  refine lv_iadd hx hb dL_law_780 ?_
  refine lv_cv (nI_add i 1) ?_
  refine va_sld hx hb hX hbl hbA hS (vp_in_nI (n := i + 1) (N := L) (by omega) (by omega)) dL_law_781 ?_
  refine lv_cv e1 ?_
  refine lv_aload_n hx hb dL_law_782 rfl (lv_at hl 1 rfl) ?_
  refine lv_iload hx hb dL_law_783 (lv_at hl 5 rfl) ?_
  refine lv_iconst (v := nI 2) hx hb dL_law_785 (by decide) ?_
  refine lv_iadd hx hb dL_law_786 ?_
  refine lv_cv (nI_add i 2) ?_
  refine va_sld hx hb hX hbl hbA hS (vp_in_nI (n := i + 2) (N := L) (by omega) (by omega)) dL_law_787 ?_
  refine lv_cv e2 ?_
  refine lv_aload_n hx hb dL_law_788 rfl (lv_at hl 1 rfl) ?_
  refine lv_iload hx hb dL_law_789 (lv_at hl 5 rfl) ?_
  refine lv_iconst (v := nI 3) hx hb dL_law_791 (by decide) ?_
  refine lv_iadd hx hb dL_law_792 ?_
  refine lv_cv (nI_add i 3) ?_
  refine va_sld hx hb hX hbl hbA hS (vp_in_nI (n := i + 3) (N := L) (by omega) (by omega)) dL_law_793 ?_
  refine lv_cv e3 ?_
  refine qI_V (A := A0f s.heap.size) (A1 := (A2f s.heap.size SA out)) (b := am) (As := [.int y1, .int y2, .int y3]) (rest := []) ⟨hx, hb, hml, hown, hts⟩ (mX4_great (A := (A2f s.heap.size SA out)) (am := am) (xa := xa) (X := X) (P := pcL (X 14) es) (k := k) (th := th)) (cwV 3 hts (gV tw_5_33 tw_5_34 tw_5_35 tw_1_8 tw_5_36) rfl rfl rfl (by decide +kernel) ⟨Nat.le_of_ble_eq_true rfl, Nat.le_of_ble_eq_true rfl⟩) hC hS (fun q h => h.1) (A2f_new hSS ⟨_, _, hO⟩ hS.1) (hM.recv hK) hM rfl rfl hl.1 (Nat.le_of_ble_eq_true rfl) ⟨Nat.le_trans (by omega) hc, Nat.le_trans (by omega) hs⟩ dL_law_794 (fun r2 H2 L2 hP hk hS => ?_)
  have hSS := hSS.kp hk (fun i hi h => h.2.1 i hi rfl)
  have hO := at_kp hO hk (fun h => h.2.2 rfl)
  have hM2 : ∃ (X2 : Nat → List Nat) (es2 : List Nat) (th2 : Int32), RP_great X es y1 y2 y3 th2 r2 X2 es2 ∧ MW G (A2f s.heap.size SA out) am xa X2 (pcL (X2 14) es2) k th2 H2 := by
    rcases hP with ⟨c0, -, h9⟩ | ⟨c0, -, h9⟩ | ⟨z0, q0, q1, q2, q3, h9⟩
    · exact ⟨_, _, _, Or.inr (Or.inl ⟨rfl, c0, rfl, rfl⟩), h9⟩
    · exact ⟨_, _, _, Or.inr (Or.inr (⟨rfl, c0, rfl, rfl⟩)), h9⟩
    · exact ⟨_, _, _, Or.inl ⟨rfl, z0, q0, q1, q2, q3, rfl, rfl⟩, by rw [updT_n (by omega)]; exact h9⟩
  obtain ⟨X2, es2, th2, hR2, hM⟩ := hM2
  obtain ⟨ec, eX, ee, ev⟩ := ag_great h60 he hR1 hR2
  subst eX
  subst ee
  refine lv_istore (lv' := [(6, .int r2), (5, .int r1), (0, .ref b), (1, .ref (SA 0)), (2, .ref am), (3, .ref out), (4, .int (nI i))]) hx hb dL_law_797 hl (by decide) rfl (fun ls hl => ?_)
  refine lv_goto (tgt := 2115) hx hb dL_law_799 (by decide) ?_
  refine W.widen (k := cells + 140) (n := slots + 9600) (by omega) (by omega) ?_
  exact kk k H2 L2 ls ⟨_, _, hSS, ⟨_, hM⟩, _, _, hO⟩ hS (lv_sub hl [2, 3, 4, 5, 6] rfl)

theorem lc_truth {p : Program} {l : Launch} {e : Env} {s : State} {m : MethodId} {below : List Frame} {meth : Method} {c : Code} {b L : Nat} {xs : Nat → Int32} {G : Cx} {SA : Nat → Nat} {am xa out : Nat} (Z : LX p l e s m meth c b L xs G SA out) : LStep p l e s m below meth c b L G SA am xa out 802 := by
  intro k H locs cells slots i ls Q hI hS hi hc hs hl kk
  obtain ⟨hx, hb, hml, hown, hts, hC, hX, hbl, hL, hst, hSA, hSo, hout⟩ := Z
  have hK := hC.1
  have hA : ∀ q : Nat, s.heap.size ≤ q → A0f s.heap.size q := fun q h => h
  have hbA : ¬ A0f s.heap.size b := Nat.not_le_of_lt hbl
  obtain ⟨X, es, hSS, ⟨th, hM⟩, hO⟩ := hI
  obtain ⟨y1, e1⟩ : ∃ y, xs (nI (i + 1)).toNatClampNeg = y := ⟨_, rfl⟩
  obtain ⟨y2, e2⟩ : ∃ y, xs (nI (i + 2)).toNatClampNeg = y := ⟨_, rfl⟩
  obtain ⟨y3, e3⟩ : ∃ y, xs (nI (i + 3)).toNatClampNeg = y := ⟨_, rfl⟩
  by_cases hz2 : y2 = 0
  · by_cases hz3 : y3 = 0
    · refine lv_aload_n hx hb dL_law_802 rfl (lv_at hl 1 rfl) ?_
      refine lv_aload_n hx hb dL_law_803 rfl (lv_at hl 0 rfl) ?_
      refine lv_iload hx hb dL_law_804 (lv_at hl 4 rfl) ?_
      refine lv_iconst (v := nI 1) hx hb dL_law_806 (by decide) ?_
      refine lv_iadd hx hb dL_law_807 ?_
      refine lv_cv (nI_add i 1) ?_
      refine va_sld hx hb hX hbl hbA hS (vp_in_nI (n := i + 1) (N := L) (by omega) (by omega)) dL_law_808 ?_
      refine lv_cv e1 ?_
      refine lv_aload_n hx hb dL_law_809 rfl (lv_at hl 0 rfl) ?_
      refine lv_iload hx hb dL_law_810 (lv_at hl 4 rfl) ?_
      refine lv_iconst (v := nI 2) hx hb dL_law_812 (by decide) ?_
      refine lv_iadd hx hb dL_law_813 ?_
      refine lv_cv (nI_add i 2) ?_
      refine va_sld hx hb hX hbl hbA hS (vp_in_nI (n := i + 2) (N := L) (by omega) (by omega)) dL_law_814 ?_
      refine lv_cv e2 ?_
      refine lv_if_eq (tgt := 822) hx hb dL_law_815 (by decide) (fun c_16 => ?_) (fun c_16 => ?_)
      · refine lv_iconst (v := nI 0) hx hb dL_law_822 (by decide) ?_
        refine lv_aload_n hx hb dL_law_823 rfl (lv_at hl 0 rfl) ?_
        refine lv_iload hx hb dL_law_824 (lv_at hl 4 rfl) ?_
        refine lv_iconst (v := nI 3) hx hb dL_law_826 (by decide) ?_
        refine lv_iadd hx hb dL_law_827 ?_
        refine lv_cv (nI_add i 3) ?_
        refine va_sld hx hb hX hbl hbA hS (vp_in_nI (n := i + 3) (N := L) (by omega) (by omega)) dL_law_828 ?_
        refine lv_cv e3 ?_
        refine lv_if_eq (tgt := 836) hx hb dL_law_829 (by decide) (fun c_17 => ?_) (fun c_17 => ?_)
        · refine lv_iconst (v := nI 0) hx hb dL_law_836 (by decide) ?_
          refine lv_aload_n hx hb dL_law_837 rfl (lv_at hl 3 rfl) ?_
          refine qI_SW (A := A0f s.heap.size) (A1 := (A1f SA out H.size)) (As := [.ref (SA 0), .int y1, .int (bI false), .int (bI false), .ref out]) (rest := []) ⟨hx, hb, hml, hown, hts⟩ (mL_truth (A := (A1f SA out H.size)) hst (out := out) (SA := SA) (X := X) (es := es) (k := k) (fun i hi => Or.inl ⟨i, hi, rfl⟩) (Or.inr (Or.inl rfl)) hSo) (vx_cwSW 5 hts (gSW tw_3_139 tw_3_140 tw_1_0 cw_truth) rfl rfl rfl (by decide +kernel) ⟨Nat.le_of_ble_eq_true rfl, Nat.le_of_ble_eq_true rfl⟩) hC hS (A1f_in hSA hout hS.1) (fun q h => Or.inr (Or.inr h)) ⟨hSS, hO⟩ rfl rfl hl.1 (Nat.le_of_ble_eq_true rfl) ⟨Nat.le_trans (by omega) hc, Nat.le_trans (by omega) hs⟩ dL_law_838 (fun r1 H1 L1 hP hk hS => ?_)
          have h60 := hM.h60
          have he := hM.he
          have hM := MW.kc hK hSS hM hO hk
          have hN : ∃ (v : Int32) (X1 : Nat → List Nat) (es1 : List Nat), RP_truth X es y1 false false r1 v X1 es1 ∧ SS G SA X1 es1 k H1 ∧ ∃ (n : Int64) (w : Value), va_at G.1 vwCl (out, .inr (7, [.long n, w])) H1 ∧ (r1 = 0 → n = v.toInt64) := by
            rcases hP with ⟨e0, v9, H0, hv, hk0, w9, hO1⟩ | ⟨e0, c0, hS1, n0, w0, hO1⟩ | ⟨e0, c0, hS1, n0, w0, hO1⟩
            · obtain ⟨z0, q0, q1, q2, q3, hS1⟩ := hv
              exact ⟨v9, _, _, Or.inl ⟨e0, z0, q0, q1, q2, q3, rfl, rfl⟩, hS1.kp hk0 (fun i hi e => hSo i hi e), _, _, hO1, fun _ => rfl⟩
            · exact ⟨0, _, _, Or.inr (Or.inl ⟨e0, c0, rfl, rfl⟩), hS1, _, _, hO1, fun e => absurd (e0.symm.trans e) (by decide)⟩
            · exact ⟨0, _, _, Or.inr (Or.inr (⟨e0, c0, rfl, rfl⟩)), hS1, _, _, hO1, fun e => absurd (e0.symm.trans e) (by decide)⟩
          obtain ⟨v1, X1, es1, hR1, hSS, n1, w1, hO, hn1⟩ := hN
          refine lv_istore (lv' := [(5, .int r1), (0, .ref b), (1, .ref (SA 0)), (2, .ref am), (3, .ref out), (4, .int (nI i))]) hx hb dL_law_841 hl (by decide) rfl (fun ls hl => ?_)
          refine lv_aload_n hx hb dL_law_843 rfl (lv_at hl 3 rfl) ?_
          refine lv_aload_n hx hb dL_law_844 rfl (lv_at hl 1 rfl) ?_
          refine lv_iload hx hb dL_law_845 (lv_at hl 5 rfl) ?_
          refine lv_iconst (v := nI 1) hx hb dL_law_847 (by decide) ?_
          refine lv_iadd hx hb dL_law_848 ?_
          refine lv_cv (nI_add i 1) ?_
          refine va_sld hx hb hX hbl hbA hS (vp_in_nI (n := i + 1) (N := L) (by omega) (by omega)) dL_law_849 ?_
          refine lv_cv e1 ?_
          refine lv_aload_n hx hb dL_law_850 rfl (lv_at hl 1 rfl) ?_
          refine lv_iload hx hb dL_law_851 (lv_at hl 5 rfl) ?_
          refine lv_iconst (v := nI 2) hx hb dL_law_853 (by decide) ?_
          refine lv_iadd hx hb dL_law_854 ?_
          refine lv_cv (nI_add i 2) ?_
          refine va_sld hx hb hX hbl hbA hS (vp_in_nI (n := i + 2) (N := L) (by omega) (by omega)) dL_law_855 ?_
          refine lv_cv e2 ?_
          refine lv_if_eq (tgt := 863) hx hb dL_law_856 (by decide) (fun c_18 => ?_) (fun c_18 => ?_)
          · refine lv_iconst (v := nI 0) hx hb dL_law_863 (by decide) ?_
            refine lv_aload_n hx hb dL_law_864 rfl (lv_at hl 1 rfl) ?_
            refine lv_iload hx hb dL_law_865 (lv_at hl 5 rfl) ?_
            refine lv_iconst (v := nI 3) hx hb dL_law_867 (by decide) ?_
            refine lv_iadd hx hb dL_law_868 ?_
            refine lv_cv (nI_add i 3) ?_
            refine va_sld hx hb hX hbl hbA hS (vp_in_nI (n := i + 3) (N := L) (by omega) (by omega)) dL_law_869 ?_
            refine lv_cv e3 ?_
            refine lv_if_eq (tgt := 877) hx hb dL_law_870 (by decide) (fun c_19 => ?_) (fun c_19 => ?_)
            · refine lv_iconst (v := nI 0) hx hb dL_law_877 (by decide) ?_
              refine qI_V (A := A0f s.heap.size) (A1 := (A2f s.heap.size SA out)) (b := am) (As := [.int y1, .int (bI false), .int (bI false)]) (rest := []) ⟨hx, hb, hml, hown, hts⟩ (mX4_truth_ (A := (A2f s.heap.size SA out)) (am := am) (xa := xa) (X := X) (P := pcL (X 14) es) (k := k) (th := th)) (cwV 3 hts (gV tw_5_38 tw_5_39 tw_5_40 tw_1_8 tw_5_41) rfl rfl rfl (by decide +kernel) ⟨Nat.le_of_ble_eq_true rfl, Nat.le_of_ble_eq_true rfl⟩) hC hS (fun q h => h.1) (A2f_new hSS ⟨_, _, hO⟩ hS.1) (hM.recv hK) hM rfl rfl hl.1 (Nat.le_of_ble_eq_true rfl) ⟨Nat.le_trans (by omega) hc, Nat.le_trans (by omega) hs⟩ dL_law_878 (fun r2 H2 L2 hP hk hS => ?_)
              have hSS := hSS.kp hk (fun i hi h => h.2.1 i hi rfl)
              have hO := at_kp hO hk (fun h => h.2.2 rfl)
              have hM2 : ∃ (X2 : Nat → List Nat) (es2 : List Nat) (th2 : Int32), RP_truth X es y1 false false th2 r2 X2 es2 ∧ MW G (A2f s.heap.size SA out) am xa X2 (pcL (X2 14) es2) k th2 H2 := by
                rcases hP with ⟨c0, -, h9⟩ | ⟨c0, -, h9⟩ | ⟨z0, q0, q1, q2, q3, h9⟩
                · exact ⟨_, _, _, Or.inr (Or.inl ⟨rfl, c0, rfl, rfl⟩), h9⟩
                · exact ⟨_, _, _, Or.inr (Or.inr (⟨rfl, c0, rfl, rfl⟩)), h9⟩
                · exact ⟨_, _, _, Or.inl ⟨rfl, z0, q0, q1, q2, q3, rfl, rfl⟩, by rw [updT_n (by omega)]; exact h9⟩
              obtain ⟨X2, es2, th2, hR2, hM⟩ := hM2
              obtain ⟨ec, eX, ee, ev⟩ := ag_truth h60 he hR1 hR2
              subst eX
              subst ee
              refine lv_istore (lv' := [(6, .int r2), (5, .int r1), (0, .ref b), (1, .ref (SA 0)), (2, .ref am), (3, .ref out), (4, .int (nI i))]) hx hb dL_law_881 hl (by decide) rfl (fun ls hl => ?_)
              refine lv_goto (tgt := 2115) hx hb dL_law_883 (by decide) ?_
              refine W.widen (k := cells + 140) (n := slots + 9600) (by omega) (by omega) ?_
              exact kk k H2 L2 ls ⟨_, _, hSS, ⟨_, hM⟩, _, _, hO⟩ hS (lv_sub hl [2, 3, 4, 5, 6] rfl)
            · exact absurd hz3 c_19
          · exact absurd hz2 c_18
        · exact absurd hz3 c_17
      · exact absurd hz2 c_16
    · refine lv_aload_n hx hb dL_law_802 rfl (lv_at hl 1 rfl) ?_
      refine lv_aload_n hx hb dL_law_803 rfl (lv_at hl 0 rfl) ?_
      refine lv_iload hx hb dL_law_804 (lv_at hl 4 rfl) ?_
      refine lv_iconst (v := nI 1) hx hb dL_law_806 (by decide) ?_
      refine lv_iadd hx hb dL_law_807 ?_
      refine lv_cv (nI_add i 1) ?_
      refine va_sld hx hb hX hbl hbA hS (vp_in_nI (n := i + 1) (N := L) (by omega) (by omega)) dL_law_808 ?_
      refine lv_cv e1 ?_
      refine lv_aload_n hx hb dL_law_809 rfl (lv_at hl 0 rfl) ?_
      refine lv_iload hx hb dL_law_810 (lv_at hl 4 rfl) ?_
      refine lv_iconst (v := nI 2) hx hb dL_law_812 (by decide) ?_
      refine lv_iadd hx hb dL_law_813 ?_
      refine lv_cv (nI_add i 2) ?_
      refine va_sld hx hb hX hbl hbA hS (vp_in_nI (n := i + 2) (N := L) (by omega) (by omega)) dL_law_814 ?_
      refine lv_cv e2 ?_
      refine lv_if_eq (tgt := 822) hx hb dL_law_815 (by decide) (fun c_20 => ?_) (fun c_20 => ?_)
      · refine lv_iconst (v := nI 0) hx hb dL_law_822 (by decide) ?_
        refine lv_aload_n hx hb dL_law_823 rfl (lv_at hl 0 rfl) ?_
        refine lv_iload hx hb dL_law_824 (lv_at hl 4 rfl) ?_
        refine lv_iconst (v := nI 3) hx hb dL_law_826 (by decide) ?_
        refine lv_iadd hx hb dL_law_827 ?_
        refine lv_cv (nI_add i 3) ?_
        refine va_sld hx hb hX hbl hbA hS (vp_in_nI (n := i + 3) (N := L) (by omega) (by omega)) dL_law_828 ?_
        refine lv_cv e3 ?_
        refine lv_if_eq (tgt := 836) hx hb dL_law_829 (by decide) (fun c_21 => ?_) (fun c_21 => ?_)
        · exact absurd c_21 hz3
        · refine lv_iconst (v := nI 1) hx hb dL_law_832 (by decide) ?_
          refine lv_goto (tgt := 837) hx hb dL_law_833 (by decide) ?_
          refine lv_aload_n hx hb dL_law_837 rfl (lv_at hl 3 rfl) ?_
          refine qI_SW (A := A0f s.heap.size) (A1 := (A1f SA out H.size)) (As := [.ref (SA 0), .int y1, .int (bI false), .int (bI true), .ref out]) (rest := []) ⟨hx, hb, hml, hown, hts⟩ (mL_truth (A := (A1f SA out H.size)) hst (out := out) (SA := SA) (X := X) (es := es) (k := k) (fun i hi => Or.inl ⟨i, hi, rfl⟩) (Or.inr (Or.inl rfl)) hSo) (vx_cwSW 5 hts (gSW tw_3_139 tw_3_140 tw_1_0 cw_truth) rfl rfl rfl (by decide +kernel) ⟨Nat.le_of_ble_eq_true rfl, Nat.le_of_ble_eq_true rfl⟩) hC hS (A1f_in hSA hout hS.1) (fun q h => Or.inr (Or.inr h)) ⟨hSS, hO⟩ rfl rfl hl.1 (Nat.le_of_ble_eq_true rfl) ⟨Nat.le_trans (by omega) hc, Nat.le_trans (by omega) hs⟩ dL_law_838 (fun r1 H1 L1 hP hk hS => ?_)
          have h60 := hM.h60
          have he := hM.he
          have hM := MW.kc hK hSS hM hO hk
          have hN : ∃ (v : Int32) (X1 : Nat → List Nat) (es1 : List Nat), RP_truth X es y1 false true r1 v X1 es1 ∧ SS G SA X1 es1 k H1 ∧ ∃ (n : Int64) (w : Value), va_at G.1 vwCl (out, .inr (7, [.long n, w])) H1 ∧ (r1 = 0 → n = v.toInt64) := by
            rcases hP with ⟨e0, v9, H0, hv, hk0, w9, hO1⟩ | ⟨e0, c0, hS1, n0, w0, hO1⟩ | ⟨e0, c0, hS1, n0, w0, hO1⟩
            · obtain ⟨z0, q0, q1, q2, q3, hS1⟩ := hv
              exact ⟨v9, _, _, Or.inl ⟨e0, z0, q0, q1, q2, q3, rfl, rfl⟩, hS1.kp hk0 (fun i hi e => hSo i hi e), _, _, hO1, fun _ => rfl⟩
            · exact ⟨0, _, _, Or.inr (Or.inl ⟨e0, c0, rfl, rfl⟩), hS1, _, _, hO1, fun e => absurd (e0.symm.trans e) (by decide)⟩
            · exact ⟨0, _, _, Or.inr (Or.inr (⟨e0, c0, rfl, rfl⟩)), hS1, _, _, hO1, fun e => absurd (e0.symm.trans e) (by decide)⟩
          obtain ⟨v1, X1, es1, hR1, hSS, n1, w1, hO, hn1⟩ := hN
          refine lv_istore (lv' := [(5, .int r1), (0, .ref b), (1, .ref (SA 0)), (2, .ref am), (3, .ref out), (4, .int (nI i))]) hx hb dL_law_841 hl (by decide) rfl (fun ls hl => ?_)
          refine lv_aload_n hx hb dL_law_843 rfl (lv_at hl 3 rfl) ?_
          refine lv_aload_n hx hb dL_law_844 rfl (lv_at hl 1 rfl) ?_
          refine lv_iload hx hb dL_law_845 (lv_at hl 5 rfl) ?_
          refine lv_iconst (v := nI 1) hx hb dL_law_847 (by decide) ?_
          refine lv_iadd hx hb dL_law_848 ?_
          refine lv_cv (nI_add i 1) ?_
          refine va_sld hx hb hX hbl hbA hS (vp_in_nI (n := i + 1) (N := L) (by omega) (by omega)) dL_law_849 ?_
          refine lv_cv e1 ?_
          refine lv_aload_n hx hb dL_law_850 rfl (lv_at hl 1 rfl) ?_
          refine lv_iload hx hb dL_law_851 (lv_at hl 5 rfl) ?_
          refine lv_iconst (v := nI 2) hx hb dL_law_853 (by decide) ?_
          refine lv_iadd hx hb dL_law_854 ?_
          refine lv_cv (nI_add i 2) ?_
          refine va_sld hx hb hX hbl hbA hS (vp_in_nI (n := i + 2) (N := L) (by omega) (by omega)) dL_law_855 ?_
          refine lv_cv e2 ?_
          refine lv_if_eq (tgt := 863) hx hb dL_law_856 (by decide) (fun c_22 => ?_) (fun c_22 => ?_)
          · refine lv_iconst (v := nI 0) hx hb dL_law_863 (by decide) ?_
            refine lv_aload_n hx hb dL_law_864 rfl (lv_at hl 1 rfl) ?_
            refine lv_iload hx hb dL_law_865 (lv_at hl 5 rfl) ?_
            refine lv_iconst (v := nI 3) hx hb dL_law_867 (by decide) ?_
            refine lv_iadd hx hb dL_law_868 ?_
            refine lv_cv (nI_add i 3) ?_
            refine va_sld hx hb hX hbl hbA hS (vp_in_nI (n := i + 3) (N := L) (by omega) (by omega)) dL_law_869 ?_
            refine lv_cv e3 ?_
            refine lv_if_eq (tgt := 877) hx hb dL_law_870 (by decide) (fun c_23 => ?_) (fun c_23 => ?_)
            · exact absurd c_23 hz3
            · refine lv_iconst (v := nI 1) hx hb dL_law_873 (by decide) ?_
              refine lv_goto (tgt := 878) hx hb dL_law_874 (by decide) ?_
              refine qI_V (A := A0f s.heap.size) (A1 := (A2f s.heap.size SA out)) (b := am) (As := [.int y1, .int (bI false), .int (bI true)]) (rest := []) ⟨hx, hb, hml, hown, hts⟩ (mX4_truth_ (A := (A2f s.heap.size SA out)) (am := am) (xa := xa) (X := X) (P := pcL (X 14) es) (k := k) (th := th)) (cwV 3 hts (gV tw_5_38 tw_5_39 tw_5_40 tw_1_8 tw_5_41) rfl rfl rfl (by decide +kernel) ⟨Nat.le_of_ble_eq_true rfl, Nat.le_of_ble_eq_true rfl⟩) hC hS (fun q h => h.1) (A2f_new hSS ⟨_, _, hO⟩ hS.1) (hM.recv hK) hM rfl rfl hl.1 (Nat.le_of_ble_eq_true rfl) ⟨Nat.le_trans (by omega) hc, Nat.le_trans (by omega) hs⟩ dL_law_878 (fun r2 H2 L2 hP hk hS => ?_)
              have hSS := hSS.kp hk (fun i hi h => h.2.1 i hi rfl)
              have hO := at_kp hO hk (fun h => h.2.2 rfl)
              have hM2 : ∃ (X2 : Nat → List Nat) (es2 : List Nat) (th2 : Int32), RP_truth X es y1 false true th2 r2 X2 es2 ∧ MW G (A2f s.heap.size SA out) am xa X2 (pcL (X2 14) es2) k th2 H2 := by
                rcases hP with ⟨c0, -, h9⟩ | ⟨c0, -, h9⟩ | ⟨z0, q0, q1, q2, q3, h9⟩
                · exact ⟨_, _, _, Or.inr (Or.inl ⟨rfl, c0, rfl, rfl⟩), h9⟩
                · exact ⟨_, _, _, Or.inr (Or.inr (⟨rfl, c0, rfl, rfl⟩)), h9⟩
                · exact ⟨_, _, _, Or.inl ⟨rfl, z0, q0, q1, q2, q3, rfl, rfl⟩, by rw [updT_n (by omega)]; exact h9⟩
              obtain ⟨X2, es2, th2, hR2, hM⟩ := hM2
              obtain ⟨ec, eX, ee, ev⟩ := ag_truth h60 he hR1 hR2
              subst eX
              subst ee
              refine lv_istore (lv' := [(6, .int r2), (5, .int r1), (0, .ref b), (1, .ref (SA 0)), (2, .ref am), (3, .ref out), (4, .int (nI i))]) hx hb dL_law_881 hl (by decide) rfl (fun ls hl => ?_)
              refine lv_goto (tgt := 2115) hx hb dL_law_883 (by decide) ?_
              refine W.widen (k := cells + 140) (n := slots + 9600) (by omega) (by omega) ?_
              exact kk k H2 L2 ls ⟨_, _, hSS, ⟨_, hM⟩, _, _, hO⟩ hS (lv_sub hl [2, 3, 4, 5, 6] rfl)
          · exact absurd hz2 c_22
      · exact absurd hz2 c_20
  · by_cases hz3 : y3 = 0
    · refine lv_aload_n hx hb dL_law_802 rfl (lv_at hl 1 rfl) ?_
      refine lv_aload_n hx hb dL_law_803 rfl (lv_at hl 0 rfl) ?_
      refine lv_iload hx hb dL_law_804 (lv_at hl 4 rfl) ?_
      refine lv_iconst (v := nI 1) hx hb dL_law_806 (by decide) ?_
      refine lv_iadd hx hb dL_law_807 ?_
      refine lv_cv (nI_add i 1) ?_
      refine va_sld hx hb hX hbl hbA hS (vp_in_nI (n := i + 1) (N := L) (by omega) (by omega)) dL_law_808 ?_
      refine lv_cv e1 ?_
      refine lv_aload_n hx hb dL_law_809 rfl (lv_at hl 0 rfl) ?_
      refine lv_iload hx hb dL_law_810 (lv_at hl 4 rfl) ?_
      refine lv_iconst (v := nI 2) hx hb dL_law_812 (by decide) ?_
      refine lv_iadd hx hb dL_law_813 ?_
      refine lv_cv (nI_add i 2) ?_
      refine va_sld hx hb hX hbl hbA hS (vp_in_nI (n := i + 2) (N := L) (by omega) (by omega)) dL_law_814 ?_
      refine lv_cv e2 ?_
      refine lv_if_eq (tgt := 822) hx hb dL_law_815 (by decide) (fun c_24 => ?_) (fun c_24 => ?_)
      · exact absurd c_24 hz2
      · refine lv_iconst (v := nI 1) hx hb dL_law_818 (by decide) ?_
        refine lv_goto (tgt := 823) hx hb dL_law_819 (by decide) ?_
        refine lv_aload_n hx hb dL_law_823 rfl (lv_at hl 0 rfl) ?_
        refine lv_iload hx hb dL_law_824 (lv_at hl 4 rfl) ?_
        refine lv_iconst (v := nI 3) hx hb dL_law_826 (by decide) ?_
        refine lv_iadd hx hb dL_law_827 ?_
        refine lv_cv (nI_add i 3) ?_
        refine va_sld hx hb hX hbl hbA hS (vp_in_nI (n := i + 3) (N := L) (by omega) (by omega)) dL_law_828 ?_
        refine lv_cv e3 ?_
        refine lv_if_eq (tgt := 836) hx hb dL_law_829 (by decide) (fun c_25 => ?_) (fun c_25 => ?_)
        · refine lv_iconst (v := nI 0) hx hb dL_law_836 (by decide) ?_
          refine lv_aload_n hx hb dL_law_837 rfl (lv_at hl 3 rfl) ?_
          refine qI_SW (A := A0f s.heap.size) (A1 := (A1f SA out H.size)) (As := [.ref (SA 0), .int y1, .int (bI true), .int (bI false), .ref out]) (rest := []) ⟨hx, hb, hml, hown, hts⟩ (mL_truth (A := (A1f SA out H.size)) hst (out := out) (SA := SA) (X := X) (es := es) (k := k) (fun i hi => Or.inl ⟨i, hi, rfl⟩) (Or.inr (Or.inl rfl)) hSo) (vx_cwSW 5 hts (gSW tw_3_139 tw_3_140 tw_1_0 cw_truth) rfl rfl rfl (by decide +kernel) ⟨Nat.le_of_ble_eq_true rfl, Nat.le_of_ble_eq_true rfl⟩) hC hS (A1f_in hSA hout hS.1) (fun q h => Or.inr (Or.inr h)) ⟨hSS, hO⟩ rfl rfl hl.1 (Nat.le_of_ble_eq_true rfl) ⟨Nat.le_trans (by omega) hc, Nat.le_trans (by omega) hs⟩ dL_law_838 (fun r1 H1 L1 hP hk hS => ?_)
          have h60 := hM.h60
          have he := hM.he
          have hM := MW.kc hK hSS hM hO hk
          have hN : ∃ (v : Int32) (X1 : Nat → List Nat) (es1 : List Nat), RP_truth X es y1 true false r1 v X1 es1 ∧ SS G SA X1 es1 k H1 ∧ ∃ (n : Int64) (w : Value), va_at G.1 vwCl (out, .inr (7, [.long n, w])) H1 ∧ (r1 = 0 → n = v.toInt64) := by
            rcases hP with ⟨e0, v9, H0, hv, hk0, w9, hO1⟩ | ⟨e0, c0, hS1, n0, w0, hO1⟩ | ⟨e0, c0, hS1, n0, w0, hO1⟩
            · obtain ⟨z0, q0, q1, q2, q3, hS1⟩ := hv
              exact ⟨v9, _, _, Or.inl ⟨e0, z0, q0, q1, q2, q3, rfl, rfl⟩, hS1.kp hk0 (fun i hi e => hSo i hi e), _, _, hO1, fun _ => rfl⟩
            · exact ⟨0, _, _, Or.inr (Or.inl ⟨e0, c0, rfl, rfl⟩), hS1, _, _, hO1, fun e => absurd (e0.symm.trans e) (by decide)⟩
            · exact ⟨0, _, _, Or.inr (Or.inr (⟨e0, c0, rfl, rfl⟩)), hS1, _, _, hO1, fun e => absurd (e0.symm.trans e) (by decide)⟩
          obtain ⟨v1, X1, es1, hR1, hSS, n1, w1, hO, hn1⟩ := hN
          refine lv_istore (lv' := [(5, .int r1), (0, .ref b), (1, .ref (SA 0)), (2, .ref am), (3, .ref out), (4, .int (nI i))]) hx hb dL_law_841 hl (by decide) rfl (fun ls hl => ?_)
          refine lv_aload_n hx hb dL_law_843 rfl (lv_at hl 3 rfl) ?_
          refine lv_aload_n hx hb dL_law_844 rfl (lv_at hl 1 rfl) ?_
          refine lv_iload hx hb dL_law_845 (lv_at hl 5 rfl) ?_
          refine lv_iconst (v := nI 1) hx hb dL_law_847 (by decide) ?_
          refine lv_iadd hx hb dL_law_848 ?_
          refine lv_cv (nI_add i 1) ?_
          refine va_sld hx hb hX hbl hbA hS (vp_in_nI (n := i + 1) (N := L) (by omega) (by omega)) dL_law_849 ?_
          refine lv_cv e1 ?_
          refine lv_aload_n hx hb dL_law_850 rfl (lv_at hl 1 rfl) ?_
          refine lv_iload hx hb dL_law_851 (lv_at hl 5 rfl) ?_
          refine lv_iconst (v := nI 2) hx hb dL_law_853 (by decide) ?_
          refine lv_iadd hx hb dL_law_854 ?_
          refine lv_cv (nI_add i 2) ?_
          refine va_sld hx hb hX hbl hbA hS (vp_in_nI (n := i + 2) (N := L) (by omega) (by omega)) dL_law_855 ?_
          refine lv_cv e2 ?_
          refine lv_if_eq (tgt := 863) hx hb dL_law_856 (by decide) (fun c_26 => ?_) (fun c_26 => ?_)
          · exact absurd c_26 hz2
          · refine lv_iconst (v := nI 1) hx hb dL_law_859 (by decide) ?_
            refine lv_goto (tgt := 864) hx hb dL_law_860 (by decide) ?_
            refine lv_aload_n hx hb dL_law_864 rfl (lv_at hl 1 rfl) ?_
            refine lv_iload hx hb dL_law_865 (lv_at hl 5 rfl) ?_
            refine lv_iconst (v := nI 3) hx hb dL_law_867 (by decide) ?_
            refine lv_iadd hx hb dL_law_868 ?_
            refine lv_cv (nI_add i 3) ?_
            refine va_sld hx hb hX hbl hbA hS (vp_in_nI (n := i + 3) (N := L) (by omega) (by omega)) dL_law_869 ?_
            refine lv_cv e3 ?_
            refine lv_if_eq (tgt := 877) hx hb dL_law_870 (by decide) (fun c_27 => ?_) (fun c_27 => ?_)
            · refine lv_iconst (v := nI 0) hx hb dL_law_877 (by decide) ?_
              refine qI_V (A := A0f s.heap.size) (A1 := (A2f s.heap.size SA out)) (b := am) (As := [.int y1, .int (bI true), .int (bI false)]) (rest := []) ⟨hx, hb, hml, hown, hts⟩ (mX4_truth_ (A := (A2f s.heap.size SA out)) (am := am) (xa := xa) (X := X) (P := pcL (X 14) es) (k := k) (th := th)) (cwV 3 hts (gV tw_5_38 tw_5_39 tw_5_40 tw_1_8 tw_5_41) rfl rfl rfl (by decide +kernel) ⟨Nat.le_of_ble_eq_true rfl, Nat.le_of_ble_eq_true rfl⟩) hC hS (fun q h => h.1) (A2f_new hSS ⟨_, _, hO⟩ hS.1) (hM.recv hK) hM rfl rfl hl.1 (Nat.le_of_ble_eq_true rfl) ⟨Nat.le_trans (by omega) hc, Nat.le_trans (by omega) hs⟩ dL_law_878 (fun r2 H2 L2 hP hk hS => ?_)
              have hSS := hSS.kp hk (fun i hi h => h.2.1 i hi rfl)
              have hO := at_kp hO hk (fun h => h.2.2 rfl)
              have hM2 : ∃ (X2 : Nat → List Nat) (es2 : List Nat) (th2 : Int32), RP_truth X es y1 true false th2 r2 X2 es2 ∧ MW G (A2f s.heap.size SA out) am xa X2 (pcL (X2 14) es2) k th2 H2 := by
                rcases hP with ⟨c0, -, h9⟩ | ⟨c0, -, h9⟩ | ⟨z0, q0, q1, q2, q3, h9⟩
                · exact ⟨_, _, _, Or.inr (Or.inl ⟨rfl, c0, rfl, rfl⟩), h9⟩
                · exact ⟨_, _, _, Or.inr (Or.inr (⟨rfl, c0, rfl, rfl⟩)), h9⟩
                · exact ⟨_, _, _, Or.inl ⟨rfl, z0, q0, q1, q2, q3, rfl, rfl⟩, by rw [updT_n (by omega)]; exact h9⟩
              obtain ⟨X2, es2, th2, hR2, hM⟩ := hM2
              obtain ⟨ec, eX, ee, ev⟩ := ag_truth h60 he hR1 hR2
              subst eX
              subst ee
              refine lv_istore (lv' := [(6, .int r2), (5, .int r1), (0, .ref b), (1, .ref (SA 0)), (2, .ref am), (3, .ref out), (4, .int (nI i))]) hx hb dL_law_881 hl (by decide) rfl (fun ls hl => ?_)
              refine lv_goto (tgt := 2115) hx hb dL_law_883 (by decide) ?_
              refine W.widen (k := cells + 140) (n := slots + 9600) (by omega) (by omega) ?_
              exact kk k H2 L2 ls ⟨_, _, hSS, ⟨_, hM⟩, _, _, hO⟩ hS (lv_sub hl [2, 3, 4, 5, 6] rfl)
            · exact absurd hz3 c_27
        · exact absurd hz3 c_25
    · refine lv_aload_n hx hb dL_law_802 rfl (lv_at hl 1 rfl) ?_
      refine lv_aload_n hx hb dL_law_803 rfl (lv_at hl 0 rfl) ?_
      refine lv_iload hx hb dL_law_804 (lv_at hl 4 rfl) ?_
      refine lv_iconst (v := nI 1) hx hb dL_law_806 (by decide) ?_
      refine lv_iadd hx hb dL_law_807 ?_
      refine lv_cv (nI_add i 1) ?_
      refine va_sld hx hb hX hbl hbA hS (vp_in_nI (n := i + 1) (N := L) (by omega) (by omega)) dL_law_808 ?_
      refine lv_cv e1 ?_
      refine lv_aload_n hx hb dL_law_809 rfl (lv_at hl 0 rfl) ?_
      refine lv_iload hx hb dL_law_810 (lv_at hl 4 rfl) ?_
      refine lv_iconst (v := nI 2) hx hb dL_law_812 (by decide) ?_
      refine lv_iadd hx hb dL_law_813 ?_
      refine lv_cv (nI_add i 2) ?_
      refine va_sld hx hb hX hbl hbA hS (vp_in_nI (n := i + 2) (N := L) (by omega) (by omega)) dL_law_814 ?_
      refine lv_cv e2 ?_
      refine lv_if_eq (tgt := 822) hx hb dL_law_815 (by decide) (fun c_28 => ?_) (fun c_28 => ?_)
      · exact absurd c_28 hz2
      · refine lv_iconst (v := nI 1) hx hb dL_law_818 (by decide) ?_
        refine lv_goto (tgt := 823) hx hb dL_law_819 (by decide) ?_
        refine lv_aload_n hx hb dL_law_823 rfl (lv_at hl 0 rfl) ?_
        refine lv_iload hx hb dL_law_824 (lv_at hl 4 rfl) ?_
        refine lv_iconst (v := nI 3) hx hb dL_law_826 (by decide) ?_
        refine lv_iadd hx hb dL_law_827 ?_
        refine lv_cv (nI_add i 3) ?_
        refine va_sld hx hb hX hbl hbA hS (vp_in_nI (n := i + 3) (N := L) (by omega) (by omega)) dL_law_828 ?_
        refine lv_cv e3 ?_
        refine lv_if_eq (tgt := 836) hx hb dL_law_829 (by decide) (fun c_29 => ?_) (fun c_29 => ?_)
        · exact absurd c_29 hz3
        · refine lv_iconst (v := nI 1) hx hb dL_law_832 (by decide) ?_
          refine lv_goto (tgt := 837) hx hb dL_law_833 (by decide) ?_
          refine lv_aload_n hx hb dL_law_837 rfl (lv_at hl 3 rfl) ?_
          refine qI_SW (A := A0f s.heap.size) (A1 := (A1f SA out H.size)) (As := [.ref (SA 0), .int y1, .int (bI true), .int (bI true), .ref out]) (rest := []) ⟨hx, hb, hml, hown, hts⟩ (mL_truth (A := (A1f SA out H.size)) hst (out := out) (SA := SA) (X := X) (es := es) (k := k) (fun i hi => Or.inl ⟨i, hi, rfl⟩) (Or.inr (Or.inl rfl)) hSo) (vx_cwSW 5 hts (gSW tw_3_139 tw_3_140 tw_1_0 cw_truth) rfl rfl rfl (by decide +kernel) ⟨Nat.le_of_ble_eq_true rfl, Nat.le_of_ble_eq_true rfl⟩) hC hS (A1f_in hSA hout hS.1) (fun q h => Or.inr (Or.inr h)) ⟨hSS, hO⟩ rfl rfl hl.1 (Nat.le_of_ble_eq_true rfl) ⟨Nat.le_trans (by omega) hc, Nat.le_trans (by omega) hs⟩ dL_law_838 (fun r1 H1 L1 hP hk hS => ?_)
          have h60 := hM.h60
          have he := hM.he
          have hM := MW.kc hK hSS hM hO hk
          have hN : ∃ (v : Int32) (X1 : Nat → List Nat) (es1 : List Nat), RP_truth X es y1 true true r1 v X1 es1 ∧ SS G SA X1 es1 k H1 ∧ ∃ (n : Int64) (w : Value), va_at G.1 vwCl (out, .inr (7, [.long n, w])) H1 ∧ (r1 = 0 → n = v.toInt64) := by
            rcases hP with ⟨e0, v9, H0, hv, hk0, w9, hO1⟩ | ⟨e0, c0, hS1, n0, w0, hO1⟩ | ⟨e0, c0, hS1, n0, w0, hO1⟩
            · obtain ⟨z0, q0, q1, q2, q3, hS1⟩ := hv
              exact ⟨v9, _, _, Or.inl ⟨e0, z0, q0, q1, q2, q3, rfl, rfl⟩, hS1.kp hk0 (fun i hi e => hSo i hi e), _, _, hO1, fun _ => rfl⟩
            · exact ⟨0, _, _, Or.inr (Or.inl ⟨e0, c0, rfl, rfl⟩), hS1, _, _, hO1, fun e => absurd (e0.symm.trans e) (by decide)⟩
            · exact ⟨0, _, _, Or.inr (Or.inr (⟨e0, c0, rfl, rfl⟩)), hS1, _, _, hO1, fun e => absurd (e0.symm.trans e) (by decide)⟩
          obtain ⟨v1, X1, es1, hR1, hSS, n1, w1, hO, hn1⟩ := hN
          refine lv_istore (lv' := [(5, .int r1), (0, .ref b), (1, .ref (SA 0)), (2, .ref am), (3, .ref out), (4, .int (nI i))]) hx hb dL_law_841 hl (by decide) rfl (fun ls hl => ?_)
          refine lv_aload_n hx hb dL_law_843 rfl (lv_at hl 3 rfl) ?_
          refine lv_aload_n hx hb dL_law_844 rfl (lv_at hl 1 rfl) ?_
          refine lv_iload hx hb dL_law_845 (lv_at hl 5 rfl) ?_
          refine lv_iconst (v := nI 1) hx hb dL_law_847 (by decide) ?_
          refine lv_iadd hx hb dL_law_848 ?_
          refine lv_cv (nI_add i 1) ?_
          refine va_sld hx hb hX hbl hbA hS (vp_in_nI (n := i + 1) (N := L) (by omega) (by omega)) dL_law_849 ?_
          refine lv_cv e1 ?_
          refine lv_aload_n hx hb dL_law_850 rfl (lv_at hl 1 rfl) ?_
          refine lv_iload hx hb dL_law_851 (lv_at hl 5 rfl) ?_
          refine lv_iconst (v := nI 2) hx hb dL_law_853 (by decide) ?_
          refine lv_iadd hx hb dL_law_854 ?_
          refine lv_cv (nI_add i 2) ?_
          refine va_sld hx hb hX hbl hbA hS (vp_in_nI (n := i + 2) (N := L) (by omega) (by omega)) dL_law_855 ?_
          refine lv_cv e2 ?_
          refine lv_if_eq (tgt := 863) hx hb dL_law_856 (by decide) (fun c_30 => ?_) (fun c_30 => ?_)
          · exact absurd c_30 hz2
          · refine lv_iconst (v := nI 1) hx hb dL_law_859 (by decide) ?_
            refine lv_goto (tgt := 864) hx hb dL_law_860 (by decide) ?_
            refine lv_aload_n hx hb dL_law_864 rfl (lv_at hl 1 rfl) ?_
            refine lv_iload hx hb dL_law_865 (lv_at hl 5 rfl) ?_
            refine lv_iconst (v := nI 3) hx hb dL_law_867 (by decide) ?_
            refine lv_iadd hx hb dL_law_868 ?_
            refine lv_cv (nI_add i 3) ?_
            refine va_sld hx hb hX hbl hbA hS (vp_in_nI (n := i + 3) (N := L) (by omega) (by omega)) dL_law_869 ?_
            refine lv_cv e3 ?_
            refine lv_if_eq (tgt := 877) hx hb dL_law_870 (by decide) (fun c_31 => ?_) (fun c_31 => ?_)
            · exact absurd c_31 hz3
            · refine lv_iconst (v := nI 1) hx hb dL_law_873 (by decide) ?_
              refine lv_goto (tgt := 878) hx hb dL_law_874 (by decide) ?_
              refine qI_V (A := A0f s.heap.size) (A1 := (A2f s.heap.size SA out)) (b := am) (As := [.int y1, .int (bI true), .int (bI true)]) (rest := []) ⟨hx, hb, hml, hown, hts⟩ (mX4_truth_ (A := (A2f s.heap.size SA out)) (am := am) (xa := xa) (X := X) (P := pcL (X 14) es) (k := k) (th := th)) (cwV 3 hts (gV tw_5_38 tw_5_39 tw_5_40 tw_1_8 tw_5_41) rfl rfl rfl (by decide +kernel) ⟨Nat.le_of_ble_eq_true rfl, Nat.le_of_ble_eq_true rfl⟩) hC hS (fun q h => h.1) (A2f_new hSS ⟨_, _, hO⟩ hS.1) (hM.recv hK) hM rfl rfl hl.1 (Nat.le_of_ble_eq_true rfl) ⟨Nat.le_trans (by omega) hc, Nat.le_trans (by omega) hs⟩ dL_law_878 (fun r2 H2 L2 hP hk hS => ?_)
              have hSS := hSS.kp hk (fun i hi h => h.2.1 i hi rfl)
              have hO := at_kp hO hk (fun h => h.2.2 rfl)
              have hM2 : ∃ (X2 : Nat → List Nat) (es2 : List Nat) (th2 : Int32), RP_truth X es y1 true true th2 r2 X2 es2 ∧ MW G (A2f s.heap.size SA out) am xa X2 (pcL (X2 14) es2) k th2 H2 := by
                rcases hP with ⟨c0, -, h9⟩ | ⟨c0, -, h9⟩ | ⟨z0, q0, q1, q2, q3, h9⟩
                · exact ⟨_, _, _, Or.inr (Or.inl ⟨rfl, c0, rfl, rfl⟩), h9⟩
                · exact ⟨_, _, _, Or.inr (Or.inr (⟨rfl, c0, rfl, rfl⟩)), h9⟩
                · exact ⟨_, _, _, Or.inl ⟨rfl, z0, q0, q1, q2, q3, rfl, rfl⟩, by rw [updT_n (by omega)]; exact h9⟩
              obtain ⟨X2, es2, th2, hR2, hM⟩ := hM2
              obtain ⟨ec, eX, ee, ev⟩ := ag_truth h60 he hR1 hR2
              subst eX
              subst ee
              refine lv_istore (lv' := [(6, .int r2), (5, .int r1), (0, .ref b), (1, .ref (SA 0)), (2, .ref am), (3, .ref out), (4, .int (nI i))]) hx hb dL_law_881 hl (by decide) rfl (fun ls hl => ?_)
              refine lv_goto (tgt := 2115) hx hb dL_law_883 (by decide) ?_
              refine W.widen (k := cells + 140) (n := slots + 9600) (by omega) (by omega) ?_
              exact kk k H2 L2 ls ⟨_, _, hSS, ⟨_, hM⟩, _, _, hO⟩ hS (lv_sub hl [2, 3, 4, 5, 6] rfl)

theorem lc_ahead {p : Program} {l : Launch} {e : Env} {s : State} {m : MethodId} {below : List Frame} {meth : Method} {c : Code} {b L : Nat} {xs : Nat → Int32} {G : Cx} {SA : Nat → Nat} {am xa out : Nat} (Z : LX p l e s m meth c b L xs G SA out) : LStep p l e s m below meth c b L G SA am xa out 886 := by
  intro k H locs cells slots i ls Q hI hS hi hc hs hl kk
  obtain ⟨hx, hb, hml, hown, hts, hC, hX, hbl, hL, hst, hSA, hSo, hout⟩ := Z
  have hK := hC.1
  have hA : ∀ q : Nat, s.heap.size ≤ q → A0f s.heap.size q := fun q h => h
  have hbA : ¬ A0f s.heap.size b := Nat.not_le_of_lt hbl
  obtain ⟨X, es, hSS, ⟨th, hM⟩, hO⟩ := hI
  obtain ⟨y1, e1⟩ : ∃ y, xs (nI (i + 1)).toNatClampNeg = y := ⟨_, rfl⟩
  obtain ⟨y2, e2⟩ : ∃ y, xs (nI (i + 2)).toNatClampNeg = y := ⟨_, rfl⟩
  refine lv_aload_n hx hb dL_law_886 rfl (lv_at hl 1 rfl) ?_
  refine lv_aload_n hx hb dL_law_887 rfl (lv_at hl 0 rfl) ?_
  refine lv_iload hx hb dL_law_888 (lv_at hl 4 rfl) ?_
  refine lv_iconst (v := nI 1) hx hb dL_law_890 (by decide) ?_
  refine lv_iadd hx hb dL_law_891 ?_
  refine lv_cv (nI_add i 1) ?_
  refine va_sld hx hb hX hbl hbA hS (vp_in_nI (n := i + 1) (N := L) (by omega) (by omega)) dL_law_892 ?_
  refine lv_cv e1 ?_
  refine lv_aload_n hx hb dL_law_893 rfl (lv_at hl 0 rfl) ?_
  refine lv_iload hx hb dL_law_894 (lv_at hl 4 rfl) ?_
  refine lv_iconst (v := nI 2) hx hb dL_law_896 (by decide) ?_
  refine lv_iadd hx hb dL_law_897 ?_
  refine lv_cv (nI_add i 2) ?_
  refine va_sld hx hb hX hbl hbA hS (vp_in_nI (n := i + 2) (N := L) (by omega) (by omega)) dL_law_898 ?_
  refine lv_cv e2 ?_
  refine lv_aload_n hx hb dL_law_899 rfl (lv_at hl 3 rfl) ?_
  refine qI_SW (A := A0f s.heap.size) (A1 := (A1f SA out H.size)) (As := [.ref (SA 0), .int y1, .int y2, .ref out]) (rest := []) ⟨hx, hb, hml, hown, hts⟩ (mL_ahead (A := (A1f SA out H.size)) hst (out := out) (SA := SA) (X := X) (es := es) (k := k) (fun i hi => Or.inl ⟨i, hi, rfl⟩) (Or.inr (Or.inl rfl)) hSo) (vx_cwSW 4 hts (gSW tw_3_148 tw_3_149 tw_1_0 cw_ahead) rfl rfl rfl (by decide +kernel) ⟨Nat.le_of_ble_eq_true rfl, Nat.le_of_ble_eq_true rfl⟩) hC hS (A1f_in hSA hout hS.1) (fun q h => Or.inr (Or.inr h)) ⟨hSS, hO⟩ rfl rfl hl.1 (Nat.le_of_ble_eq_true rfl) ⟨Nat.le_trans (by omega) hc, Nat.le_trans (by omega) hs⟩ dL_law_900 (fun r1 H1 L1 hP hk hS => ?_)
  have h60 := hM.h60
  have he := hM.he
  have hM := MW.kc hK hSS hM hO hk
  have hN : ∃ (v : Int32) (X1 : Nat → List Nat) (es1 : List Nat), RP_ahead X es y1 y2 r1 v X1 es1 ∧ SS G SA X1 es1 k H1 ∧ ∃ (n : Int64) (w : Value), va_at G.1 vwCl (out, .inr (7, [.long n, w])) H1 ∧ (r1 = 0 → n = v.toInt64) := by
    rcases hP with ⟨e0, v9, H0, hv, hk0, w9, hO1⟩ | ⟨e0, c0, hS1, n0, w0, hO1⟩ | ⟨e0, c0, hS1, n0, w0, hO1⟩ | ⟨e0, c0, hS1, n0, w0, hO1⟩
    · obtain ⟨z0, z1, q0, q1, q2, q3, q4, q5, hS1⟩ := hv
      exact ⟨v9, _, _, Or.inl ⟨e0, z0, z1, q0, q1, q2, q3, q4, q5, rfl, rfl⟩, hS1.kp hk0 (fun i hi e => hSo i hi e), _, _, hO1, fun _ => rfl⟩
    · exact ⟨0, _, _, Or.inr (Or.inl ⟨e0, c0, rfl, rfl⟩), hS1, _, _, hO1, fun e => absurd (e0.symm.trans e) (by decide)⟩
    · exact ⟨0, _, _, Or.inr (Or.inr (Or.inl ⟨e0, c0, rfl, rfl⟩)), hS1, _, _, hO1, fun e => absurd (e0.symm.trans e) (by decide)⟩
    · exact ⟨0, _, _, Or.inr (Or.inr (Or.inr (⟨e0, c0, rfl, rfl⟩))), hS1, _, _, hO1, fun e => absurd (e0.symm.trans e) (by decide)⟩
  obtain ⟨v1, X1, es1, hR1, hSS, n1, w1, hO, hn1⟩ := hN
  refine lv_istore (lv' := [(5, .int r1), (0, .ref b), (1, .ref (SA 0)), (2, .ref am), (3, .ref out), (4, .int (nI i))]) hx hb dL_law_903 hl (by decide) rfl (fun ls hl => ?_)
  refine lv_aload_n hx hb dL_law_905 rfl (lv_at hl 3 rfl) ?_
  refine lv_aload_n hx hb dL_law_906 rfl (lv_at hl 1 rfl) ?_
  refine lv_iload hx hb dL_law_907 (lv_at hl 5 rfl) ?_
  refine lv_iconst (v := nI 1) hx hb dL_law_909 (by decide) ?_
  refine lv_iadd hx hb dL_law_910 ?_
  refine lv_cv (nI_add i 1) ?_
  refine va_sld hx hb hX hbl hbA hS (vp_in_nI (n := i + 1) (N := L) (by omega) (by omega)) dL_law_911 ?_
  refine lv_cv e1 ?_
  refine lv_aload_n hx hb dL_law_912 rfl (lv_at hl 1 rfl) ?_
  refine lv_iload hx hb dL_law_913 (lv_at hl 5 rfl) ?_
  refine lv_iconst (v := nI 2) hx hb dL_law_915 (by decide) ?_
  refine lv_iadd hx hb dL_law_916 ?_
  refine lv_cv (nI_add i 2) ?_
  refine va_sld hx hb hX hbl hbA hS (vp_in_nI (n := i + 2) (N := L) (by omega) (by omega)) dL_law_917 ?_
  refine lv_cv e2 ?_
  refine qI_V (A := A0f s.heap.size) (A1 := (A2f s.heap.size SA out)) (b := am) (As := [.int y1, .int y2]) (rest := []) ⟨hx, hb, hml, hown, hts⟩ (mX4_ahead (A := (A2f s.heap.size SA out)) (am := am) (xa := xa) (X := X) (P := pcL (X 14) es) (k := k) (th := th)) (cwV 2 hts (gV tw_5_45 tw_5_46 tw_5_47 tw_1_8 tw_5_48) rfl rfl rfl (by decide +kernel) ⟨Nat.le_of_ble_eq_true rfl, Nat.le_of_ble_eq_true rfl⟩) hC hS (fun q h => h.1) (A2f_new hSS ⟨_, _, hO⟩ hS.1) (hM.recv hK) hM rfl rfl hl.1 (Nat.le_of_ble_eq_true rfl) ⟨Nat.le_trans (by omega) hc, Nat.le_trans (by omega) hs⟩ dL_law_918 (fun r2 H2 L2 hP hk hS => ?_)
  have hSS := hSS.kp hk (fun i hi h => h.2.1 i hi rfl)
  have hO := at_kp hO hk (fun h => h.2.2 rfl)
  have hM2 : ∃ (X2 : Nat → List Nat) (es2 : List Nat) (th2 : Int32), RP_ahead X es y1 y2 th2 r2 X2 es2 ∧ MW G (A2f s.heap.size SA out) am xa X2 (pcL (X2 14) es2) k th2 H2 := by
    rcases hP with ⟨c0, -, h9⟩ | ⟨c0, -, h9⟩ | ⟨c0, -, h9⟩ | ⟨z0, z1, q0, q1, q2, q3, q4, q5, h9⟩
    · exact ⟨_, _, _, Or.inr (Or.inl ⟨rfl, c0, rfl, rfl⟩), h9⟩
    · exact ⟨_, _, _, Or.inr (Or.inr (Or.inl ⟨rfl, c0, rfl, rfl⟩)), h9⟩
    · exact ⟨_, _, _, Or.inr (Or.inr (Or.inr (⟨rfl, c0, rfl, rfl⟩))), h9⟩
    · exact ⟨_, _, _, Or.inl ⟨rfl, z0, z1, q0, q1, q2, q3, q4, q5, rfl, rfl⟩, by rw [updT_n (by omega)]; exact h9⟩
  obtain ⟨X2, es2, th2, hR2, hM⟩ := hM2
  obtain ⟨ec, eX, ee, ev⟩ := ag_ahead h60 he hR1 hR2
  subst eX
  subst ee
  refine lv_istore (lv' := [(6, .int r2), (5, .int r1), (0, .ref b), (1, .ref (SA 0)), (2, .ref am), (3, .ref out), (4, .int (nI i))]) hx hb dL_law_921 hl (by decide) rfl (fun ls hl => ?_)
  refine lv_goto (tgt := 2115) hx hb dL_law_923 (by decide) ?_
  refine W.widen (k := cells + 140) (n := slots + 9600) (by omega) (by omega) ?_
  exact kk k H2 L2 ls ⟨_, _, hSS, ⟨_, hM⟩, _, _, hO⟩ hS (lv_sub hl [2, 3, 4, 5, 6] rfl)

theorem lc_known {p : Program} {l : Launch} {e : Env} {s : State} {m : MethodId} {below : List Frame} {meth : Method} {c : Code} {b L : Nat} {xs : Nat → Int32} {G : Cx} {SA : Nat → Nat} {am xa out : Nat} (Z : LX p l e s m meth c b L xs G SA out) : LStep p l e s m below meth c b L G SA am xa out 926 := by
  intro k H locs cells slots i ls Q hI hS hi hc hs hl kk
  obtain ⟨hx, hb, hml, hown, hts, hC, hX, hbl, hL, hst, hSA, hSo, hout⟩ := Z
  have hK := hC.1
  have hA : ∀ q : Nat, s.heap.size ≤ q → A0f s.heap.size q := fun q h => h
  have hbA : ¬ A0f s.heap.size b := Nat.not_le_of_lt hbl
  obtain ⟨X, es, hSS, ⟨th, hM⟩, hO⟩ := hI
  obtain ⟨y1, e1⟩ : ∃ y, xs (nI (i + 1)).toNatClampNeg = y := ⟨_, rfl⟩
  obtain ⟨y2, e2⟩ : ∃ y, xs (nI (i + 2)).toNatClampNeg = y := ⟨_, rfl⟩
  refine lv_aload_n hx hb dL_law_926 rfl (lv_at hl 1 rfl) ?_
  refine lv_aload_n hx hb dL_law_927 rfl (lv_at hl 0 rfl) ?_
  refine lv_iload hx hb dL_law_928 (lv_at hl 4 rfl) ?_
  refine lv_iconst (v := nI 1) hx hb dL_law_930 (by decide) ?_
  refine lv_iadd hx hb dL_law_931 ?_
  refine lv_cv (nI_add i 1) ?_
  refine va_sld hx hb hX hbl hbA hS (vp_in_nI (n := i + 1) (N := L) (by omega) (by omega)) dL_law_932 ?_
  refine lv_cv e1 ?_
  refine lv_aload_n hx hb dL_law_933 rfl (lv_at hl 0 rfl) ?_
  refine lv_iload hx hb dL_law_934 (lv_at hl 4 rfl) ?_
  refine lv_iconst (v := nI 2) hx hb dL_law_936 (by decide) ?_
  refine lv_iadd hx hb dL_law_937 ?_
  refine lv_cv (nI_add i 2) ?_
  refine va_sld hx hb hX hbl hbA hS (vp_in_nI (n := i + 2) (N := L) (by omega) (by omega)) dL_law_938 ?_
  refine lv_cv e2 ?_
  refine lv_aload_n hx hb dL_law_939 rfl (lv_at hl 3 rfl) ?_
  refine qI_SW (A := A0f s.heap.size) (A1 := (A1f SA out H.size)) (As := [.ref (SA 0), .int y1, .int y2, .ref out]) (rest := []) ⟨hx, hb, hml, hown, hts⟩ (mL_known (A := (A1f SA out H.size)) hst (out := out) (SA := SA) (X := X) (es := es) (k := k) (fun i hi => Or.inl ⟨i, hi, rfl⟩) (Or.inr (Or.inl rfl)) hSo) (vx_cwSW 4 hts (gSW tw_3_155 tw_3_156 tw_1_0 cw_known) rfl rfl rfl (by decide +kernel) ⟨Nat.le_of_ble_eq_true rfl, Nat.le_of_ble_eq_true rfl⟩) hC hS (A1f_in hSA hout hS.1) (fun q h => Or.inr (Or.inr h)) ⟨hSS, hO⟩ rfl rfl hl.1 (Nat.le_of_ble_eq_true rfl) ⟨Nat.le_trans (by omega) hc, Nat.le_trans (by omega) hs⟩ dL_law_940 (fun r1 H1 L1 hP hk hS => ?_)
  have h60 := hM.h60
  have he := hM.he
  have hM := MW.kc hK hSS hM hO hk
  have hN : ∃ (v : Int32) (X1 : Nat → List Nat) (es1 : List Nat), RP_known X es y1 y2 r1 v X1 es1 ∧ SS G SA X1 es1 k H1 ∧ ∃ (n : Int64) (w : Value), va_at G.1 vwCl (out, .inr (7, [.long n, w])) H1 ∧ (r1 = 0 → n = v.toInt64) := by
    rcases hP with ⟨e0, v9, H0, hv, hk0, w9, hO1⟩ | ⟨e0, c0, hS1, n0, w0, hO1⟩ | ⟨e0, c0, hS1, n0, w0, hO1⟩ | ⟨e0, c0, hS1, n0, w0, hO1⟩
    · obtain ⟨z0, z1, q0, q1, q2, q3, q4, q5, hS1⟩ := hv
      exact ⟨v9, _, _, Or.inl ⟨e0, z0, z1, q0, q1, q2, q3, q4, q5, rfl, rfl⟩, hS1.kp hk0 (fun i hi e => hSo i hi e), _, _, hO1, fun _ => rfl⟩
    · exact ⟨0, _, _, Or.inr (Or.inl ⟨e0, c0, rfl, rfl⟩), hS1, _, _, hO1, fun e => absurd (e0.symm.trans e) (by decide)⟩
    · exact ⟨0, _, _, Or.inr (Or.inr (Or.inl ⟨e0, c0, rfl, rfl⟩)), hS1, _, _, hO1, fun e => absurd (e0.symm.trans e) (by decide)⟩
    · exact ⟨0, _, _, Or.inr (Or.inr (Or.inr (⟨e0, c0, rfl, rfl⟩))), hS1, _, _, hO1, fun e => absurd (e0.symm.trans e) (by decide)⟩
  obtain ⟨v1, X1, es1, hR1, hSS, n1, w1, hO, hn1⟩ := hN
  refine lv_istore (lv' := [(5, .int r1), (0, .ref b), (1, .ref (SA 0)), (2, .ref am), (3, .ref out), (4, .int (nI i))]) hx hb dL_law_943 hl (by decide) rfl (fun ls hl => ?_)
  refine lv_aload_n hx hb dL_law_945 rfl (lv_at hl 3 rfl) ?_
  refine lv_aload_n hx hb dL_law_946 rfl (lv_at hl 1 rfl) ?_
  refine lv_iload hx hb dL_law_947 (lv_at hl 5 rfl) ?_
  refine lv_iconst (v := nI 1) hx hb dL_law_949 (by decide) ?_
  refine lv_iadd hx hb dL_law_950 ?_
  refine lv_cv (nI_add i 1) ?_
  refine va_sld hx hb hX hbl hbA hS (vp_in_nI (n := i + 1) (N := L) (by omega) (by omega)) dL_law_951 ?_
  refine lv_cv e1 ?_
  refine lv_aload_n hx hb dL_law_952 rfl (lv_at hl 1 rfl) ?_
  refine lv_iload hx hb dL_law_953 (lv_at hl 5 rfl) ?_
  refine lv_iconst (v := nI 2) hx hb dL_law_955 (by decide) ?_
  refine lv_iadd hx hb dL_law_956 ?_
  refine lv_cv (nI_add i 2) ?_
  refine va_sld hx hb hX hbl hbA hS (vp_in_nI (n := i + 2) (N := L) (by omega) (by omega)) dL_law_957 ?_
  refine lv_cv e2 ?_
  refine qI_V (A := A0f s.heap.size) (A1 := (A2f s.heap.size SA out)) (b := am) (As := [.int y1, .int y2]) (rest := []) ⟨hx, hb, hml, hown, hts⟩ (mX4_known (A := (A2f s.heap.size SA out)) (am := am) (xa := xa) (X := X) (P := pcL (X 14) es) (k := k) (th := th)) (cwV 2 hts (gV tw_5_49 tw_5_50 tw_5_51 tw_1_8 tw_5_52) rfl rfl rfl (by decide +kernel) ⟨Nat.le_of_ble_eq_true rfl, Nat.le_of_ble_eq_true rfl⟩) hC hS (fun q h => h.1) (A2f_new hSS ⟨_, _, hO⟩ hS.1) (hM.recv hK) hM rfl rfl hl.1 (Nat.le_of_ble_eq_true rfl) ⟨Nat.le_trans (by omega) hc, Nat.le_trans (by omega) hs⟩ dL_law_958 (fun r2 H2 L2 hP hk hS => ?_)
  have hSS := hSS.kp hk (fun i hi h => h.2.1 i hi rfl)
  have hO := at_kp hO hk (fun h => h.2.2 rfl)
  have hM2 : ∃ (X2 : Nat → List Nat) (es2 : List Nat) (th2 : Int32), RP_known X es y1 y2 th2 r2 X2 es2 ∧ MW G (A2f s.heap.size SA out) am xa X2 (pcL (X2 14) es2) k th2 H2 := by
    rcases hP with ⟨c0, -, h9⟩ | ⟨c0, -, h9⟩ | ⟨c0, -, h9⟩ | ⟨z0, z1, q0, q1, q2, q3, q4, q5, h9⟩
    · exact ⟨_, _, _, Or.inr (Or.inl ⟨rfl, c0, rfl, rfl⟩), h9⟩
    · exact ⟨_, _, _, Or.inr (Or.inr (Or.inl ⟨rfl, c0, rfl, rfl⟩)), h9⟩
    · exact ⟨_, _, _, Or.inr (Or.inr (Or.inr (⟨rfl, c0, rfl, rfl⟩))), h9⟩
    · exact ⟨_, _, _, Or.inl ⟨rfl, z0, z1, q0, q1, q2, q3, q4, q5, rfl, rfl⟩, by rw [updT_n (by omega)]; exact h9⟩
  obtain ⟨X2, es2, th2, hR2, hM⟩ := hM2
  obtain ⟨ec, eX, ee, ev⟩ := ag_known h60 he hR1 hR2
  subst eX
  subst ee
  refine lv_istore (lv' := [(6, .int r2), (5, .int r1), (0, .ref b), (1, .ref (SA 0)), (2, .ref am), (3, .ref out), (4, .int (nI i))]) hx hb dL_law_961 hl (by decide) rfl (fun ls hl => ?_)
  refine lv_goto (tgt := 2115) hx hb dL_law_963 (by decide) ?_
  refine W.widen (k := cells + 140) (n := slots + 9600) (by omega) (by omega) ?_
  exact kk k H2 L2 ls ⟨_, _, hSS, ⟨_, hM⟩, _, _, hO⟩ hS (lv_sub hl [2, 3, 4, 5, 6] rfl)

theorem lc_lay {p : Program} {l : Launch} {e : Env} {s : State} {m : MethodId} {below : List Frame} {meth : Method} {c : Code} {b L : Nat} {xs : Nat → Int32} {G : Cx} {SA : Nat → Nat} {am xa out : Nat} (Z : LX p l e s m meth c b L xs G SA out) : LStep p l e s m below meth c b L G SA am xa out 966 := by
  intro k H locs cells slots i ls Q hI hS hi hc hs hl kk
  obtain ⟨hx, hb, hml, hown, hts, hC, hX, hbl, hL, hst, hSA, hSo, hout⟩ := Z
  have hK := hC.1
  have hA : ∀ q : Nat, s.heap.size ≤ q → A0f s.heap.size q := fun q h => h
  have hbA : ¬ A0f s.heap.size b := Nat.not_le_of_lt hbl
  obtain ⟨X, es, hSS, ⟨th, hM⟩, hO⟩ := hI
  obtain ⟨y1, e1⟩ : ∃ y, xs (nI (i + 1)).toNatClampNeg = y := ⟨_, rfl⟩
  refine lv_aload_n hx hb dL_law_966 rfl (lv_at hl 1 rfl) ?_
  refine lv_aload_n hx hb dL_law_967 rfl (lv_at hl 0 rfl) ?_
  refine lv_iload hx hb dL_law_968 (lv_at hl 4 rfl) ?_
  refine lv_iconst (v := nI 1) hx hb dL_law_970 (by decide) ?_
  refine lv_iadd hx hb dL_law_971 ?_
  refine lv_cv (nI_add i 1) ?_
  refine va_sld hx hb hX hbl hbA hS (vp_in_nI (n := i + 1) (N := L) (by omega) (by omega)) dL_law_972 ?_
  refine lv_cv e1 ?_
  refine lv_aload_n hx hb dL_law_973 rfl (lv_at hl 3 rfl) ?_
  refine qI_SW (A := A0f s.heap.size) (A1 := (A1f SA out H.size)) (As := [.ref (SA 0), .int y1, .ref out]) (rest := []) ⟨hx, hb, hml, hown, hts⟩ (mL_lay (A := (A1f SA out H.size)) hst (out := out) (SA := SA) (X := X) (es := es) (k := k) (fun i hi => Or.inl ⟨i, hi, rfl⟩) (Or.inr (Or.inl rfl)) hSo) (vx_cwSW 3 hts (gSW tw_3_166 tw_3_167 tw_1_0 cw_lay) rfl rfl rfl (by decide +kernel) ⟨Nat.le_of_ble_eq_true rfl, Nat.le_of_ble_eq_true rfl⟩) hC hS (A1f_in hSA hout hS.1) (fun q h => Or.inr (Or.inr h)) ⟨hSS, hO⟩ rfl rfl hl.1 (Nat.le_of_ble_eq_true rfl) ⟨Nat.le_trans (by omega) hc, Nat.le_trans (by omega) hs⟩ dL_law_974 (fun r1 H1 L1 hP hk hS => ?_)
  have h60 := hM.h60
  have he := hM.he
  have hM := MW.kc hK hSS hM hO hk
  have hN : ∃ (v : Int32) (X1 : Nat → List Nat) (es1 : List Nat), RP_lay X es y1 r1 v X1 es1 ∧ SS G SA X1 es1 k H1 ∧ ∃ (n : Int64) (w : Value), va_at G.1 vwCl (out, .inr (7, [.long n, w])) H1 ∧ (r1 = 0 → n = v.toInt64) := by
    rcases hP with ⟨e0, v9, H0, hv, hk0, w9, hO1⟩ | ⟨e0, c0, hS1, n0, w0, hO1⟩
    · obtain ⟨z0, q0, q1, q2, hS1⟩ := hv
      exact ⟨v9, _, _, Or.inl ⟨e0, z0, q0, q1, q2, rfl, rfl⟩, hS1.kp hk0 (fun i hi e => hSo i hi e), _, _, hO1, fun _ => rfl⟩
    · exact ⟨0, _, _, Or.inr (⟨e0, c0, rfl, rfl⟩), hS1, _, _, hO1, fun e => absurd (e0.symm.trans e) (by decide)⟩
  obtain ⟨v1, X1, es1, hR1, hSS, n1, w1, hO, hn1⟩ := hN
  refine lv_istore (lv' := [(5, .int r1), (0, .ref b), (1, .ref (SA 0)), (2, .ref am), (3, .ref out), (4, .int (nI i))]) hx hb dL_law_977 hl (by decide) rfl (fun ls hl => ?_)
  refine lv_aload_n hx hb dL_law_979 rfl (lv_at hl 3 rfl) ?_
  refine lv_aload_n hx hb dL_law_980 rfl (lv_at hl 1 rfl) ?_
  refine lv_iload hx hb dL_law_981 (lv_at hl 5 rfl) ?_
  refine lv_iconst (v := nI 1) hx hb dL_law_983 (by decide) ?_
  refine lv_iadd hx hb dL_law_984 ?_
  refine lv_cv (nI_add i 1) ?_
  refine va_sld hx hb hX hbl hbA hS (vp_in_nI (n := i + 1) (N := L) (by omega) (by omega)) dL_law_985 ?_
  refine lv_cv e1 ?_
  refine qI_V (A := A0f s.heap.size) (A1 := (A2f s.heap.size SA out)) (b := am) (As := [.int y1]) (rest := []) ⟨hx, hb, hml, hown, hts⟩ (mX4_lay (A := (A2f s.heap.size SA out)) (am := am) (xa := xa) (X := X) (P := pcL (X 14) es) (k := k) (th := th)) (cwV 1 hts (gV tw_5_58 tw_5_59 tw_5_60 tw_1_8 tw_5_61) rfl rfl rfl (by decide +kernel) ⟨Nat.le_of_ble_eq_true rfl, Nat.le_of_ble_eq_true rfl⟩) hC hS (fun q h => h.1) (A2f_new hSS ⟨_, _, hO⟩ hS.1) (hM.recv hK) hM rfl rfl hl.1 (Nat.le_of_ble_eq_true rfl) ⟨Nat.le_trans (by omega) hc, Nat.le_trans (by omega) hs⟩ dL_law_986 (fun r2 H2 L2 hP hk hS => ?_)
  have hSS := hSS.kp hk (fun i hi h => h.2.1 i hi rfl)
  have hO := at_kp hO hk (fun h => h.2.2 rfl)
  have hM2 : ∃ (X2 : Nat → List Nat) (es2 : List Nat) (th2 : Int32), RP_lay X es y1 th2 r2 X2 es2 ∧ MW G (A2f s.heap.size SA out) am xa X2 (pcL (X2 14) es2) k th2 H2 := by
    rcases hP with ⟨c0, -, h9⟩ | ⟨z0, q0, q1, q2, h9⟩
    · exact ⟨_, _, _, Or.inr (⟨rfl, c0, rfl, rfl⟩), h9⟩
    · exact ⟨_, _, _, Or.inl ⟨rfl, z0, q0, q1, q2, rfl, rfl⟩, by rw [updT_n (by omega)]; exact h9⟩
  obtain ⟨X2, es2, th2, hR2, hM⟩ := hM2
  obtain ⟨ec, eX, ee, ev⟩ := ag_lay h60 he hR1 hR2
  subst eX
  subst ee
  refine lv_istore (lv' := [(6, .int r2), (5, .int r1), (0, .ref b), (1, .ref (SA 0)), (2, .ref am), (3, .ref out), (4, .int (nI i))]) hx hb dL_law_989 hl (by decide) rfl (fun ls hl => ?_)
  refine lv_goto (tgt := 2115) hx hb dL_law_991 (by decide) ?_
  refine W.widen (k := cells + 140) (n := slots + 9600) (by omega) (by omega) ?_
  exact kk k H2 L2 ls ⟨_, _, hSS, ⟨_, hM⟩, _, _, hO⟩ hS (lv_sub hl [2, 3, 4, 5, 6] rfl)
