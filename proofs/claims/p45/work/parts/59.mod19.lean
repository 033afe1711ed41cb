/-! The model, 19: texts told -/
theorem dX4_text_0 : decode cX4_text 0 = .ok (.aload_n 0, 1) := by decide +kernel
theorem dX4_text_1 : decode cX4_text 1 = .ok (.iload_n 1, 1) := by decide +kernel
theorem dX4_text_2 : decode cX4_text 2 = .ok (.invokestatic 107, 3) := by decide +kernel
theorem dX4_text_5 : decode cX4_text 5 = .ok (.iconst 1, 1) := by decide +kernel
theorem dX4_text_6 : decode cX4_text 6 = .ok (.invokevirtual 110, 3) := by decide +kernel
theorem dX4_text_9 : decode cX4_text 9 = .ok (.ifCond .eq 8, 3) := by decide +kernel
theorem dX4_text_12 : decode cX4_text 12 = .ok (.ldc 150, 2) := by decide +kernel
theorem dX4_text_14 : decode cX4_text 14 = .ok (.goto 12, 3) := by decide +kernel
theorem dX4_text_17 : decode cX4_text 17 = .ok (.aload_n 0, 1) := by decide +kernel
theorem dX4_text_18 : decode cX4_text 18 = .ok (.getfield 72, 3) := by decide +kernel
theorem dX4_text_21 : decode cX4_text 21 = .ok (.iload_n 1, 1) := by decide +kernel
theorem dX4_text_22 : decode cX4_text 22 = .ok (.aaload, 1) := by decide +kernel
theorem dX4_text_23 : decode cX4_text 23 = .ok (.invokestatic 152, 3) := by decide +kernel
theorem dX4_text_26 : decode cX4_text 26 = .ok (.areturn, 1) := by decide +kernel
theorem dX4_row_0 : decode cX4_row 0 = .ok (.aload_n 0, 1) := by decide +kernel
theorem dX4_row_1 : decode cX4_row 1 = .ok (.iconst 0, 1) := by decide +kernel
theorem dX4_row_2 : decode cX4_row 2 = .ok (.putfield 82, 3) := by decide +kernel
theorem dX4_row_5 : decode cX4_row 5 = .ok (.aload_n 0, 1) := by decide +kernel
theorem dX4_row_6 : decode cX4_row 6 = .ok (.getfield 75, 3) := by decide +kernel
theorem dX4_row_9 : decode cX4_row 9 = .ok (.invokestatic 152, 3) := by decide +kernel
theorem dX4_row_12 : decode cX4_row 12 = .ok (.areturn, 1) := by decide +kernel
theorem dX4_piece_0 : decode cX4_piece 0 = .ok (.aload_n 0, 1) := by decide +kernel
theorem dX4_piece_1 : decode cX4_piece 1 = .ok (.aload_n 0, 1) := by decide +kernel
theorem dX4_piece_2 : decode cX4_piece 2 = .ok (.iload_n 1, 1) := by decide +kernel
theorem dX4_piece_3 : decode cX4_piece 3 = .ok (.invokevirtual 144, 3) := by decide +kernel
theorem dX4_piece_6 : decode cX4_piece 6 = .ok (.iconst 1, 1) := by decide +kernel
theorem dX4_piece_7 : decode cX4_piece 7 = .ok (.invokevirtual 110, 3) := by decide +kernel
theorem dX4_piece_10 : decode cX4_piece 10 = .ok (.ifCond .eq 8, 3) := by decide +kernel
theorem dX4_piece_13 : decode cX4_piece 13 = .ok (.ldc 150, 2) := by decide +kernel
theorem dX4_piece_15 : decode cX4_piece 15 = .ok (.goto 17, 3) := by decide +kernel
theorem dX4_piece_18 : decode cX4_piece 18 = .ok (.aload_n 0, 1) := by decide +kernel
theorem dX4_piece_19 : decode cX4_piece 19 = .ok (.getfield 78, 3) := by decide +kernel
theorem dX4_piece_22 : decode cX4_piece 22 = .ok (.iload_n 1, 1) := by decide +kernel
theorem dX4_piece_23 : decode cX4_piece 23 = .ok (.invokevirtual 58, 3) := by decide +kernel
theorem dX4_piece_26 : decode cX4_piece 26 = .ok (.checkcast 62, 3) := by decide +kernel
theorem dX4_piece_29 : decode cX4_piece 29 = .ok (.invokestatic 152, 3) := by decide +kernel
theorem dX4_piece_32 : decode cX4_piece 32 = .ok (.areturn, 1) := by decide +kernel
abbrev rmX4_text : Room := { frames := 8, cells := 64, slots := 7404, locals := 196 }
theorem mX4_text {l : Launch} {G : Cx} {A : Nat → Prop} {am xa : Nat} {X : Nat → List Nat} {P : List (List Nat)} {k : Int32} {x th : Int32} : Met l yX4_text (.code yX4_text cX4_text 2 (some (.object "java/lang/String")) :: GW) rmX4_text (PC G A [.ref am, .int x] (MW G A am xa X P k th)) (qR A (fun _ H => ((NT x) ∧ MW G A am xa X P k 1 H) ∨ ((∃ i : Nat, i < 4 ∧ x = nI i) ∧ MW G A am xa X P k 0 H))) 64 7404 (A) := by
  refine mstart "SigntextModel" (by decide +kernel) rfl (Nat.le_of_ble_eq_true rfl) ?_
  intro p e s m below meth c ls hx hb hr hts hown hml hlocks hname hC hA hW hl
  have hl : lv_has ls 2 [(0, .ref am), (1, .int x)] := hl
  have hK := hC.1
  have hS : va_S A s.heap s.heap [] := va_S.rf
  obtain ⟨ra, pa, tx, hW⟩ := hW
  have hO := hW.obj
  have hAm := hW.1
  refine lv_aload_n hx hb dX4_text_0 rfl (lv_at hl 0 rfl) ?_
  refine lv_iload_n hx hb dX4_text_1 rfl (lv_at hl 1 rfl) ?_
  refine kS_i (A := A) (As := [.int x]) (rest := .ref am :: []) ⟨hx, hb, hml, hown, hts⟩ (mX4_isNone (A := A) ) (va_cwS 1 hts (gS tw_4_203 tw_4_204 tw_1_8 tw_4_205) rfl rfl rfl (by decide +kernel) ⟨Nat.le_of_ble_eq_true rfl, Nat.le_of_ble_eq_true rfl⟩) hC hS hA  trivial rfl rfl hl.1 (Nat.le_of_ble_eq_true rfl) ⟨Nat.zero_le _, Nat.zero_le _⟩ dX4_text_2 (fun r_49 hr_49 => ?_)
  obtain ⟨r_49v, hr_49v, rfl⟩ := hr_49
  refine lv_iconst (v := nI 1) hx hb dX4_text_5 (by decide) ?_
  cases r_49v
  · obtain ⟨i, hi, rfl⟩ : ∃ i : Nat, i < 4 ∧ x = nI i := Classical.byContradiction (fun q => Bool.noConfusion (hr_49v.mpr q))
    refine qI_V (A := A) (A1 := A) (b := am) (As := [.int (bI false), .int (nI 1)]) (rest := []) ⟨hx, hb, hml, hown, hts⟩ (mX4_start (A := A) (X := X) (P := P) (k := k) (xa := xa) (b := false) (w9 := 1) (by decide)) (cwV 2 hts (gV tw_4_206 tw_4_208 sel_X4_start tw_1_8 tw_4_209) rfl rfl rfl (by decide +kernel) ⟨Nat.le_of_ble_eq_true rfl, Nat.le_of_ble_eq_true rfl⟩) hC hS (fun _ h => h) (fun q h => hA q (Nat.le_trans hS.1 h)) (hW.recv hK) ⟨ra, pa, tx, hW⟩ rfl rfl hl.1 (Nat.le_of_ble_eq_true rfl) ⟨Nat.zero_le _, Nat.zero_le _⟩ dX4_text_6 (fun rv50 H50 L50 hP50 hk50 hS => ?_)
    have hZ50 := hS.1
    obtain ⟨hr50, hM50⟩ := hP50
    subst hr50
    obtain ⟨ra, pa, tx, hW⟩ := hM50
    have hW : MWx G A am xa ra pa tx X P k (nI 0) H50 := hW
    have hO := hW.obj
    have hAm := hW.1
    refine f_eq (tgt := 17) hx hb dX4_text_9 (by decide) (fun c_51 => ?_) (fun c_51 => ?_)
    · refine lv_aload_n hx hb dX4_text_17 rfl (lv_at hl 0 rfl) ?_
      refine va_get (D := G.1) (ci := 8) (C := RX4) (T := TX4) (N := 5) hx hb hts inX4 hown hK (at_P hO) 0 rfl rfl 1 (by decide) (hts _ tw_4_173) (fun _ h9 => h9) rfl dX4_text_18 ?_
      refine lv_iload_n hx hb dX4_text_21 rfl (lv_at hl 1 rfl) ?_
      refine h_aaldI (D := G.1) hx hb hK 4 hW.txs rfl (vp_in_nI (n := i) (N := 4) (by omega) (by omega)) dX4_text_22 ?_
      refine v_cv (show va_rf _ = .ref (tx i) from by rw [nI_clamp (n := i) (by omega)]; rfl) ?_
      have x60i := hW.2.2.1 i (Or.inl (by omega))
      have hTi := hW.tx (j := i) (by omega)
      refine qR_S (A := A) (A1 := nw H50.size)  (As := [.ref (tx i)]) (rest := []) ⟨hx, hb, hml, hown, hts⟩ (mX4_told (A := nw H50.size) (sz := H50.size) x60i.1 x60i.2) (va_cwS 1 hts (gS tw_5_191 tw_5_192 tw_1_8 tw_5_193) rfl rfl rfl (by decide +kernel) ⟨Nat.le_of_ble_eq_true rfl, Nat.le_of_ble_eq_true rfl⟩) hC hS (nw_in hA hS.1) nw_n  ⟨rfl, hTi⟩ rfl rfl hl.1 (Nat.le_of_ble_eq_true rfl) ⟨Nat.le_trans (show 0 + 64 ≤ 64 by omega) (Nat.le_of_ble_eq_true rfl), Nat.le_trans (show 0 + 7404 ≤ 7404 by omega) (Nat.le_of_ble_eq_true rfl)⟩ dX4_text_23 (fun rv52 H52 L52 hP52 hk52 hS => ?_)
      have hZ52 := hS.1
      have hW := hW.nw hk52
      exact q_a hx hb hr (Or.inl ⟨_, rfl⟩) hlocks dX4_text_26 hS (by omega) (by omega) (Or.inr ⟨⟨i, hi, rfl⟩, ra, pa, tx, hW⟩)
    · exact absurd c_51 (by decide)
  · refine qI_V (A := A) (A1 := A) (b := am) (As := [.int (bI true), .int (nI 1)]) (rest := []) ⟨hx, hb, hml, hown, hts⟩ (mX4_start (A := A) (X := X) (P := P) (k := k) (xa := xa) (b := true) (w9 := 1) (by decide)) (cwV 2 hts (gV tw_4_206 tw_4_208 sel_X4_start tw_1_8 tw_4_209) rfl rfl rfl (by decide +kernel) ⟨Nat.le_of_ble_eq_true rfl, Nat.le_of_ble_eq_true rfl⟩) hC hS (fun _ h => h) (fun q h => hA q (Nat.le_trans hS.1 h)) (hW.recv hK) ⟨ra, pa, tx, hW⟩ rfl rfl hl.1 (Nat.le_of_ble_eq_true rfl) ⟨Nat.zero_le _, Nat.zero_le _⟩ dX4_text_6 (fun rv53 H53 L53 hP53 hk53 hS => ?_)
    have hZ53 := hS.1
    obtain ⟨hr53, hM53⟩ := hP53
    subst hr53
    obtain ⟨ra, pa, tx, hW⟩ := hM53
    have hW : MWx G A am xa ra pa tx X P k (nI 1) H53 := hW
    have hO := hW.obj
    have hAm := hW.1
    refine f_eq (tgt := 17) hx hb dX4_text_9 (by decide) (fun c_54 => ?_) (fun c_54 => ?_)
    · exact absurd c_54 (by decide)
    · refine va_ldcS hx hb hown (hC.2.2.2.2.1 ("SigntextModel", 150, "", 6) (by unfold sRl; simp)) dX4_text_12 ?_
      refine lv_goto (tgt := 26) hx hb dX4_text_14 (by decide) ?_
      exact q_a hx hb hr (Or.inl ⟨_, rfl⟩) hlocks dX4_text_26 hS (by omega) (by omega) (Or.inl ⟨(hr_49v.mp rfl), ra, pa, tx, hW⟩)

abbrev rmX4_row : Room := { frames := 8, cells := 64, slots := 7404, locals := 196 }
theorem mX4_row {l : Launch} {G : Cx} {A : Nat → Prop} {am xa : Nat} {X : Nat → List Nat} {P : List (List Nat)} {k : Int32} {th : Int32} : Met l yX4_row (.code yX4_row cX4_row 1 (some (.object "java/lang/String")) :: GW) rmX4_row (PC G A [.ref am] (MW G A am xa X P k th)) (qR A (fun _ H => MW G A am xa X P k 0 H)) 64 7404 (A) := by
  refine mstart "SigntextModel" (by decide +kernel) rfl (Nat.le_of_ble_eq_true rfl) ?_
  intro p e s m below meth c ls hx hb hr hts hown hml hlocks hname hC hA hW hl
  have hl : lv_has ls 1 [(0, .ref am)] := hl
  have hK := hC.1
  have hS : va_S A s.heap s.heap [] := va_S.rf
  obtain ⟨ra, pa, tx, hW⟩ := hW
  have hO := hW.obj
  have hAm := hW.1
  refine lv_aload_n hx hb dX4_row_0 rfl (lv_at hl 0 rfl) ?_
  refine lv_iconst (v := nI 0) hx hb dX4_row_1 (by decide) ?_
  refine h_put (D := G.1) (ci := 8) (C := RX4) (T := TX4) (N := 5) hx hb hts inX4 tyX4 tyX4_ok nmX4 hown hK hO hS hAm rfl 0 (by decide) (hts _ tw_4_172) (fun _ h9 => h9) rfl (tyX4_ok 0 (by decide)) rfl rfl (Nat.le_of_ble_eq_true rfl) dX4_row_2 (fun H55 L55 hO z55 o55 hS => ?_)
  have hO : va_at G.1 vwCl (am, .inr (8, [.int (nI 0), .ref xa, .ref ra, .ref pa, .int k])) H55 := hO
  have hZ55 := hS.1
  have hW := hW.nums hK hO o55
  have hO := hW.obj
  have hAm := hW.1
  refine lv_aload_n hx hb dX4_row_5 rfl (lv_at hl 0 rfl) ?_
  refine va_get (D := G.1) (ci := 8) (C := RX4) (T := TX4) (N := 5) hx hb hts inX4 hown hK (at_P hO) 0 rfl rfl 2 (by decide) (hts _ tw_4_174) (fun _ h9 => h9) rfl dX4_row_6 ?_
  have x11 := hW.2.2.1 11 (Or.inr rfl)
  refine qR_S (A := A) (A1 := nw H55.size)  (As := [.ref ra]) (rest := []) ⟨hx, hb, hml, hown, hts⟩ (mX4_told (A := nw H55.size) (sz := H55.size) x11.1 x11.2) (va_cwS 1 hts (gS tw_5_191 tw_5_192 tw_1_8 tw_5_193) rfl rfl rfl (by decide +kernel) ⟨Nat.le_of_ble_eq_true rfl, Nat.le_of_ble_eq_true rfl⟩) hC hS (nw_in hA hS.1) nw_n  ⟨rfl, hW.row⟩ rfl rfl hl.1 (Nat.le_of_ble_eq_true rfl) ⟨Nat.le_trans (show 0 + 64 ≤ 64 by omega) (Nat.le_of_ble_eq_true rfl), Nat.le_trans (show 0 + 7404 ≤ 7404 by omega) (Nat.le_of_ble_eq_true rfl)⟩ dX4_row_9 (fun rv56 H56 L56 hP56 hk56 hS => ?_)
  have hZ56 := hS.1
  have hW := hW.nw hk56
  exact q_a hx hb hr (Or.inl ⟨_, rfl⟩) hlocks dX4_row_12 hS (by omega) (by omega) ⟨ra, pa, tx, hW⟩

abbrev rmX4_piece : Room := { frames := 8, cells := 64, slots := 7404, locals := 196 }
theorem mX4_piece {l : Launch} {G : Cx} {A : Nat → Prop} {am xa : Nat} {X : Nat → List Nat} {P : List (List Nat)} {k : Int32} {x th : Int32} : Met l yX4_piece (.code yX4_piece cX4_piece 2 (some (.object "java/lang/String")) :: GW) rmX4_piece (PC G A [.ref am, .int x] (MW G A am xa X P k th)) (qR A (fun _ H => ((¬ ∃ j : Nat, j < P.length ∧ x = nI j) ∧ MW G A am xa X P k 1 H) ∨ ((∃ j : Nat, j < P.length ∧ x = nI j) ∧ MW G A am xa X P k 0 H))) 64 7404 (A) := by
  refine mstart "SigntextModel" (by decide +kernel) rfl (Nat.le_of_ble_eq_true rfl) ?_
  intro p e s m below meth c ls hx hb hr hts hown hml hlocks hname hC hA hW hl
  have hl : lv_has ls 2 [(0, .ref am), (1, .int x)] := hl
  have hK := hC.1
  have hS : va_S A s.heap s.heap [] := va_S.rf
  obtain ⟨ra, pa, tx, hW⟩ := hW
  have hO := hW.obj
  have hAm := hW.1
  have hp61 := hW.2.2.2.2.2.2.2.2.2.2.2.1
  refine lv_aload_n hx hb dX4_piece_0 rfl (lv_at hl 0 rfl) ?_
  refine lv_aload_n hx hb dX4_piece_1 rfl (lv_at hl 0 rfl) ?_
  refine lv_iload_n hx hb dX4_piece_2 rfl (lv_at hl 1 rfl) ?_
  refine kV_i (A := A) (b := am) (As := [.int x]) (rest := .ref am :: []) ⟨hx, hb, hml, hown, hts⟩ (mX4_isNoPiece (A := A) (xa := xa) (X := X) (P := P) (k := k)) (cwV 1 hts (gV tw_5_178 tw_5_180 sel_X4_isNoPiece tw_1_8 tw_5_181) rfl rfl rfl (by decide +kernel) ⟨Nat.le_of_ble_eq_true rfl, Nat.le_of_ble_eq_true rfl⟩) hC hS hA (hW.recv hK) ⟨ra, pa, tx, hW⟩ rfl rfl hl.1 (Nat.le_of_ble_eq_true rfl) ⟨Nat.zero_le _, Nat.zero_le _⟩ dX4_piece_3 (fun r_57 hr_57 => ?_)
  obtain ⟨r_57v, hr_57v, rfl⟩ := hr_57
  refine lv_iconst (v := nI 1) hx hb dX4_piece_6 (by decide) ?_
  cases r_57v
  · obtain ⟨j, hj, rfl⟩ : ∃ j : Nat, j < P.length ∧ x = nI j := Classical.byContradiction (fun q => Bool.noConfusion (hr_57v.mpr q))
    refine qI_V (A := A) (A1 := A) (b := am) (As := [.int (bI false), .int (nI 1)]) (rest := []) ⟨hx, hb, hml, hown, hts⟩ (mX4_start (A := A) (X := X) (P := P) (k := k) (xa := xa) (b := false) (w9 := 1) (by decide)) (cwV 2 hts (gV tw_4_206 tw_4_208 sel_X4_start tw_1_8 tw_4_209) rfl rfl rfl (by decide +kernel) ⟨Nat.le_of_ble_eq_true rfl, Nat.le_of_ble_eq_true rfl⟩) hC hS (fun _ h => h) (fun q h => hA q (Nat.le_trans hS.1 h)) (hW.recv hK) ⟨ra, pa, tx, hW⟩ rfl rfl hl.1 (Nat.le_of_ble_eq_true rfl) ⟨Nat.zero_le _, Nat.zero_le _⟩ dX4_piece_7 (fun rv58 H58 L58 hP58 hk58 hS => ?_)
    have hZ58 := hS.1
    obtain ⟨hr58, hM58⟩ := hP58
    subst hr58
    obtain ⟨ra, pa, tx, hW⟩ := hM58
    have hW : MWx G A am xa ra pa tx X P k (nI 0) H58 := hW
    have hO := hW.obj
    have hAm := hW.1
    refine f_eq (tgt := 18) hx hb dX4_piece_10 (by decide) (fun c_59 => ?_) (fun c_59 => ?_)
    · obtain ⟨md, ed, cap9, f9, pq, w1, w2, w3, w4, w5, w6⟩ := MWx_pc hW hj
      have p60 := hW.2.2.2.1 j
      refine lv_aload_n hx hb dX4_piece_18 rfl (lv_at hl 0 rfl) ?_
      refine va_get (D := G.1) (ci := 8) (C := RX4) (T := TX4) (N := 5) hx hb hts inX4 hown hK (at_P hO) 0 rfl rfl 3 (by decide) (hts _ tw_4_175) (fun _ h9 => h9) rfl dX4_piece_19 ?_
      refine lv_iload_n hx hb dX4_piece_22 rfl (lv_at hl 1 rfl) ?_
      refine kV_a (A := A) (b := pa) (As := [.int (nI j)]) (rest := []) ⟨hx, hb, hml, hown, hts⟩ (mJx4a65c_get_915e3 (A := A) (j := j) (n := P.length) (f := f9) (cap := cap9) (md := md) (ed := ed) hj w3 (by omega) w5) (cwV 1 hts (gV tw_5_152 tw_5_153 tw_5_154 tw_1_11 tw_5_155) rfl rfl rfl (by decide +kernel) ⟨Nat.le_of_ble_eq_true rfl, Nat.le_of_ble_eq_true rfl⟩) hC hS hA (at_recv hK w1 (q := (RJx4a65c, TJx4a65c, 3)) rfl) ⟨w1, w2⟩ rfl rfl hl.1 (Nat.le_of_ble_eq_true rfl) ⟨Nat.zero_le _, Nat.zero_le _⟩ dX4_piece_23 (fun a_60 ha_60 => ?_)
      have e7 : a_60 = pq := ha_60
      subst e7
      refine va_castA (D := G.1) hx hb hown (hts _ tw_5_164) (at_P w6.fst) 0 rfl (findIA hK) dX4_piece_26 ?_
      refine qR_S (A := A) (A1 := nw H58.size)  (As := [.ref a_60]) (rest := []) ⟨hx, hb, hml, hown, hts⟩ (mX4_told (A := nw H58.size) (sz := H58.size) p60.1 p60.2) (va_cwS 1 hts (gS tw_5_191 tw_5_192 tw_1_8 tw_5_193) rfl rfl rfl (by decide +kernel) ⟨Nat.le_of_ble_eq_true rfl, Nat.le_of_ble_eq_true rfl⟩) hC hS (nw_in hA hS.1) nw_n  ⟨rfl, w6⟩ rfl rfl hl.1 (Nat.le_of_ble_eq_true rfl) ⟨Nat.le_trans (show 0 + 64 ≤ 64 by omega) (Nat.le_of_ble_eq_true rfl), Nat.le_trans (show 0 + 7404 ≤ 7404 by omega) (Nat.le_of_ble_eq_true rfl)⟩ dX4_piece_29 (fun rv61 H61 L61 hP61 hk61 hS => ?_)
      have hZ61 := hS.1
      have hW := hW.nw hk61
      exact q_a hx hb hr (Or.inl ⟨_, rfl⟩) hlocks dX4_piece_32 hS (by omega) (by omega) (Or.inr ⟨⟨j, hj, rfl⟩, ra, pa, tx, hW⟩)
    · exact absurd c_59 (by decide)
  · refine qI_V (A := A) (A1 := A) (b := am) (As := [.int (bI true), .int (nI 1)]) (rest := []) ⟨hx, hb, hml, hown, hts⟩ (mX4_start (A := A) (X := X) (P := P) (k := k) (xa := xa) (b := true) (w9 := 1) (by decide)) (cwV 2 hts (gV tw_4_206 tw_4_208 sel_X4_start tw_1_8 tw_4_209) rfl rfl rfl (by decide +kernel) ⟨Nat.le_of_ble_eq_true rfl, Nat.le_of_ble_eq_true rfl⟩) hC hS (fun _ h => h) (fun q h => hA q (Nat.le_trans hS.1 h)) (hW.recv hK) ⟨ra, pa, tx, hW⟩ rfl rfl hl.1 (Nat.le_of_ble_eq_true rfl) ⟨Nat.zero_le _, Nat.zero_le _⟩ dX4_piece_7 (fun rv62 H62 L62 hP62 hk62 hS => ?_)
    have hZ62 := hS.1
    obtain ⟨hr62, hM62⟩ := hP62
    subst hr62
    obtain ⟨ra, pa, tx, hW⟩ := hM62
    have hW : MWx G A am xa ra pa tx X P k (nI 1) H62 := hW
    have hO := hW.obj
    have hAm := hW.1
    refine f_eq (tgt := 18) hx hb dX4_piece_10 (by decide) (fun c_63 => ?_) (fun c_63 => ?_)
    · exact absurd c_63 (by decide)
    · refine va_ldcS hx hb hown (hC.2.2.2.2.1 ("SigntextModel", 150, "", 6) (by unfold sRl; simp)) dX4_piece_13 ?_
      refine lv_goto (tgt := 32) hx hb dX4_piece_15 (by decide) ?_
      exact q_a hx hb hr (Or.inl ⟨_, rfl⟩) hlocks dX4_piece_32 hS (by omega) (by omega) (Or.inl ⟨(hr_57v.mp rfl), ra, pa, tx, hW⟩)
