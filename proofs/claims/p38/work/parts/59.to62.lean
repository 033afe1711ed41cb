/-! 59.mod19 -/
section
/-! The model, 19: texts told -/
theorem dX4_text_0 : decode cX4_text 0 = .ok (.aload_n 0, 1) := by decide +kernel
theorem dX4_text_1 : decode cX4_text 1 = .ok (.iload_n 1, 1) := by decide +kernel
theorem dX4_text_2 : decode cX4_text 2 = .ok (.invokestatic 107, 3) := by decide +kernel
theorem dX4_text_5 : decode cX4_text 5 = .ok (.iconst 1, 1) := by decide +kernel
theorem dX4_text_6 : decode cX4_text 6 = .ok (.invokevirtual 110, 3) := by decide +kernel
theorem dX4_text_9 : decode cX4_text 9 = .ok (.ifCond .eq 8, 3) := by decide +kernel
theorem dX4_text_12 : decode cX4_text 12 = .ok (.ldc 150, 2) := by decide +kernel
theorem dX4_text_14 : decode cX4_text 14 = .ok (.goto 12, 3) := by decide +kernel
theorem dX4_text_17 : decode cX4_text 17 = .ok (.aload_n 0, 1) := by decide +kernel
theorem dX4_text_18 : decode cX4_text 18 = .ok (.getfield 72, 3) := by decide +kernel
theorem dX4_text_21 : decode cX4_text 21 = .ok (.iload_n 1, 1) := by decide +kernel
theorem dX4_text_22 : decode cX4_text 22 = .ok (.aaload, 1) := by decide +kernel
theorem dX4_text_23 : decode cX4_text 23 = .ok (.invokestatic 152, 3) := by decide +kernel
theorem dX4_text_26 : decode cX4_text 26 = .ok (.areturn, 1) := by decide +kernel
theorem dX4_row_0 : decode cX4_row 0 = .ok (.aload_n 0, 1) := by decide +kernel
theorem dX4_row_1 : decode cX4_row 1 = .ok (.iconst 0, 1) := by decide +kernel
theorem dX4_row_2 : decode cX4_row 2 = .ok (.putfield 82, 3) := by decide +kernel
theorem dX4_row_5 : decode cX4_row 5 = .ok (.aload_n 0, 1) := by decide +kernel
theorem dX4_row_6 : decode cX4_row 6 = .ok (.getfield 75, 3) := by decide +kernel
theorem dX4_row_9 : decode cX4_row 9 = .ok (.invokestatic 152, 3) := by decide +kernel
theorem dX4_row_12 : decode cX4_row 12 = .ok (.areturn, 1) := by decide +kernel
theorem dX4_piece_0 : decode cX4_piece 0 = .ok (.aload_n 0, 1) := by decide +kernel
theorem dX4_piece_1 : decode cX4_piece 1 = .ok (.aload_n 0, 1) := by decide +kernel
theorem dX4_piece_2 : decode cX4_piece 2 = .ok (.iload_n 1, 1) := by decide +kernel
theorem dX4_piece_3 : decode cX4_piece 3 = .ok (.invokevirtual 144, 3) := by decide +kernel
theorem dX4_piece_6 : decode cX4_piece 6 = .ok (.iconst 1, 1) := by decide +kernel
theorem dX4_piece_7 : decode cX4_piece 7 = .ok (.invokevirtual 110, 3) := by decide +kernel
theorem dX4_piece_10 : decode cX4_piece 10 = .ok (.ifCond .eq 8, 3) := by decide +kernel
theorem dX4_piece_13 : decode cX4_piece 13 = .ok (.ldc 150, 2) := by decide +kernel
theorem dX4_piece_15 : decode cX4_piece 15 = .ok (.goto 17, 3) := by decide +kernel
theorem dX4_piece_18 : decode cX4_piece 18 = .ok (.aload_n 0, 1) := by decide +kernel
theorem dX4_piece_19 : decode cX4_piece 19 = .ok (.getfield 78, 3) := by decide +kernel
theorem dX4_piece_22 : decode cX4_piece 22 = .ok (.iload_n 1, 1) := by decide +kernel
theorem dX4_piece_23 : decode cX4_piece 23 = .ok (.invokevirtual 58, 3) := by decide +kernel
theorem dX4_piece_26 : decode cX4_piece 26 = .ok (.checkcast 62, 3) := by decide +kernel
theorem dX4_piece_29 : decode cX4_piece 29 = .ok (.invokestatic 152, 3) := by decide +kernel
theorem dX4_piece_32 : decode cX4_piece 32 = .ok (.areturn, 1) := by decide +kernel
abbrev rmX4_text : Room := { frames := 8, cells := 64, slots := 7404, locals := 196 }
theorem mX4_text {l : Launch} {G : Cx} {A : Nat → Prop} {am xa : Nat} {X : Nat → List Nat} {P : List (List Nat)} {k : Int32} {x th : Int32} : Met l yX4_text (.code yX4_text cX4_text 2 (some (.object "java/lang/String")) :: GW) rmX4_text (PC G A [.ref am, .int x] (MW G A am xa X P k th)) (qR A (fun _ H => ((NT x) ∧ MW G A am xa X P k 1 H) ∨ ((∃ i : Nat, i < 4 ∧ x = nI i) ∧ MW G A am xa X P k 0 H))) 64 7404 (A) := by
  refine mstart "SigntextModel" (by decide +kernel) rfl (Nat.le_of_ble_eq_true rfl) ?_
  intro p e s m below meth c ls hx hb hr hts hown hml hlocks hname hC hA hW hl
  have hl : lv_has ls 2 [(0, .ref am), (1, .int x)] := hl
  have hK := hC.1
  have hS : va_S A s.heap s.heap [] := va_S.rf
  obtain ⟨ra, pa, tx, hW⟩ := hW
  have hO := hW.obj
  have hAm := hW.1
  refine lv_aload_n hx hb dX4_text_0 rfl (lv_at hl 0 rfl) ?_
  refine lv_iload_n hx hb dX4_text_1 rfl (lv_at hl 1 rfl) ?_
  refine kS_i (A := A) (As := [.int x]) (rest := .ref am :: []) ⟨hx, hb, hml, hown, hts⟩ (mX4_isNone (A := A) ) (va_cwS 1 hts (gS tw_4_203 tw_4_204 tw_1_8 tw_4_205) rfl rfl rfl (by decide +kernel) ⟨Nat.le_of_ble_eq_true rfl, Nat.le_of_ble_eq_true rfl⟩) hC hS hA  trivial rfl rfl hl.1 (Nat.le_of_ble_eq_true rfl) ⟨Nat.zero_le _, Nat.zero_le _⟩ dX4_text_2 (fun r_49 hr_49 => ?_)
  obtain ⟨r_49v, hr_49v, rfl⟩ := hr_49
  refine lv_iconst (v := nI 1) hx hb dX4_text_5 (by decide) ?_
  cases r_49v
  · obtain ⟨i, hi, rfl⟩ : ∃ i : Nat, i < 4 ∧ x = nI i := Classical.byContradiction (fun q => Bool.noConfusion (hr_49v.mpr q))
    refine qI_V (A := A) (A1 := A) (b := am) (As := [.int (bI false), .int (nI 1)]) (rest := []) ⟨hx, hb, hml, hown, hts⟩ (mX4_start (A := A) (X := X) (P := P) (k := k) (xa := xa) (b := false) (w9 := 1) (by decide)) (cwV 2 hts (gV tw_4_206 tw_4_208 sel_X4_start tw_1_8 tw_4_209) rfl rfl rfl (by decide +kernel) ⟨Nat.le_of_ble_eq_true rfl, Nat.le_of_ble_eq_true rfl⟩) hC hS (fun _ h => h) (fun q h => hA q (Nat.le_trans hS.1 h)) (hW.recv hK) ⟨ra, pa, tx, hW⟩ rfl rfl hl.1 (Nat.le_of_ble_eq_true rfl) ⟨Nat.zero_le _, Nat.zero_le _⟩ dX4_text_6 (fun rv50 H50 L50 hP50 hk50 hS => ?_)
    have hZ50 := hS.1
    obtain ⟨hr50, hM50⟩ := hP50
    subst hr50
    obtain ⟨ra, pa, tx, hW⟩ := hM50
    have hW : MWx G A am xa ra pa tx X P k (nI 0) H50 := hW
    have hO := hW.obj
    have hAm := hW.1
    refine f_eq (tgt := 17) hx hb dX4_text_9 (by decide) (fun c_51 => ?_) (fun c_51 => ?_)
    · refine lv_aload_n hx hb dX4_text_17 rfl (lv_at hl 0 rfl) ?_
      refine va_get (D := G.1) (ci := 8) (C := RX4) (T := TX4) (N := 5) hx hb hts inX4 hown hK (at_P hO) 0 rfl rfl 1 (by decide) (hts _ tw_4_173) (fun _ h9 => h9) rfl dX4_text_18 ?_
      refine lv_iload_n hx hb dX4_text_21 rfl (lv_at hl 1 rfl) ?_
      refine h_aaldI (D := G.1) hx hb hK 4 hW.txs rfl (vp_in_nI (n := i) (N := 4) (by omega) (by omega)) dX4_text_22 ?_
      refine v_cv (show va_rf _ = .ref (tx i) from by rw [nI_clamp (n := i) (by omega)]; rfl) ?_
      have x60i := hW.2.2.1 i (Or.inl (by omega))
      have hTi := hW.tx (j := i) (by omega)
      refine qR_S (A := A) (A1 := nw H50.size)  (As := [.ref (tx i)]) (rest := []) ⟨hx, hb, hml, hown, hts⟩ (mX4_told (A := nw H50.size) (sz := H50.size) x60i.1 x60i.2) (va_cwS 1 hts (gS tw_5_191 tw_5_192 tw_1_8 tw_5_193) rfl rfl rfl (by decide +kernel) ⟨Nat.le_of_ble_eq_true rfl, Nat.le_of_ble_eq_true rfl⟩) hC hS (nw_in hA hS.1) nw_n  ⟨rfl, hTi⟩ rfl rfl hl.1 (Nat.le_of_ble_eq_true rfl) ⟨Nat.le_trans (show 0 + 64 ≤ 64 by omega) (Nat.le_of_ble_eq_true rfl), Nat.le_trans (show 0 + 7404 ≤ 7404 by omega) (Nat.le_of_ble_eq_true rfl)⟩ dX4_text_23 (fun rv52 H52 L52 hP52 hk52 hS => ?_)
      have hZ52 := hS.1
      have hW := hW.nw hk52
      exact q_a hx hb hr (Or.inl ⟨_, rfl⟩) hlocks dX4_text_26 hS (by omega) (by omega) (Or.inr ⟨⟨i, hi, rfl⟩, ra, pa, tx, hW⟩)
    · exact absurd c_51 (by decide)
  · refine qI_V (A := A) (A1 := A) (b := am) (As := [.int (bI true), .int (nI 1)]) (rest := []) ⟨hx, hb, hml, hown, hts⟩ (mX4_start (A := A) (X := X) (P := P) (k := k) (xa := xa) (b := true) (w9 := 1) (by decide)) (cwV 2 hts (gV tw_4_206 tw_4_208 sel_X4_start tw_1_8 tw_4_209) rfl rfl rfl (by decide +kernel) ⟨Nat.le_of_ble_eq_true rfl, Nat.le_of_ble_eq_true rfl⟩) hC hS (fun _ h => h) (fun q h => hA q (Nat.le_trans hS.1 h)) (hW.recv hK) ⟨ra, pa, tx, hW⟩ rfl rfl hl.1 (Nat.le_of_ble_eq_true rfl) ⟨Nat.zero_le _, Nat.zero_le _⟩ dX4_text_6 (fun rv53 H53 L53 hP53 hk53 hS => ?_)
    have hZ53 := hS.1
    obtain ⟨hr53, hM53⟩ := hP53
    subst hr53
    obtain ⟨ra, pa, tx, hW⟩ := hM53
    have hW : MWx G A am xa ra pa tx X P k (nI 1) H53 := hW
    have hO := hW.obj
    have hAm := hW.1
    refine f_eq (tgt := 17) hx hb dX4_text_9 (by decide) (fun c_54 => ?_) (fun c_54 => ?_)
    · exact absurd c_54 (by decide)
    · refine va_ldcS hx hb hown (hC.2.2.2.2.1 ("SigntextModel", 150, "", 6) (by unfold sRl; simp)) dX4_text_12 ?_
      refine lv_goto (tgt := 26) hx hb dX4_text_14 (by decide) ?_
      exact q_a hx hb hr (Or.inl ⟨_, rfl⟩) hlocks dX4_text_26 hS (by omega) (by omega) (Or.inl ⟨(hr_49v.mp rfl), ra, pa, tx, hW⟩)

abbrev rmX4_row : Room := { frames := 8, cells := 64, slots := 7404, locals := 196 }
theorem mX4_row {l : Launch} {G : Cx} {A : Nat → Prop} {am xa : Nat} {X : Nat → List Nat} {P : List (List Nat)} {k : Int32} {th : Int32} : Met l yX4_row (.code yX4_row cX4_row 1 (some (.object "java/lang/String")) :: GW) rmX4_row (PC G A [.ref am] (MW G A am xa X P k th)) (qR A (fun _ H => MW G A am xa X P k 0 H)) 64 7404 (A) := by
  refine mstart "SigntextModel" (by decide +kernel) rfl (Nat.le_of_ble_eq_true rfl) ?_
  intro p e s m below meth c ls hx hb hr hts hown hml hlocks hname hC hA hW hl
  have hl : lv_has ls 1 [(0, .ref am)] := hl
  have hK := hC.1
  have hS : va_S A s.heap s.heap [] := va_S.rf
  obtain ⟨ra, pa, tx, hW⟩ := hW
  have hO := hW.obj
  have hAm := hW.1
  refine lv_aload_n hx hb dX4_row_0 rfl (lv_at hl 0 rfl) ?_
  refine lv_iconst (v := nI 0) hx hb dX4_row_1 (by decide) ?_
  refine h_put (D := G.1) (ci := 8) (C := RX4) (T := TX4) (N := 5) hx hb hts inX4 tyX4 tyX4_ok nmX4 hown hK hO hS hAm rfl 0 (by decide) (hts _ tw_4_172) (fun _ h9 => h9) rfl (tyX4_ok 0 (by decide)) rfl rfl (Nat.le_of_ble_eq_true rfl) dX4_row_2 (fun H55 L55 hO z55 o55 hS => ?_)
  have hO : va_at G.1 vwCl (am, .inr (8, [.int (nI 0), .ref xa, .ref ra, .ref pa, .int k])) H55 := hO
  have hZ55 := hS.1
  have hW := hW.nums hK hO o55
  have hO := hW.obj
  have hAm := hW.1
  refine lv_aload_n hx hb dX4_row_5 rfl (lv_at hl 0 rfl) ?_
  refine va_get (D := G.1) (ci := 8) (C := RX4) (T := TX4) (N := 5) hx hb hts inX4 hown hK (at_P hO) 0 rfl rfl 2 (by decide) (hts _ tw_4_174) (fun _ h9 => h9) rfl dX4_row_6 ?_
  have x11 := hW.2.2.1 11 (Or.inr rfl)
  refine qR_S (A := A) (A1 := nw H55.size)  (As := [.ref ra]) (rest := []) ⟨hx, hb, hml, hown, hts⟩ (mX4_told (A := nw H55.size) (sz := H55.size) x11.1 x11.2) (va_cwS 1 hts (gS tw_5_191 tw_5_192 tw_1_8 tw_5_193) rfl rfl rfl (by decide +kernel) ⟨Nat.le_of_ble_eq_true rfl, Nat.le_of_ble_eq_true rfl⟩) hC hS (nw_in hA hS.1) nw_n  ⟨rfl, hW.row⟩ rfl rfl hl.1 (Nat.le_of_ble_eq_true rfl) ⟨Nat.le_trans (show 0 + 64 ≤ 64 by omega) (Nat.le_of_ble_eq_true rfl), Nat.le_trans (show 0 + 7404 ≤ 7404 by omega) (Nat.le_of_ble_eq_true rfl)⟩ dX4_row_9 (fun rv56 H56 L56 hP56 hk56 hS => ?_)
  have hZ56 := hS.1
  have hW := hW.nw hk56
  exact q_a hx hb hr (Or.inl ⟨_, rfl⟩) hlocks dX4_row_12 hS (by omega) (by omega) ⟨ra, pa, tx, hW⟩

abbrev rmX4_piece : Room := { frames := 8, cells := 64, slots := 7404, locals := 196 }
theorem mX4_piece {l : Launch} {G : Cx} {A : Nat → Prop} {am xa : Nat} {X : Nat → List Nat} {P : List (List Nat)} {k : Int32} {x th : Int32} : Met l yX4_piece (.code yX4_piece cX4_piece 2 (some (.object "java/lang/String")) :: GW) rmX4_piece (PC G A [.ref am, .int x] (MW G A am xa X P k th)) (qR A (fun _ H => ((¬ ∃ j : Nat, j < P.length ∧ x = nI j) ∧ MW G A am xa X P k 1 H) ∨ ((∃ j : Nat, j < P.length ∧ x = nI j) ∧ MW G A am xa X P k 0 H))) 64 7404 (A) := by
  refine mstart "SigntextModel" (by decide +kernel) rfl (Nat.le_of_ble_eq_true rfl) ?_
  intro p e s m below meth c ls hx hb hr hts hown hml hlocks hname hC hA hW hl
  have hl : lv_has ls 2 [(0, .ref am), (1, .int x)] := hl
  have hK := hC.1
  have hS : va_S A s.heap s.heap [] := va_S.rf
  obtain ⟨ra, pa, tx, hW⟩ := hW
  have hO := hW.obj
  have hAm := hW.1
  have hp61 := hW.2.2.2.2.2.2.2.2.2.2.2.1
  refine lv_aload_n hx hb dX4_piece_0 rfl (lv_at hl 0 rfl) ?_
  refine lv_aload_n hx hb dX4_piece_1 rfl (lv_at hl 0 rfl) ?_
  refine lv_iload_n hx hb dX4_piece_2 rfl (lv_at hl 1 rfl) ?_
  refine kV_i (A := A) (b := am) (As := [.int x]) (rest := .ref am :: []) ⟨hx, hb, hml, hown, hts⟩ (mX4_isNoPiece (A := A) (xa := xa) (X := X) (P := P) (k := k)) (cwV 1 hts (gV tw_5_178 tw_5_180 sel_X4_isNoPiece tw_1_8 tw_5_181) rfl rfl rfl (by decide +kernel) ⟨Nat.le_of_ble_eq_true rfl, Nat.le_of_ble_eq_true rfl⟩) hC hS hA (hW.recv hK) ⟨ra, pa, tx, hW⟩ rfl rfl hl.1 (Nat.le_of_ble_eq_true rfl) ⟨Nat.zero_le _, Nat.zero_le _⟩ dX4_piece_3 (fun r_57 hr_57 => ?_)
  obtain ⟨r_57v, hr_57v, rfl⟩ := hr_57
  refine lv_iconst (v := nI 1) hx hb dX4_piece_6 (by decide) ?_
  cases r_57v
  · obtain ⟨j, hj, rfl⟩ : ∃ j : Nat, j < P.length ∧ x = nI j := Classical.byContradiction (fun q => Bool.noConfusion (hr_57v.mpr q))
    refine qI_V (A := A) (A1 := A) (b := am) (As := [.int (bI false), .int (nI 1)]) (rest := []) ⟨hx, hb, hml, hown, hts⟩ (mX4_start (A := A) (X := X) (P := P) (k := k) (xa := xa) (b := false) (w9 := 1) (by decide)) (cwV 2 hts (gV tw_4_206 tw_4_208 sel_X4_start tw_1_8 tw_4_209) rfl rfl rfl (by decide +kernel) ⟨Nat.le_of_ble_eq_true rfl, Nat.le_of_ble_eq_true rfl⟩) hC hS (fun _ h => h) (fun q h => hA q (Nat.le_trans hS.1 h)) (hW.recv hK) ⟨ra, pa, tx, hW⟩ rfl rfl hl.1 (Nat.le_of_ble_eq_true rfl) ⟨Nat.zero_le _, Nat.zero_le _⟩ dX4_piece_7 (fun rv58 H58 L58 hP58 hk58 hS => ?_)
    have hZ58 := hS.1
    obtain ⟨hr58, hM58⟩ := hP58
    subst hr58
    obtain ⟨ra, pa, tx, hW⟩ := hM58
    have hW : MWx G A am xa ra pa tx X P k (nI 0) H58 := hW
    have hO := hW.obj
    have hAm := hW.1
    refine f_eq (tgt := 18) hx hb dX4_piece_10 (by decide) (fun c_59 => ?_) (fun c_59 => ?_)
    · obtain ⟨md, ed, cap9, f9, pq, w1, w2, w3, w4, w5, w6⟩ := MWx_pc hW hj
      have p60 := hW.2.2.2.1 j
      refine lv_aload_n hx hb dX4_piece_18 rfl (lv_at hl 0 rfl) ?_
      refine va_get (D := G.1) (ci := 8) (C := RX4) (T := TX4) (N := 5) hx hb hts inX4 hown hK (at_P hO) 0 rfl rfl 3 (by decide) (hts _ tw_4_175) (fun _ h9 => h9) rfl dX4_piece_19 ?_
      refine lv_iload_n hx hb dX4_piece_22 rfl (lv_at hl 1 rfl) ?_
      refine kV_a (A := A) (b := pa) (As := [.int (nI j)]) (rest := []) ⟨hx, hb, hml, hown, hts⟩ (mJx4a65c_get_915e3 (A := A) (j := j) (n := P.length) (f := f9) (cap := cap9) (md := md) (ed := ed) hj w3 (by omega) w5) (cwV 1 hts (gV tw_5_152 tw_5_153 tw_5_154 tw_1_11 tw_5_155) rfl rfl rfl (by decide +kernel) ⟨Nat.le_of_ble_eq_true rfl, Nat.le_of_ble_eq_true rfl⟩) hC hS hA (at_recv hK w1 (q := (RJx4a65c, TJx4a65c, 3)) rfl) ⟨w1, w2⟩ rfl rfl hl.1 (Nat.le_of_ble_eq_true rfl) ⟨Nat.zero_le _, Nat.zero_le _⟩ dX4_piece_23 (fun a_60 ha_60 => ?_)
      have e7 : a_60 = pq := ha_60
      subst e7
      refine va_castA (D := G.1) hx hb hown (hts _ tw_5_164) (at_P w6.fst) 0 rfl (findIA hK) dX4_piece_26 ?_
      refine qR_S (A := A) (A1 := nw H58.size)  (As := [.ref a_60]) (rest := []) ⟨hx, hb, hml, hown, hts⟩ (mX4_told (A := nw H58.size) (sz := H58.size) p60.1 p60.2) (va_cwS 1 hts (gS tw_5_191 tw_5_192 tw_1_8 tw_5_193) rfl rfl rfl (by decide +kernel) ⟨Nat.le_of_ble_eq_true rfl, Nat.le_of_ble_eq_true rfl⟩) hC hS (nw_in hA hS.1) nw_n  ⟨rfl, w6⟩ rfl rfl hl.1 (Nat.le_of_ble_eq_true rfl) ⟨Nat.le_trans (show 0 + 64 ≤ 64 by omega) (Nat.le_of_ble_eq_true rfl), Nat.le_trans (show 0 + 7404 ≤ 7404 by omega) (Nat.le_of_ble_eq_true rfl)⟩ dX4_piece_29 (fun rv61 H61 L61 hP61 hk61 hS => ?_)
      have hZ61 := hS.1
      have hW := hW.nw hk61
      exact q_a hx hb hr (Or.inl ⟨_, rfl⟩) hlocks dX4_piece_32 hS (by omega) (by omega) (Or.inr ⟨⟨j, hj, rfl⟩, ra, pa, tx, hW⟩)
    · exact absurd c_59 (by decide)
  · refine qI_V (A := A) (A1 := A) (b := am) (As := [.int (bI true), .int (nI 1)]) (rest := []) ⟨hx, hb, hml, hown, hts⟩ (mX4_start (A := A) (X := X) (P := P) (k := k) (xa := xa) (b := true) (w9 := 1) (by decide)) (cwV 2 hts (gV tw_4_206 tw_4_208 sel_X4_start tw_1_8 tw_4_209) rfl rfl rfl (by decide +kernel) ⟨Nat.le_of_ble_eq_true rfl, Nat.le_of_ble_eq_true rfl⟩) hC hS (fun _ h => h) (fun q h => hA q (Nat.le_trans hS.1 h)) (hW.recv hK) ⟨ra, pa, tx, hW⟩ rfl rfl hl.1 (Nat.le_of_ble_eq_true rfl) ⟨Nat.zero_le _, Nat.zero_le _⟩ dX4_piece_7 (fun rv62 H62 L62 hP62 hk62 hS => ?_)
    have hZ62 := hS.1
    obtain ⟨hr62, hM62⟩ := hP62
    subst hr62
    obtain ⟨ra, pa, tx, hW⟩ := hM62
    have hW : MWx G A am xa ra pa tx X P k (nI 1) H62 := hW
    have hO := hW.obj
    have hAm := hW.1
    refine f_eq (tgt := 18) hx hb dX4_piece_10 (by decide) (fun c_63 => ?_) (fun c_63 => ?_)
    · exact absurd c_63 (by decide)
    · refine va_ldcS hx hb hown (hC.2.2.2.2.1 ("SigntextModel", 150, "", 6) (by unfold sRl; simp)) dX4_piece_13 ?_
      refine lv_goto (tgt := 32) hx hb dX4_piece_15 (by decide) ?_
      exact q_a hx hb hr (Or.inl ⟨_, rfl⟩) hlocks dX4_piece_32 hS (by omega) (by omega) (Or.inl ⟨(hr_57v.mp rfl), ra, pa, tx, hW⟩)
end
/-! 60.mod20 -/
section
/-! The model, 20: made -/
section NAA
variable {p : Program} {l : Launch} {e : Env} {R : Room} {s : State} {m : MethodId} {args : Array Value} {below : List Frame} {meth : Method} {c : Code} {H : Heap} {locs : List Loc} {cells slots : Nat} {Q : State → Prop}
variable {cc : ByteArray} {pc : Nat} {ls : Array Slot} {rest : List Value} {A : Nat → Prop} {H0 : Heap} {G : Cx}
theorem outer4 (cA : ClassId) (h : Nat) : Jvm.Free.Multi.outerC cA 4 h 4 = vp_cell cA (4, .inr (.inr (.inr (.inr (fun j => some (h + 1 + j)))))) := rfl
theorem inner0 (cI : ClassId) : Jvm.Free.Multi.innerC cI 0 (defaultValue .int) = vp_cell cI (0, .inl (fun _ => 0)) := rfl
theorem h_newaa {own : String} {index : Nat} (hexec : p.tables.exec = Jvm.exec) (hb : c.code = cc) (hown : s.vm.findClass own = some m.cls) (hclink : (Cond.classLink own index "[[I").before args s = true) (harr : (Cond.arrayClass .int).before args s = true) (hC : cx G A s) (hS : va_S A H0 H locs) (hA : ∀ q : Nat, H0.size ≤ q → A q) (hcells : cells + 5 ≤ R.cells) (hslots : slots + 4 ≤ R.slots) (hdg : decode cc pc = .ok (.multianewarray index 2, 4))
    (kk : ∀ (H1 : Heap) (L1 : List Loc), va_at G.1 vwCl (H.size, .inl (G.2.1 4, 4, .inr (.inr (.inr (.inr (fun j => some (H.size + 1 + j))))))) H1 → (∀ j : Nat, j < 4 → va_at G.1 vwCl (H.size + 1 + j, .inl (G.2.1 0, 0, .inl (fun _ => 0))) H1) → H1.size = H.size + 5 → (∀ q : Nat, q < H.size → H1[q]? = H[q]?) → va_S A H0 H1 L1 → W p l e R s m args below meth c H1 L1 (cells + 1 + 4) (slots + 4 + 4 * 0) Q (F0 m (pc + 4) ls (.ref H.size :: rest))) : W p l e R s m args below meth c H locs cells slots Q (F0 m pc ls (.int (nI 0) :: .int (nI 4) :: rest)) := by
  have hover : (Cond.arrayOver (.array .int)).before args s = true := by
    have h := hC.2.2.2.2.2.2.2.2.2.2.1
    simp only [Cond.before, Cond.holds, Cond.value] at h ⊢
    exact h
  have e4 : (nI 4).toNatClampNeg = 4 := nI_clamp (by decide)
  have e0 : (nI 0).toNatClampNeg = 0 := nI_clamp (by decide)
  intro T hT X
  obtain ⟨vm₁, cA, comp, hW, hfA, hfC, -, -, X1, step⟩ := X.multianewarray2K hexec (ty := .int) hown hclink hover harr (g := F0 m pc ls (.int (nI 0) :: .int (nI 4) :: rest)) rfl (by rw [hb]; exact hdg) (n := nI 4) (k := nI 0) rfl (nI_pos (by decide)) (nI_pos (by decide)) (by rw [e4]; decide) (by rw [e0]; decide) (by rw [e0]; decide) rfl rfl (by rw [e4]; omega) (by rw [e4, e0]; omega)
  rw [e4, e0] at X1 step
  have g4 : s.vm.findClass ("[" ++ (FieldType.array .int).toString) = some (G.2.1 4) := (hC.1.2 4 _ rfl).2
  have g0 : s.vm.findClass ("[" ++ (FieldType.int).toString) = some (G.2.1 0) := (hC.1.2 0 _ rfl).2
  have k4 : cA = G.2.1 4 := Option.some.inj (hfA.symm.trans g4)
  have k0 : comp = G.2.1 0 := Option.some.inj (hfC.symm.trans g0)
  subst k4 k0
  have hTs : (T.setVm vm₁).heap = H := hT
  obtain ⟨f1, f2, -, -⟩ := Jvm.Free.Multi.fill_facts (T.setVm vm₁) (G.2.1 4) (G.2.1 0) 4 0 (defaultValue .int) 4
  have f3 := Jvm.Free.Multi.fill_inner (T.setVm vm₁) (G.2.1 4) (G.2.1 0) 4 0 (defaultValue .int) 4
  have f4 : ∀ q : Nat, q < H.size → (Jvm.Free.Multi.fill (T.setVm vm₁) (G.2.1 4) (G.2.1 0) 4 0 (defaultValue .int) 4).heap[q]? = H[q]? := fun q hq => by
    have := Jvm.Free.Multi.fill_old (T.setVm vm₁) (G.2.1 4) (G.2.1 0) 4 0 (defaultValue .int) (a := q) (by rw [hTs]; exact hq) 4
    rw [this, hTs]
  rw [hTs] at f1 f2 f3
  rw [hT] at X1 step
  obtain ⟨t, a1, b1⟩ := kk _ _ (show _ = some (vp_cell _ _) from by rw [f2, outer4]) (fun j hj => show _ = some (vp_cell _ _) from by rw [f3 j hj, inner0]) (by rw [f1]) f4 ⟨by rw [f1]; have := hS.1; omega, fun q h1 h2 => (f4 q (Nat.lt_of_lt_of_le h1 hS.1)).trans (hS.2.1 q h1 h2), fun q hq => by
    rcases List.mem_append.mp hq with h | h
    · exact hS.2.2 q h
    · obtain ⟨z, -, hz⟩ := List.mem_map.mp h
      rw [← hz]; exact hA _ hS.1⟩ _ rfl X1
  exact ⟨t, step t a1, b1⟩
end NAA
theorem ML_of {G : Cx} {A : Nat → Prop} {am pa ra : Nat} {H H1 : Heap} {s : State} {vs : List Value} (hK : va_K G.1 vwCl (tyL G.2.1) s) (hO : va_at G.1 vwCl (am, .inr (8, vs)) H) (h : LQ G A pa [] H) (oq : ∀ q : Nat, q ≠ am → H1[q]? = H[q]?) (hn : pa ≠ am) : (([] : List (List Nat)) = [] ∧ ∃ md : Int32, va_at G.1 vwCl (pa, .inr (3, [.int md, .ref (G.2.2 10), .int 0])) H1) ∨
  ∃ (md : Int32) (ed cap : Nat) (f : Nat → Option Nat) (pe : Nat → Nat), va_at G.1 vwCl (pa, .inr (3, [.int md, .ref ed, .int (nI ([] : List (List Nat)).length)])) H1 ∧ va_at G.1 vwCl (ed, .inl (G.2.1 5, cap, .inr (.inr (.inr (.inr f))))) H1 ∧ A ed ∧ ([] : List (List Nat)).length ≤ cap ∧ cap < 2 ^ 20 ∧ ∀ i : Nat, i < ([] : List (List Nat)).length → f i = some (pe i) ∧ IA0 G (pe i) (([] : List (List Nat)).getD i []) H1 ∧ pe i ≠ ra := by
  rcases h with ⟨-, md, h⟩ | ⟨md, ed, cap, f, q1, q2, q3, q4, q5, q6, q7⟩
  · exact Or.inl ⟨rfl, md, at_o h oq hn⟩
  · exact Or.inr ⟨md, ed, cap, f, fun _ => 0, at_o q1 oq hn, at_o q2 oq (Ne.symm (at_ne_oa hK hO (r := (RX4, TX4, 5)) rfl q2 5 rfl)), q3, q4, q6, fun i hi => absurd hi (Nat.not_lt_zero i)⟩
theorem dX4_init_0 : decode cX4_init 0 = .ok (.aload_n 0, 1) := by decide +kernel
theorem dX4_init_1 : decode cX4_init 1 = .ok (.invokespecial 67, 3) := by decide +kernel
theorem dX4_init_4 : decode cX4_init 4 = .ok (.aload_n 0, 1) := by decide +kernel
theorem dX4_init_5 : decode cX4_init 5 = .ok (.iconst 4, 1) := by decide +kernel
theorem dX4_init_6 : decode cX4_init 6 = .ok (.iconst 0, 1) := by decide +kernel
theorem dX4_init_7 : decode cX4_init 7 = .ok (.multianewarray 70 2, 4) := by decide +kernel
theorem dX4_init_11 : decode cX4_init 11 = .ok (.putfield 72, 3) := by decide +kernel
theorem dX4_init_14 : decode cX4_init 14 = .ok (.aload_n 0, 1) := by decide +kernel
theorem dX4_init_15 : decode cX4_init 15 = .ok (.iconst 0, 1) := by decide +kernel
theorem dX4_init_16 : decode cX4_init 16 = .ok (.newarray .int, 2) := by decide +kernel
theorem dX4_init_18 : decode cX4_init 18 = .ok (.putfield 75, 3) := by decide +kernel
theorem dX4_init_21 : decode cX4_init 21 = .ok (.aload_n 0, 1) := by decide +kernel
theorem dX4_init_22 : decode cX4_init 22 = .ok (.new 43, 3) := by decide +kernel
theorem dX4_init_25 : decode cX4_init 25 = .ok (.dup, 1) := by decide +kernel
theorem dX4_init_26 : decode cX4_init 26 = .ok (.invokespecial 45, 3) := by decide +kernel
theorem dX4_init_29 : decode cX4_init 29 = .ok (.putfield 78, 3) := by decide +kernel
theorem dX4_init_32 : decode cX4_init 32 = .ok (.return_, 1) := by decide +kernel
abbrev rmX4_init : Room := { frames := 4, cells := 7, slots := 7, locals := 80 }
theorem mX4_init {l : Launch} {G : Cx} {A : Nat → Prop} {a n : Nat} (hAa : A a) : Met l yX4_init (.code yX4_init cX4_init 1 (none : Option Jvm.ClassFile.FieldType) :: GW) rmX4_init (PC G A [.ref a] (fun H => H.size = n ∧ va_at G.1 vwCl (a, .inr (8, [.int 0, .null, .null, .null, .int 0])) H)) (qV A (fun H => ∃ xa, MW G A a xa (fun _ => []) [] 0 0 H)) 7 7 (A) := by
  refine mstart "SigntextModel" (by decide +kernel) rfl (Nat.le_of_ble_eq_true rfl) ?_
  intro p e s m below meth c ls hx hb hr hts hown hml hlocks hname hC hA hW hl
  have hl : lv_has ls 1 [(0, .ref a)] := hl
  have hK := hC.1
  have hS : va_S A s.heap s.heap [] := va_S.rf
  obtain ⟨hsz, hO⟩ := hW
  refine lv_aload_n hx hb dX4_init_0 rfl (lv_at hl 0 rfl) ?_
  refine W.objInit hx hb hown (hts _ tw_4_140) (hts _ tw_1_35) (hts _ tw_1_36) rfl (by rw [hml]; exact hl.1) rfl dX4_init_1 (Nat.le_of_ble_eq_true rfl) (Nat.le_of_ble_eq_true rfl) ?_
  refine W.eq (g2 := F0 m 4 ls []) rfl ?_
  refine lv_aload_n hx hb dX4_init_4 rfl (lv_at hl 0 rfl) ?_
  refine lv_iconst (v := nI 4) hx hb dX4_init_5 (by decide) ?_
  refine lv_iconst (v := nI 0) hx hb dX4_init_6 (by decide) ?_
  refine h_newaa hx hb hown (hts _ tw_4_141) (hts _ tw_1_70) hC hS hA (Nat.le_trans (show 0 + 5 ≤ 7 by omega) (Nat.le_of_ble_eq_true rfl)) (Nat.le_trans (show 0 + 4 ≤ 7 by omega) (Nat.le_of_ble_eq_true rfl)) dX4_init_7 (fun H8 L8 hXa hTx hz8 ho8 hS => ?_)
  have halt := hO.lt
  have hO := at_n hO ho8
  have hZ8 := hS.1
  have hH8 : H8.size = n + 5 := by omega
  refine h_putF (D := G.1) (ci := 8) (C := RX4) (T := TX4) (N := 5) hx hb hts inX4 tyX4 tyX4_ok nmX4 hown hK hO hS hAa rfl 1 (by decide) (hts _ tw_4_173) (fun _ h9 => h9) rfl hname rfl (tyX4_ok 1 (by decide)) rfl rfl (Nat.le_of_ble_eq_true rfl) dX4_init_11 (fun H1 L1 hO z1 o1 hS => ?_)
  have hO : va_at G.1 vwCl (a, .inr (8, [.int 0, .ref s.heap.size, .null, .null, .int 0])) H1 := hO
  have hZ1 := hS.1
  rw [hsz] at hXa hTx hO
  have hXa := at_o hXa o1 (by omega)
  have hTx : ∀ j : Nat, j < 4 → IA0 G (n + 1 + j) [] H1 := fun j hj => IA0.o (IA0.mk (hTx j hj) rfl (fun q hq => absurd hq (Nat.not_lt_zero q))) o1 (by omega)
  refine lv_aload_n hx hb dX4_init_14 rfl (lv_at hl 0 rfl) ?_
  refine lv_iconst (v := nI 0) hx hb dX4_init_15 (by decide) ?_
  refine h_newa (D := G.1) (atype := .int) (N := 0) (z := (0, .inl (fun _ => 0))) hx hb (hts _ tw_1_70) rfl (fun h => h) hK 0 rfl hS rfl (nI_pos (by omega)) (nI_clamp (by omega)) (show 0 * _ ≤ _ from by show 0 * 4 ≤ 536870912; omega) (Nat.le_trans (show (0 + 1 + 4) + 1 ≤ 7 by omega) (Nat.le_of_ble_eq_true rfl)) (Nat.le_trans (show (0 + 4 + 4 * 0) + 0 ≤ 7 by omega) (Nat.le_of_ble_eq_true rfl)) dX4_init_16 (fun na H2 hna hFna z2 o2 hS => ?_)
  have n2hO : a ≠ na := fun q => absurd hO.lt (by rw [q, hna]; exact Nat.lt_irrefl _)
  have hO := at_n hO o2
  have hZ2 := hS.1
  have hMna : A na := hA na (by omega)
  have hXa := at_n hXa o2
  have hTx : ∀ j : Nat, j < 4 → IA0 G (n + 1 + j) [] H2 := fun j hj => (hTx j hj).n o2
  have hnaz : n + 5 ≤ na := by omega
  refine h_put (D := G.1) (ci := 8) (C := RX4) (T := TX4) (N := 5) hx hb hts inX4 tyX4 tyX4_ok nmX4 hown hK hO hS hAa rfl 2 (by decide) (hts _ tw_4_174) (fun _ h9 => h9) rfl (tyX4_ok 2 (by decide)) rfl rfl (Nat.le_of_ble_eq_true rfl) dX4_init_18 (fun H3 L3 hO z3 o3 hS => ?_)
  have hO : va_at G.1 vwCl (a, .inr (8, [.int 0, .ref n, .ref na, .null, .int 0])) H3 := hO
  have hFna := at_o hFna o3 (by omega)
  have hZ3 := hS.1
  have hXa := at_o hXa o3 (by omega)
  have hTx : ∀ j : Nat, j < 4 → IA0 G (n + 1 + j) [] H3 := fun j hj => (hTx j hj).o o3 (by omega)
  refine lv_aload_n hx hb dX4_init_21 rfl (lv_at hl 0 rfl) ?_
  refine h_new (D := G.1) (C := RJx4a65c) (T := TJx4a65c) (N := 3) (ci := 3) (fs := [.int 0, .null, .int 0]) hx hb hts inJx4a65c tyJx4a65c tyJx4a65c_ok hown (hts _ tw_4_143) (hts _ tw_4_144) (hts _ tw_1_11) hK hS rfl (fun j hj => match j, hj with | 0, _ => rfl | 1, _ => rfl | 2, _ => rfl) (Nat.le_trans (show ((0 + 1 + 4) + 1) + 1 ≤ 7 by omega) (Nat.le_of_ble_eq_true rfl)) (Nat.le_trans (show ((0 + 4 + 4 * 0) + 0) + 3 ≤ 7 by omega) (Nat.le_of_ble_eq_true rfl)) dX4_init_22 (fun pa H4 hpa hOpa z4 o4 hS => ?_)
  have n4hO : a ≠ pa := fun q => absurd hO.lt (by rw [q, hpa]; exact Nat.lt_irrefl _)
  have n4hFna : na ≠ pa := fun q => absurd hFna.lt (by rw [q, hpa]; exact Nat.lt_irrefl _)
  have hO := at_n hO o4
  have hFna := at_n hFna o4
  have hZ4 := hS.1
  have hMpa : A pa := hA pa (by omega)
  have hXa := at_n hXa o4
  have hTx : ∀ j : Nat, j < 4 → IA0 G (n + 1 + j) [] H4 := fun j hj => (hTx j hj).n o4
  have hpaz : na < pa := by omega
  refine lv_dup hx hb dX4_init_25 rfl ?_
  have hR0 : IA0 G na [] H4 := IA0.mk hFna rfl (fun q hq => absurd hq (Nat.not_lt_zero q))
  refine qV_I (A := A) (A1 := ow pa pa H4.size) (b := pa) (As := []) (rest := .ref pa :: .ref a :: []) ⟨hx, hb, hml, hown, hts⟩ (mJx4a65c_init_da8c8 (A := ow pa pa H4.size) (Or.inl rfl)) (cwI 0 hts (gI tw_4_147) rfl rfl rfl (hts _ tw_1_11) (hts _ tw_4_145) (hts _ tw_4_146) rfl (by decide +kernel) ⟨Nat.le_of_ble_eq_true rfl, Nat.le_of_ble_eq_true rfl⟩) hC hS (ow_in hMpa hMpa hA (by omega)) ow_n  hOpa rfl rfl hl.1 (Nat.le_of_ble_eq_true rfl) ⟨Nat.le_trans (show (((0 + 1 + 4) + 1) + 1) ≤ 7 by omega) (Nat.le_of_ble_eq_true rfl), Nat.le_trans (show (((0 + 4 + 4 * 0) + 0) + 3) ≤ 7 by omega) (Nat.le_of_ble_eq_true rfl)⟩ dX4_init_26 (fun H5 L5 hP5 hk5 hS => ?_)
  have hZ5 := hS.1
  have hO := at_kp hO hk5 (ow_no (by omega) (by omega) hO.lt)
  have hXa := at_kp hXa hk5 (ow_no (by omega) (by omega) hXa.lt)
  have hTx : ∀ j : Nat, j < 4 → IA0 G (n + 1 + j) [] H5 := fun j hj => (hTx j hj).kp hk5 (ow_no (by omega) (by omega) (hTx j hj).lt)
  have hR0 := hR0.kp hk5 (ow_no (by omega) (by omega) hR0.lt)
  have hL := LQ_mono (ow_in hMpa hMpa hA (by omega)) hP5
  have hpne : pa ≠ a := by omega
  have hO1 := hO
  refine h_put (D := G.1) (ci := 8) (C := RX4) (T := TX4) (N := 5) hx hb hts inX4 tyX4 tyX4_ok nmX4 hown hK hO hS hAa rfl 3 (by decide) (hts _ tw_4_175) (fun _ h9 => h9) rfl (tyX4_ok 3 (by decide)) rfl rfl (Nat.le_of_ble_eq_true rfl) dX4_init_29 (fun H6 L6 hO z6 o6 hS => ?_)
  have hO : va_at G.1 vwCl (a, .inr (8, [.int 0, .ref n, .ref na, .ref pa, .int 0])) H6 := hO
  have hZ6 := hS.1
  have hXa := at_o hXa o6 (by omega)
  have hTx : ∀ j : Nat, j < 4 → IA0 G (n + 1 + j) [] H6 := fun j hj => (hTx j hj).o o6 (by omega)
  have hR0 := hR0.o o6 (by omega)
  exact q_v hx hb hr hlocks dX4_init_32 hS (by omega) (by omega) ⟨n, na, pa, fun j => n + 1 + j, hAa, hA _ (by omega), fun i _ => ⟨okc_nil, Nat.zero_le _⟩, fun i => by rw [List.getD_eq_getElem?_getD]; exact ⟨okc_nil, Nat.zero_le _⟩, hMna, hMpa, hpne, hO, hXa, fun j hj => ⟨hTx j hj, by show n + 1 + j ≠ na; omega⟩, hR0, Nat.zero_le _, ML_of hK hO1 hL o6 hpne⟩
end
/-! 61.mod21 -/
section
/-! The model, 21: digest -/
section FI
variable {p : Program} {l : Launch} {e : Env} {R : Room} {s : State} {m : MethodId} {args : Array Value} {below : List Frame} {meth : Method} {c : Code} {H H1 : Heap} {locs : List Loc} {cells slots : Nat} {Q : State → Prop}
variable {cc bytes : ByteArray} {pc nL maxL index n mc ms count : Nat} {ls : Array Slot} {rest st0 : List Value} {G : Cx} {A A1 B : Nat → Prop} {own C : String} {cC : ClassId} {x y : MethodName} {ret : Option FieldType} {ws : List Cond} {rm : Room} {b a : Nat} {As : List Value} {Wd : Heap → Prop}
theorem gF {own C : String} {index n : Nat} {x y : MethodName} {cc : ByteArray} {r : Option FieldType} (h1 : Cond.methodLink own index x ∈ GW) (h2 : Cond.selects C x y ∈ GW) (h3 : Cond.instanceMethod y ∈ GW) (h4 : Cond.initialized y.cls ∈ GW) (h5 : Cond.code y cc n r ∈ GW) : GoodIn GW (va_wsF own index C x y (.code y cc n r :: GW)) := by
  intro w hw
  unfold va_wsF at hw
  rcases List.mem_append.mp hw with h | h
  · simp only [List.mem_cons, List.not_mem_nil, or_false] at h
    rcases h with rfl | rfl | rfl | rfl
    · exact good_gw h1
    · exact good_gw h2
    · exact good_gw h3
    · exact good_gw h4
  · exact gI h5 w h
theorem kF_i {post : Int32 → Prop} (hat : ClassAt s C cC) (S : CallFix p m c cc nL s args GW own) (hM : Met l y ws rm (PC G A (.ref b :: As) Wd) (vp_Si post) 0 0 (fun _ => False)) (cw : va_CI R s args own C index x y bytes maxL ret ws rm 0 0 n) (hC : cx G A s) (hS : va_S A s.heap H locs) (hA : ∀ q : Nat, s.heap.size ≤ q → A q)
    (hr : ∃ cell : Cell, H[b]? = some cell ∧ cell.vm.isStatics = false ∧ s.vm.findClass C = some cell.cls) (hW : Wd H) (hst : st0 = As.reverse ++ .ref b :: rest) (hn : As.length = n) (hl : ls.size = nL) (hrm : (rest.map fun v => v.category).sum ≤ 8) (hf : cells ≤ R.cells ∧ slots ≤ R.slots) (hdg : decode cc pc = .ok (.invokeinterface index count, 5))
    (kk : ∀ r : Int32, post r → W p l e R s m args below meth c H locs cells slots Q (F0 m (pc + 5) ls (.int r :: rest))) : W p l e R s m args below meth c H locs cells slots Q (F0 m pc ls st0) := by
  subst hst
  exact va_csFi (va_runF (As := As) (rest := rest) (g := F0 m pc ls (As.reverse ++ .ref b :: rest)) hat S hM cw ⟨PC.blind, hr, PC.go hC hS (fun _ z => z) (fun q h => hA q (Nat.le_trans hS.1 h)) hW⟩ rfl hn hl rfl (lv_room hrm) hdg hf) kk
theorem qR_F {P : Nat → Heap → Prop} (hat : ClassAt s C cC) (S : CallFix p m c cc nL s args GW own) (hM : Met l y ws rm (PC G A1 (.ref b :: As) Wd) (qR A1 P) mc ms A1) (cw : va_CI R s args own C index x y bytes maxL ret ws rm mc ms n) (hC : cx G A s) (hS : va_S A s.heap H locs) (hAA : ∀ q, A1 q → A q) (hA1 : ∀ q : Nat, H.size ≤ q → A1 q)
    (hr : ∃ cell : Cell, H[b]? = some cell ∧ cell.vm.isStatics = false ∧ s.vm.findClass C = some cell.cls) (hW : Wd H) (hst : st0 = As.reverse ++ .ref b :: rest) (hn : As.length = n) (hl : ls.size = nL) (hrm : (rest.map fun v => v.category).sum ≤ 8) (hf : cells + mc ≤ R.cells ∧ slots + ms ≤ R.slots) (hdg : decode cc pc = .ok (.invokeinterface index count, 5))
    (kk : ∀ (a : Nat) (H1 : Heap) (locs1 : List Loc), P a H1 → kp A1 H H1 → va_S A s.heap H1 locs1 → W p l e R s m args below meth c H1 locs1 (cells + mc) (slots + ms) Q (F0 m (pc + 5) ls (.ref a :: rest))) : W p l e R s m args below meth c H locs cells slots Q (F0 m pc ls st0) := by
  subst hst
  exact va_callFr (va_runF (As := As) (rest := rest) (g := F0 m pc ls (As.reverse ++ .ref b :: rest)) hat S hM cw ⟨PC.blind, hr, PC.go hC hS hAA hA1 hW⟩ rfl hn hl rfl (lv_room hrm) hdg hf) hS (fun q _ h => hAA q h) hAA (fun u a t H1 locs1 ht _ _ hB hz hk hS1 => kk a H1 locs1 (show P a H1 from ht ▸ hB) ⟨hz, hk⟩ hS1)
end FI
theorem MWx_it {G : Cx} {A : Nat → Prop} {am xa : Nat} {X : Nat → List Nat} {P : List (List Nat)} {k th : Int32} {H : Heap} {ra pa : Nat} {tx : Nat → Nat} (h : MWx G A am xa ra pa tx X P k th H) : ∃ (md : Int32) (ed : Nat), va_at G.1 vwCl (pa, .inr (3, [.int md, .ref ed, .int (nI P.length)])) H ∧ ∀ j : Nat, j < P.length → ∃ (cap : Nat) (f : Nat → Option Nat) (q : Nat), va_at G.1 vwCl (ed, .inl (G.2.1 5, cap, .inr (.inr (.inr (.inr f))))) H ∧ P.length ≤ cap ∧ cap < 2 ^ 20 ∧ f j = some q ∧ IA0 G q (P.getD j []) H := by
  obtain ⟨h0, ⟨e, md, h9⟩ | ⟨md, ed, cap, f, pe, h1, h2, h3, h4, h5, h6⟩⟩ := h.2.2.2.2.2.2.2.2.2.2.2
  · subst e; exact ⟨md, _, h9, fun j hj => absurd hj (Nat.not_lt_zero j)⟩
  · exact ⟨md, ed, h1, fun j hj => ⟨cap, f, pe j, h2, h4, h5, (h6 j hj).1, (h6 j hj).2.1⟩⟩
theorem dX4_add_0 : decode cX4_add 0 = .ok (.lload_n 0, 1) := by decide +kernel
theorem dX4_add_1 : decode cX4_add 1 = .ok (.ldc2_w 185, 3) := by decide +kernel
theorem dX4_add_4 : decode cX4_add 4 = .ok (.lmul, 1) := by decide +kernel
theorem dX4_add_5 : decode cX4_add 5 = .ok (.lload_n 2, 1) := by decide +kernel
theorem dX4_add_6 : decode cX4_add 6 = .ok (.ladd, 1) := by decide +kernel
theorem dX4_add_7 : decode cX4_add 7 = .ok (.lreturn, 1) := by decide +kernel
theorem dX4_digest_0 : decode cX4_digest 0 = .ok (.aload_n 0, 1) := by decide +kernel
theorem dX4_digest_1 : decode cX4_digest 1 = .ok (.iconst 0, 1) := by decide +kernel
theorem dX4_digest_2 : decode cX4_digest 2 = .ok (.putfield 82, 3) := by decide +kernel
theorem dX4_digest_5 : decode cX4_digest 5 = .ok (.ldc2_w 187, 3) := by decide +kernel
theorem dX4_digest_8 : decode cX4_digest 8 = .ok (.lstore_n 1, 1) := by decide +kernel
theorem dX4_digest_9 : decode cX4_digest 9 = .ok (.iconst 0, 1) := by decide +kernel
theorem dX4_digest_10 : decode cX4_digest 10 = .ok (.istore_n 3, 1) := by decide +kernel
theorem dX4_digest_11 : decode cX4_digest 11 = .ok (.iload_n 3, 1) := by decide +kernel
theorem dX4_digest_12 : decode cX4_digest 12 = .ok (.iconst 5, 1) := by decide +kernel
theorem dX4_digest_13 : decode cX4_digest 13 = .ok (.if_icmp .ge 20, 3) := by decide +kernel
theorem dX4_digest_16 : decode cX4_digest 16 = .ok (.lload_n 1, 1) := by decide +kernel
theorem dX4_digest_17 : decode cX4_digest 17 = .ok (.aload_n 0, 1) := by decide +kernel
theorem dX4_digest_18 : decode cX4_digest 18 = .ok (.iload_n 3, 1) := by decide +kernel
theorem dX4_digest_19 : decode cX4_digest 19 = .ok (.invokevirtual 179, 3) := by decide +kernel
theorem dX4_digest_22 : decode cX4_digest 22 = .ok (.i2l, 1) := by decide +kernel
theorem dX4_digest_23 : decode cX4_digest 23 = .ok (.invokestatic 189, 3) := by decide +kernel
theorem dX4_digest_26 : decode cX4_digest 26 = .ok (.lstore_n 1, 1) := by decide +kernel
theorem dX4_digest_27 : decode cX4_digest 27 = .ok (.iinc 3 1, 3) := by decide +kernel
theorem dX4_digest_30 : decode cX4_digest 30 = .ok (.goto (-19), 3) := by decide +kernel
theorem dX4_digest_33 : decode cX4_digest 33 = .ok (.aload_n 0, 1) := by decide +kernel
theorem dX4_digest_34 : decode cX4_digest 34 = .ok (.getfield 72, 3) := by decide +kernel
theorem dX4_digest_37 : decode cX4_digest 37 = .ok (.astore_n 3, 1) := by decide +kernel
theorem dX4_digest_38 : decode cX4_digest 38 = .ok (.aload_n 3, 1) := by decide +kernel
theorem dX4_digest_39 : decode cX4_digest 39 = .ok (.arraylength, 1) := by decide +kernel
theorem dX4_digest_40 : decode cX4_digest 40 = .ok (.istore 4, 2) := by decide +kernel
theorem dX4_digest_42 : decode cX4_digest 42 = .ok (.iconst 0, 1) := by decide +kernel
theorem dX4_digest_43 : decode cX4_digest 43 = .ok (.istore 5, 2) := by decide +kernel
theorem dX4_digest_45 : decode cX4_digest 45 = .ok (.iload 5, 2) := by decide +kernel
theorem dX4_digest_47 : decode cX4_digest 47 = .ok (.iload 4, 2) := by decide +kernel
theorem dX4_digest_49 : decode cX4_digest 49 = .ok (.if_icmp .ge 79, 3) := by decide +kernel
theorem dX4_digest_52 : decode cX4_digest 52 = .ok (.aload_n 3, 1) := by decide +kernel
theorem dX4_digest_53 : decode cX4_digest 53 = .ok (.iload 5, 2) := by decide +kernel
theorem dX4_digest_55 : decode cX4_digest 55 = .ok (.aaload, 1) := by decide +kernel
theorem dX4_digest_56 : decode cX4_digest 56 = .ok (.astore 6, 2) := by decide +kernel
theorem dX4_digest_58 : decode cX4_digest 58 = .ok (.lload_n 1, 1) := by decide +kernel
theorem dX4_digest_59 : decode cX4_digest 59 = .ok (.aload 6, 2) := by decide +kernel
theorem dX4_digest_61 : decode cX4_digest 61 = .ok (.invokestatic 156, 3) := by decide +kernel
theorem dX4_digest_64 : decode cX4_digest 64 = .ok (.i2l, 1) := by decide +kernel
theorem dX4_digest_65 : decode cX4_digest 65 = .ok (.invokestatic 189, 3) := by decide +kernel
theorem dX4_digest_68 : decode cX4_digest 68 = .ok (.aload 6, 2) := by decide +kernel
theorem dX4_digest_70 : decode cX4_digest 70 = .ok (.arraylength, 1) := by decide +kernel
theorem dX4_digest_71 : decode cX4_digest 71 = .ok (.i2l, 1) := by decide +kernel
theorem dX4_digest_72 : decode cX4_digest 72 = .ok (.invokestatic 189, 3) := by decide +kernel
theorem dX4_digest_75 : decode cX4_digest 75 = .ok (.aload 6, 2) := by decide +kernel
theorem dX4_digest_77 : decode cX4_digest 77 = .ok (.iconst 1, 1) := by decide +kernel
theorem dX4_digest_78 : decode cX4_digest 78 = .ok (.invokestatic 117, 3) := by decide +kernel
theorem dX4_digest_81 : decode cX4_digest 81 = .ok (.arraylength, 1) := by decide +kernel
theorem dX4_digest_82 : decode cX4_digest 82 = .ok (.ifCond .ne 7, 3) := by decide +kernel
theorem dX4_digest_85 : decode cX4_digest 85 = .ok (.iconst 1, 1) := by decide +kernel
theorem dX4_digest_86 : decode cX4_digest 86 = .ok (.goto 4, 3) := by decide +kernel
theorem dX4_digest_89 : decode cX4_digest 89 = .ok (.iconst 0, 1) := by decide +kernel
theorem dX4_digest_90 : decode cX4_digest 90 = .ok (.invokestatic 17, 3) := by decide +kernel
theorem dX4_digest_93 : decode cX4_digest 93 = .ok (.i2l, 1) := by decide +kernel
theorem dX4_digest_94 : decode cX4_digest 94 = .ok (.invokestatic 189, 3) := by decide +kernel
theorem dX4_digest_97 : decode cX4_digest 97 = .ok (.lstore_n 1, 1) := by decide +kernel
theorem dX4_digest_98 : decode cX4_digest 98 = .ok (.lload_n 1, 1) := by decide +kernel
theorem dX4_digest_99 : decode cX4_digest 99 = .ok (.aload 6, 2) := by decide +kernel
theorem dX4_digest_101 : decode cX4_digest 101 = .ok (.iconst 0, 1) := by decide +kernel
theorem dX4_digest_102 : decode cX4_digest 102 = .ok (.invokestatic 117, 3) := by decide +kernel
theorem dX4_digest_105 : decode cX4_digest 105 = .ok (.arraylength, 1) := by decide +kernel
theorem dX4_digest_106 : decode cX4_digest 106 = .ok (.i2l, 1) := by decide +kernel
theorem dX4_digest_107 : decode cX4_digest 107 = .ok (.invokestatic 189, 3) := by decide +kernel
theorem dX4_digest_110 : decode cX4_digest 110 = .ok (.aload 6, 2) := by decide +kernel
theorem dX4_digest_112 : decode cX4_digest 112 = .ok (.iconst 1, 1) := by decide +kernel
theorem dX4_digest_113 : decode cX4_digest 113 = .ok (.invokestatic 117, 3) := by decide +kernel
theorem dX4_digest_116 : decode cX4_digest 116 = .ok (.arraylength, 1) := by decide +kernel
theorem dX4_digest_117 : decode cX4_digest 117 = .ok (.i2l, 1) := by decide +kernel
theorem dX4_digest_118 : decode cX4_digest 118 = .ok (.invokestatic 189, 3) := by decide +kernel
theorem dX4_digest_121 : decode cX4_digest 121 = .ok (.lstore_n 1, 1) := by decide +kernel
theorem dX4_digest_122 : decode cX4_digest 122 = .ok (.iinc 5 1, 3) := by decide +kernel
theorem dX4_digest_125 : decode cX4_digest 125 = .ok (.goto (-80), 3) := by decide +kernel
theorem dX4_digest_128 : decode cX4_digest 128 = .ok (.aload_n 0, 1) := by decide +kernel
theorem dX4_digest_129 : decode cX4_digest 129 = .ok (.getfield 72, 3) := by decide +kernel
theorem dX4_digest_132 : decode cX4_digest 132 = .ok (.astore_n 3, 1) := by decide +kernel
theorem dX4_digest_133 : decode cX4_digest 133 = .ok (.aload_n 3, 1) := by decide +kernel
theorem dX4_digest_134 : decode cX4_digest 134 = .ok (.arraylength, 1) := by decide +kernel
theorem dX4_digest_135 : decode cX4_digest 135 = .ok (.istore 4, 2) := by decide +kernel
theorem dX4_digest_137 : decode cX4_digest 137 = .ok (.iconst 0, 1) := by decide +kernel
theorem dX4_digest_138 : decode cX4_digest 138 = .ok (.istore 5, 2) := by decide +kernel
theorem dX4_digest_140 : decode cX4_digest 140 = .ok (.iload 5, 2) := by decide +kernel
theorem dX4_digest_142 : decode cX4_digest 142 = .ok (.iload 4, 2) := by decide +kernel
theorem dX4_digest_144 : decode cX4_digest 144 = .ok (.if_icmp .ge 114, 3) := by decide +kernel
theorem dX4_digest_147 : decode cX4_digest 147 = .ok (.aload_n 3, 1) := by decide +kernel
theorem dX4_digest_148 : decode cX4_digest 148 = .ok (.iload 5, 2) := by decide +kernel
theorem dX4_digest_150 : decode cX4_digest 150 = .ok (.aaload, 1) := by decide +kernel
theorem dX4_digest_151 : decode cX4_digest 151 = .ok (.astore 6, 2) := by decide +kernel
theorem dX4_digest_153 : decode cX4_digest 153 = .ok (.aload_n 0, 1) := by decide +kernel
theorem dX4_digest_154 : decode cX4_digest 154 = .ok (.getfield 72, 3) := by decide +kernel
theorem dX4_digest_157 : decode cX4_digest 157 = .ok (.astore 7, 2) := by decide +kernel
theorem dX4_digest_159 : decode cX4_digest 159 = .ok (.aload 7, 2) := by decide +kernel
theorem dX4_digest_161 : decode cX4_digest 161 = .ok (.arraylength, 1) := by decide +kernel
theorem dX4_digest_162 : decode cX4_digest 162 = .ok (.istore 8, 2) := by decide +kernel
theorem dX4_digest_164 : decode cX4_digest 164 = .ok (.iconst 0, 1) := by decide +kernel
theorem dX4_digest_165 : decode cX4_digest 165 = .ok (.istore 9, 2) := by decide +kernel
theorem dX4_digest_167 : decode cX4_digest 167 = .ok (.iload 9, 2) := by decide +kernel
theorem dX4_digest_169 : decode cX4_digest 169 = .ok (.iload 8, 2) := by decide +kernel
theorem dX4_digest_171 : decode cX4_digest 171 = .ok (.if_icmp .ge 81, 3) := by decide +kernel
theorem dX4_digest_174 : decode cX4_digest 174 = .ok (.aload 7, 2) := by decide +kernel
theorem dX4_digest_176 : decode cX4_digest 176 = .ok (.iload 9, 2) := by decide +kernel
theorem dX4_digest_178 : decode cX4_digest 178 = .ok (.aaload, 1) := by decide +kernel
theorem dX4_digest_179 : decode cX4_digest 179 = .ok (.astore 10, 2) := by decide +kernel
theorem dX4_digest_181 : decode cX4_digest 181 = .ok (.lload_n 1, 1) := by decide +kernel
theorem dX4_digest_182 : decode cX4_digest 182 = .ok (.aload 6, 2) := by decide +kernel
theorem dX4_digest_184 : decode cX4_digest 184 = .ok (.aload 10, 2) := by decide +kernel
theorem dX4_digest_186 : decode cX4_digest 186 = .ok (.invokestatic 160, 3) := by decide +kernel
theorem dX4_digest_189 : decode cX4_digest 189 = .ok (.i2l, 1) := by decide +kernel
theorem dX4_digest_190 : decode cX4_digest 190 = .ok (.invokestatic 189, 3) := by decide +kernel
theorem dX4_digest_193 : decode cX4_digest 193 = .ok (.aload 6, 2) := by decide +kernel
theorem dX4_digest_195 : decode cX4_digest 195 = .ok (.aload 10, 2) := by decide +kernel
theorem dX4_digest_197 : decode cX4_digest 197 = .ok (.invokestatic 164, 3) := by decide +kernel
theorem dX4_digest_200 : decode cX4_digest 200 = .ok (.i2l, 1) := by decide +kernel
theorem dX4_digest_201 : decode cX4_digest 201 = .ok (.invokestatic 189, 3) := by decide +kernel
theorem dX4_digest_204 : decode cX4_digest 204 = .ok (.lstore_n 1, 1) := by decide +kernel
theorem dX4_digest_205 : decode cX4_digest 205 = .ok (.lload_n 1, 1) := by decide +kernel
theorem dX4_digest_206 : decode cX4_digest 206 = .ok (.aload 6, 2) := by decide +kernel
theorem dX4_digest_208 : decode cX4_digest 208 = .ok (.aload 10, 2) := by decide +kernel
theorem dX4_digest_210 : decode cX4_digest 210 = .ok (.iconst 0, 1) := by decide +kernel
theorem dX4_digest_211 : decode cX4_digest 211 = .ok (.invokestatic 175, 3) := by decide +kernel
theorem dX4_digest_214 : decode cX4_digest 214 = .ok (.i2l, 1) := by decide +kernel
theorem dX4_digest_215 : decode cX4_digest 215 = .ok (.invokestatic 189, 3) := by decide +kernel
theorem dX4_digest_218 : decode cX4_digest 218 = .ok (.aload 6, 2) := by decide +kernel
theorem dX4_digest_220 : decode cX4_digest 220 = .ok (.aload 10, 2) := by decide +kernel
theorem dX4_digest_222 : decode cX4_digest 222 = .ok (.iconst 1, 1) := by decide +kernel
theorem dX4_digest_223 : decode cX4_digest 223 = .ok (.invokestatic 175, 3) := by decide +kernel
theorem dX4_digest_226 : decode cX4_digest 226 = .ok (.i2l, 1) := by decide +kernel
theorem dX4_digest_227 : decode cX4_digest 227 = .ok (.invokestatic 189, 3) := by decide +kernel
theorem dX4_digest_230 : decode cX4_digest 230 = .ok (.aload 6, 2) := by decide +kernel
theorem dX4_digest_232 : decode cX4_digest 232 = .ok (.aload 10, 2) := by decide +kernel
theorem dX4_digest_234 : decode cX4_digest 234 = .ok (.iconst 1, 1) := by decide +kernel
theorem dX4_digest_235 : decode cX4_digest 235 = .ok (.invokestatic 171, 3) := by decide +kernel
theorem dX4_digest_238 : decode cX4_digest 238 = .ok (.invokestatic 17, 3) := by decide +kernel
theorem dX4_digest_241 : decode cX4_digest 241 = .ok (.i2l, 1) := by decide +kernel
theorem dX4_digest_242 : decode cX4_digest 242 = .ok (.invokestatic 189, 3) := by decide +kernel
theorem dX4_digest_245 : decode cX4_digest 245 = .ok (.lstore_n 1, 1) := by decide +kernel
theorem dX4_digest_246 : decode cX4_digest 246 = .ok (.iinc 9 1, 3) := by decide +kernel
theorem dX4_digest_249 : decode cX4_digest 249 = .ok (.goto (-82), 3) := by decide +kernel
theorem dX4_digest_252 : decode cX4_digest 252 = .ok (.iinc 5 1, 3) := by decide +kernel
theorem dX4_digest_255 : decode cX4_digest 255 = .ok (.goto (-115), 3) := by decide +kernel
theorem dX4_digest_258 : decode cX4_digest 258 = .ok (.aload_n 0, 1) := by decide +kernel
theorem dX4_digest_259 : decode cX4_digest 259 = .ok (.getfield 75, 3) := by decide +kernel
theorem dX4_digest_262 : decode cX4_digest 262 = .ok (.astore_n 3, 1) := by decide +kernel
theorem dX4_digest_263 : decode cX4_digest 263 = .ok (.aload_n 3, 1) := by decide +kernel
theorem dX4_digest_264 : decode cX4_digest 264 = .ok (.arraylength, 1) := by decide +kernel
theorem dX4_digest_265 : decode cX4_digest 265 = .ok (.istore 4, 2) := by decide +kernel
theorem dX4_digest_267 : decode cX4_digest 267 = .ok (.iconst 0, 1) := by decide +kernel
theorem dX4_digest_268 : decode cX4_digest 268 = .ok (.istore 5, 2) := by decide +kernel
theorem dX4_digest_270 : decode cX4_digest 270 = .ok (.iload 5, 2) := by decide +kernel
theorem dX4_digest_272 : decode cX4_digest 272 = .ok (.iload 4, 2) := by decide +kernel
theorem dX4_digest_274 : decode cX4_digest 274 = .ok (.if_icmp .ge 23, 3) := by decide +kernel
theorem dX4_digest_277 : decode cX4_digest 277 = .ok (.aload_n 3, 1) := by decide +kernel
theorem dX4_digest_278 : decode cX4_digest 278 = .ok (.iload 5, 2) := by decide +kernel
theorem dX4_digest_280 : decode cX4_digest 280 = .ok (.iaload, 1) := by decide +kernel
theorem dX4_digest_281 : decode cX4_digest 281 = .ok (.istore 6, 2) := by decide +kernel
theorem dX4_digest_283 : decode cX4_digest 283 = .ok (.lload_n 1, 1) := by decide +kernel
theorem dX4_digest_284 : decode cX4_digest 284 = .ok (.iload 6, 2) := by decide +kernel
theorem dX4_digest_286 : decode cX4_digest 286 = .ok (.i2l, 1) := by decide +kernel
theorem dX4_digest_287 : decode cX4_digest 287 = .ok (.invokestatic 189, 3) := by decide +kernel
theorem dX4_digest_290 : decode cX4_digest 290 = .ok (.lstore_n 1, 1) := by decide +kernel
theorem dX4_digest_291 : decode cX4_digest 291 = .ok (.iinc 5 1, 3) := by decide +kernel
theorem dX4_digest_294 : decode cX4_digest 294 = .ok (.goto (-24), 3) := by decide +kernel
theorem dX4_digest_297 : decode cX4_digest 297 = .ok (.aload_n 0, 1) := by decide +kernel
theorem dX4_digest_298 : decode cX4_digest 298 = .ok (.getfield 78, 3) := by decide +kernel
theorem dX4_digest_301 : decode cX4_digest 301 = .ok (.invokevirtual 192, 3) := by decide +kernel
theorem dX4_digest_304 : decode cX4_digest 304 = .ok (.astore_n 3, 1) := by decide +kernel
theorem dX4_digest_305 : decode cX4_digest 305 = .ok (.aload_n 3, 1) := by decide +kernel
theorem dX4_digest_306 : decode cX4_digest 306 = .ok (.invokeinterface 196 1, 5) := by decide +kernel
theorem dX4_digest_311 : decode cX4_digest 311 = .ok (.ifCond .eq 26, 3) := by decide +kernel
theorem dX4_digest_314 : decode cX4_digest 314 = .ok (.aload_n 3, 1) := by decide +kernel
theorem dX4_digest_315 : decode cX4_digest 315 = .ok (.invokeinterface 201 1, 5) := by decide +kernel
theorem dX4_digest_320 : decode cX4_digest 320 = .ok (.checkcast 62, 3) := by decide +kernel
theorem dX4_digest_323 : decode cX4_digest 323 = .ok (.astore 4, 2) := by decide +kernel
theorem dX4_digest_325 : decode cX4_digest 325 = .ok (.lload_n 1, 1) := by decide +kernel
theorem dX4_digest_326 : decode cX4_digest 326 = .ok (.aload 4, 2) := by decide +kernel
theorem dX4_digest_328 : decode cX4_digest 328 = .ok (.arraylength, 1) := by decide +kernel
theorem dX4_digest_329 : decode cX4_digest 329 = .ok (.i2l, 1) := by decide +kernel
theorem dX4_digest_330 : decode cX4_digest 330 = .ok (.invokestatic 189, 3) := by decide +kernel
theorem dX4_digest_333 : decode cX4_digest 333 = .ok (.lstore_n 1, 1) := by decide +kernel
theorem dX4_digest_334 : decode cX4_digest 334 = .ok (.goto (-29), 3) := by decide +kernel
theorem dX4_digest_337 : decode cX4_digest 337 = .ok (.lload_n 1, 1) := by decide +kernel
theorem dX4_digest_338 : decode cX4_digest 338 = .ok (.aload_n 0, 1) := by decide +kernel
theorem dX4_digest_339 : decode cX4_digest 339 = .ok (.invokevirtual 182, 3) := by decide +kernel
theorem dX4_digest_342 : decode cX4_digest 342 = .ok (.invokestatic 17, 3) := by decide +kernel
theorem dX4_digest_345 : decode cX4_digest 345 = .ok (.i2l, 1) := by decide +kernel
theorem dX4_digest_346 : decode cX4_digest 346 = .ok (.invokestatic 189, 3) := by decide +kernel
theorem dX4_digest_349 : decode cX4_digest 349 = .ok (.lreturn, 1) := by decide +kernel
abbrev rmX4_add : Room := { frames := 0, cells := 0, slots := 0, locals := 0 }
theorem mX4_add {l : Launch} {G : Cx} {A : Nat → Prop} {x y : Int64} : Met l yX4_add (.code yX4_add cX4_add 4 (some .long) :: GW) rmX4_add (PC G A [.long x, .long y] (fun _ => True)) (vp_Sl (fun r => r = x * 31 + y)) 0 0 (fun _ => False) := by
  refine mstart "SigntextModel" (by decide +kernel) rfl (Nat.le_of_ble_eq_true rfl) ?_
  intro p e s m below meth c ls hx hb hr hts hown hml hlocks hname hC hA hW hl
  have hl : lv_has ls 4 [(0, .long x), (2, .long y)] := hl
  have hK := hC.1
  have hS : va_S A s.heap s.heap [] := va_S.rf
  refine lv_lload_n hx hb dX4_add_0 rfl (lv_at hl 0 rfl) ?_
  refine lv_ldc2 (v := 31) hx hb hown (hts _ tw_7_34) dX4_add_1 ?_
  refine lv_lmul hx hb dX4_add_4 ?_
  refine lv_lload_n hx hb dX4_add_5 rfl (lv_at hl 1 rfl) ?_
  refine lv_ladd hx hb dX4_add_6 ?_
  exact p_l hx hb hr hlocks dX4_add_7 rfl

abbrev rmX4_digest : Room := { frames := 4, cells := 18, slots := 761, locals := 95 }
theorem mX4_digest {l : Launch} {G : Cx} {A : Nat → Prop} {am xa : Nat} {X : Nat → List Nat} {P : List (List Nat)} {k : Int32} {th : Int32} : Met l yX4_digest (.code yX4_digest cX4_digest 11 (some .long) :: GW) rmX4_digest (PC G A [.ref am] (MW G A am xa X P k th)) (qL A (fun _ H => MW G A am xa X P k 0 H)) 18 761 (A) := by
  refine mstart "SigntextModel" (by decide +kernel) rfl (Nat.le_of_ble_eq_true rfl) ?_
  intro p e s m below meth c ls hx hb hr hts hown hml hlocks hname hC hA hW hl
  have hl : lv_has ls 11 [(0, .ref am)] := hl
  have hK := hC.1
  have hS : va_S A s.heap s.heap [] := va_S.rf
  obtain ⟨ra, pa, tx, hW⟩ := hW
  have hO := hW.obj
  have hAm := hW.1
  refine lv_aload_n hx hb dX4_digest_0 rfl (lv_at hl 0 rfl) ?_
  refine lv_iconst (v := nI 0) hx hb dX4_digest_1 (by decide) ?_
  refine h_put (D := G.1) (ci := 8) (C := RX4) (T := TX4) (N := 5) hx hb hts inX4 tyX4 tyX4_ok nmX4 hown hK hO hS hAm rfl 0 (by decide) (hts _ tw_4_172) (fun _ h9 => h9) rfl (tyX4_ok 0 (by decide)) rfl rfl (Nat.le_of_ble_eq_true rfl) dX4_digest_2 (fun H14 L14 hO z14 o14 hS => ?_)
  have hO : va_at G.1 vwCl (am, .inr (8, [.int (nI 0), .ref xa, .ref ra, .ref pa, .int k])) H14 := hO
  have hZ14 := hS.1
  have hW := hW.nums hK hO o14
  have hO := hW.obj
  have hAm := hW.1
  refine lv_ldc2 (v := 6173) hx hb hown (hts _ tw_7_30) dX4_digest_5 ?_
  refine lv_lstore_n (lv' := [(1, .long 6173), (0, .ref am)]) hx hb dX4_digest_8 rfl hl (by decide) rfl (fun ls hl => ?_)
  refine lv_iconst (v := nI 0) hx hb dX4_digest_9 (by decide) ?_
  refine lv_istore_n (lv' := [(3, .int (nI 0)), (1, .long 6173), (0, .ref am)]) hx hb dX4_digest_10 rfl hl (by decide) rfl (fun ls hl => ?_)
  have hM : MW G A am xa X P k 0 H14 := ⟨ra, pa, tx, hW⟩
  refine W.widen (k := 0 + 0) (n := 0 + 0 * 5) (by decide) (by decide) ?_
  refine nloop (P := fun j => ∀ (ls : Array Slot) (H : Heap) (L : List Loc) (x : Int64), lv_has ls 11 [(3, .int (nI j)), (1, .long x), (0, .ref am)] → va_S A s.heap H L → MW G A am xa X P k 0 H → W p l e rmX4_digest s m [.ref am].toArray below meth c H L (0 + j) (0 + j * 5) (MQ below (qL A (fun _ H => MW G A am xa X P k 0 H)) [.ref am].toArray s 18 761 (A)) (F0 m 11 ls [])) 5 ?_ 0 (Nat.zero_le _) ls H14 L14 6173 hl hS hM
  clear hl
  intro j hj ih ls H L x hl
  clear hS hM hW hO
  intro hS hM
  have hZ0 := hS.1
  refine lv_iload_n hx hb dX4_digest_11 rfl (lv_at hl 0 rfl) ?_
  refine lv_iconst (v := nI 5) hx hb dX4_digest_12 (by decide) ?_
  refine b_ge (tgt := 33) hx hb dX4_digest_13 (by decide) (by omega) (by omega) (fun c_15 => ?_) (fun c_15 => ?_)
  · have e5 : j = 5 := by omega
    subst e5
    clear ih
    obtain ⟨ra, pa, tx, hW⟩ := hM
    have hO := hW.obj
    have hAm := hW.1
    have hXa := hW.txs
    refine lv_aload_n hx hb dX4_digest_33 rfl (lv_at hl 2 rfl) ?_
    refine va_get (D := G.1) (ci := 8) (C := RX4) (T := TX4) (N := 5) hx hb hts inX4 hown hK (at_P hO) 0 rfl rfl 1 (by decide) (hts _ tw_4_173) (fun _ h9 => h9) rfl dX4_digest_34 ?_
    refine lv_astore_n (lv' := [(3, .ref xa), (1, .long x), (0, .ref am)]) hx hb dX4_digest_37 rfl hl (by decide) rfl (fun ls hl => ?_)
    refine lv_aload_n hx hb dX4_digest_38 rfl (lv_at hl 0 rfl) ?_
    refine va_alen hx hb hK (at_P hXa) 0 4 (v := nI 4) rfl rfl rfl dX4_digest_39 ?_
    refine lv_istore (lv' := [(4, .int (nI 4)), (3, .ref xa), (1, .long x), (0, .ref am)]) hx hb dX4_digest_40 hl (by decide) rfl (fun ls hl => ?_)
    refine lv_iconst (v := nI 0) hx hb dX4_digest_42 (by decide) ?_
    refine lv_istore (lv' := [(5, .int (nI 0)), (4, .int (nI 4)), (3, .ref xa), (1, .long x), (0, .ref am)]) hx hb dX4_digest_43 hl (by decide) rfl (fun ls hl => ?_)
    have hl : lv_has ls 11 [(5, .int (nI 0)), (4, .int (nI 4)), (3, .ref xa), (1, .long x), (0, .ref am)] := (lv_sub hl [0, 1, 2, 3, 4] rfl)
    refine W.widen (k := 5 + 0 * 3) (n := 25 + 0 * 183) (by decide) (by decide) ?_
    refine nloop (P := fun j => ∀ (ls : Array Slot) (H : Heap) (L : List Loc) (x : Int64), lv_has ls 11 [(5, .int (nI j)), (4, .int (nI 4)), (3, .ref xa), (1, .long x), (0, .ref am)] → va_S A s.heap H L → MWx G A am xa ra pa tx X P k 0 H → W p l e rmX4_digest s m [.ref am].toArray below meth c H L (5 + j * 3) (25 + j * 183) (MQ below (qL A (fun _ H => MW G A am xa X P k 0 H)) [.ref am].toArray s 18 761 (A)) (F0 m 45 ls [])) 4 ?_ 0 (Nat.zero_le _) ls H L x hl hS hW
    clear hl
    intro j hj ih ls H L x hl
    clear hS hW hO hXa
    intro hS hW
    have hZ0 := hS.1
    refine lv_iload hx hb dX4_digest_45 (lv_at hl 0 rfl) ?_
    refine lv_iload hx hb dX4_digest_47 (lv_at hl 1 rfl) ?_
    refine b_ge (tgt := 128) hx hb dX4_digest_49 (by decide) (by omega) (by omega) (fun c_16 => ?_) (fun c_16 => ?_)
    · have e4 : j = 4 := by omega
      subst e4
      clear ih
      have hO := hW.obj
      have hAm := hW.1
      have hXa := hW.txs
      refine lv_aload_n hx hb dX4_digest_128 rfl (lv_at hl 4 rfl) ?_
      refine va_get (D := G.1) (ci := 8) (C := RX4) (T := TX4) (N := 5) hx hb hts inX4 hown hK (at_P hO) 0 rfl rfl 1 (by decide) (hts _ tw_4_173) (fun _ h9 => h9) rfl dX4_digest_129 ?_
      refine lv_astore_n (lv' := [(3, .ref xa), (5, .int (nI 4)), (4, .int (nI 4)), (1, .long x), (0, .ref am)]) hx hb dX4_digest_132 rfl hl (by decide) rfl (fun ls hl => ?_)
      refine lv_aload_n hx hb dX4_digest_133 rfl (lv_at hl 0 rfl) ?_
      refine va_alen hx hb hK (at_P hXa) 0 4 (v := nI 4) rfl rfl rfl dX4_digest_134 ?_
      refine lv_istore (lv' := [(4, .int (nI 4)), (3, .ref xa), (5, .int (nI 4)), (1, .long x), (0, .ref am)]) hx hb dX4_digest_135 hl (by decide) rfl (fun ls hl => ?_)
      refine lv_iconst (v := nI 0) hx hb dX4_digest_137 (by decide) ?_
      refine lv_istore (lv' := [(5, .int (nI 0)), (4, .int (nI 4)), (3, .ref xa), (1, .long x), (0, .ref am)]) hx hb dX4_digest_138 hl (by decide) rfl (fun ls hl => ?_)
      have hl : lv_has ls 11 [(5, .int (nI 0)), (4, .int (nI 4)), (3, .ref xa), (1, .long x), (0, .ref am)] := (lv_sub hl [0, 1, 2, 3, 4] rfl)
      refine nloop (P := fun j => ∀ (ls : Array Slot) (x : Int64), lv_has ls 11 [(5, .int (nI j)), (4, .int (nI 4)), (3, .ref xa), (1, .long x), (0, .ref am)] → W p l e rmX4_digest s m [.ref am].toArray below meth c H L (5 + 4 * 3) (25 + 4 * 183) (MQ below (qL A (fun _ H => MW G A am xa X P k 0 H)) [.ref am].toArray s 18 761 (A)) (F0 m 140 ls [])) 4 ?_ 0 (Nat.zero_le _) ls x hl 
      clear hl
      intro j hj ih ls x hl
      refine lv_iload hx hb dX4_digest_140 (lv_at hl 0 rfl) ?_
      refine lv_iload hx hb dX4_digest_142 (lv_at hl 1 rfl) ?_
      refine b_ge (tgt := 258) hx hb dX4_digest_144 (by decide) (by omega) (by omega) (fun c_17 => ?_) (fun c_17 => ?_)
      · clear ih
        have hR1 := hW.row.ia hC.2.1.2
        have x11 := hW.2.2.1 11 (Or.inr rfl)
        have r60 := x11.2
        refine lv_aload_n hx hb dX4_digest_258 rfl (lv_at hl 4 rfl) ?_
        refine va_get (D := G.1) (ci := 8) (C := RX4) (T := TX4) (N := 5) hx hb hts inX4 hown hK (at_P hO) 0 rfl rfl 2 (by decide) (hts _ tw_4_174) (fun _ h9 => h9) rfl dX4_digest_259 ?_
        refine lv_astore_n (lv' := [(3, .ref ra), (5, .int (nI j)), (4, .int (nI 4)), (1, .long x), (0, .ref am)]) hx hb dX4_digest_262 rfl hl (by decide) rfl (fun ls hl => ?_)
        refine lv_aload_n hx hb dX4_digest_263 rfl (lv_at hl 0 rfl) ?_
        refine h_ilen hx hb hC.2.1 hR1 dX4_digest_264 ?_
        refine lv_istore (lv' := [(4, .int (nI ((X 11).length))), (3, .ref ra), (5, .int (nI j)), (1, .long x), (0, .ref am)]) hx hb dX4_digest_265 hl (by decide) rfl (fun ls hl => ?_)
        refine lv_iconst (v := nI 0) hx hb dX4_digest_267 (by decide) ?_
        refine lv_istore (lv' := [(5, .int (nI 0)), (4, .int (nI ((X 11).length))), (3, .ref ra), (1, .long x), (0, .ref am)]) hx hb dX4_digest_268 hl (by decide) rfl (fun ls hl => ?_)
        have hl : lv_has ls 11 [(5, .int (nI 0)), (4, .int (nI ((X 11).length))), (3, .ref ra), (1, .long x), (0, .ref am)] := (lv_sub hl [0, 1, 2, 3, 4] rfl)
        refine nloop (P := fun q => ∀ (ls : Array Slot) (x : Int64), lv_has ls 11 [(5, .int (nI q)), (4, .int (nI ((X 11).length))), (3, .ref ra), (1, .long x), (0, .ref am)] → W p l e rmX4_digest s m [.ref am].toArray below meth c H L (5 + 4 * 3) (25 + 4 * 183) (MQ below (qL A (fun _ H => MW G A am xa X P k 0 H)) [.ref am].toArray s 18 761 (A)) (F0 m 270 ls [])) ((X 11).length) ?_ 0 (Nat.zero_le _) ls x hl 
        clear hl
        intro q hq ih ls x hl
        refine lv_iload hx hb dX4_digest_270 (lv_at hl 0 rfl) ?_
        refine lv_iload hx hb dX4_digest_272 (lv_at hl 1 rfl) ?_
        refine b_ge (tgt := 297) hx hb dX4_digest_274 (by decide) (by omega) (by omega) (fun c_18 => ?_) (fun c_18 => ?_)
        · clear ih
          refine lv_aload_n hx hb dX4_digest_297 rfl (lv_at hl 4 rfl) ?_
          refine va_get (D := G.1) (ci := 8) (C := RX4) (T := TX4) (N := 5) hx hb hts inX4 hown hK (at_P hO) 0 rfl rfl 3 (by decide) (hts _ tw_4_175) (fun _ h9 => h9) rfl dX4_digest_298 ?_
          obtain ⟨md, ed, hPa, hPc⟩ := MWx_it hW
          have hp61 := hW.2.2.2.2.2.2.2.2.2.2.2.1
          have hW0 := hW
          have hpl := hPa.lt
          obtain ⟨H0, hH0⟩ : ∃ H0, H0 = H := ⟨_, rfl⟩
          subst hH0
          refine qR_V (A := A) (A1 := nw H0.size) (b := pa) (As := []) (rest := []) ⟨hx, hb, hml, hown, hts⟩ (mJx4a65c_iterator_32c93 (A := nw H0.size) (md := md) (ed := ed) (n := P.length)) (cwV 0 hts (gV tw_7_35 tw_7_36 tw_7_37 tw_1_11 tw_7_38) rfl rfl rfl (by decide +kernel) ⟨Nat.le_of_ble_eq_true rfl, Nat.le_of_ble_eq_true rfl⟩) hC hS (nw_in hA hS.1) nw_n (at_recv hK hPa (q := (RJx4a65c, TJx4a65c, 3)) rfl) hPa rfl rfl hl.1 (Nat.le_of_ble_eq_true rfl) ⟨Nat.le_trans (show (5 + 4 * 3) + 1 ≤ 18 by omega) (Nat.le_of_ble_eq_true rfl), Nat.le_trans (show (25 + 4 * 183) + 4 ≤ 761 by omega) (Nat.le_of_ble_eq_true rfl)⟩ dX4_digest_301 (fun rv19 H19 L19 hP19 hk19 hS => ?_)
          have hZ19 := hS.1
          obtain ⟨hiz, hIt, hPa1⟩ := hP19
          have hkk := hk19
          have hiz : H0.size ≤ rv19 := hiz
          refine lv_astore_n (lv' := [(3, .ref rv19), (5, .int (nI q)), (4, .int (nI ((X 11).length))), (1, .long x), (0, .ref am)]) hx hb dX4_digest_304 rfl hl (by decide) rfl (fun ls hl => ?_)
          have hl : lv_has ls 11 [(3, .ref rv19), (1, .long x), (0, .ref am)] := (lv_sub hl [0, 3, 4] rfl)
          generalize hcl : ((5 + 4 * 3) + 1) = CC
          generalize hsl : ((25 + 4 * 183) + 4) = SS9
          refine nloop (P := fun cu => ∀ (ls : Array Slot) (H : Heap) (L : List Loc) (x : Int64) (lr : Int32), lv_has ls 11 [(3, .ref rv19), (1, .long x), (0, .ref am)] → va_S A s.heap H L → kp (nw H0.size) H0 H → va_at G.1 vwCl (rv19, .inr (2, [.int (nI cu), .int lr, .int md, .ref pa])) H → W p l e rmX4_digest s m [.ref am].toArray below meth c H L CC SS9 (MQ below (qL A (fun _ H => MW G A am xa X P k 0 H)) [.ref am].toArray s 18 761 (A)) (F0 m 305 ls [])) P.length ?_ 0 (Nat.zero_le _) ls H19 L19 x (-1) hl hS hkk hIt
          clear hl
          intro cu hcu ih ls H L x lr hl
          clear hS hkk hIt hPa1
          intro hS hkk hIt
          have hZ0 := hS.1
          have hPa := at_kp hPa hkk (Nat.not_le_of_lt hPa.lt)
          refine lv_aload_n hx hb dX4_digest_305 rfl (lv_at hl 0 rfl) ?_
          refine kF_i (x := xHN) (A := A) (b := rv19) (As := []) (rest := []) (hK.1 2 _ rfl).2 ⟨hx, hb, hml, hown, hts⟩ (mJx35411_hasNext_aae02 (A := A) (ed := ed) (n := P.length) (cu := cu) (md := md) (lr := lr) (by omega) (by omega)) (va_cwF 0 hts (gF tw_7_59 tw_7_63 tw_7_65 tw_1_28 tw_7_67) rfl rfl rfl hC.2.2.2.2.2.2.2.2.2.2.2.2.2.2.2.2.2.1 (by decide +kernel) ⟨Nat.le_of_ble_eq_true rfl, Nat.le_of_ble_eq_true rfl⟩) hC hS hA (at_recv hK hIt (q := (RJx35411, TJx35411, 4)) rfl) ⟨hIt, hPa⟩ rfl rfl hl.1 (Nat.le_of_ble_eq_true rfl) ⟨by rw [← hcl]; exact (Nat.le_of_ble_eq_true rfl), by rw [← hsl]; exact (Nat.le_of_ble_eq_true rfl)⟩ dX4_digest_306 (fun r9 h9 => lv_cv h9 ?_)
          refine f_eq (tgt := 337) hx hb dX4_digest_311 (by decide) (fun c_20 => ?_) (fun c_20 => ?_)
          · have hW := hW0.nw hkk
            refine lv_lload_n hx hb dX4_digest_337 rfl (lv_at hl 1 rfl) ?_
            refine lv_aload_n hx hb dX4_digest_338 rfl (lv_at hl 2 rfl) ?_
            refine kV_i (A := A) (b := am) (As := []) (rest := .long x :: []) ⟨hx, hb, hml, hown, hts⟩ (mX4_isTrue (A := A) (X := X) (P := P) (k := k) (xa := xa)) (cwV 0 hts (gV tw_7_22 tw_7_24 sel_X4_isTrue tw_1_8 tw_7_25) rfl rfl rfl (by decide +kernel) ⟨Nat.le_of_ble_eq_true rfl, Nat.le_of_ble_eq_true rfl⟩) hC hS hA (hW.recv hK) ⟨ra, pa, tx, hW⟩ rfl rfl hl.1 (Nat.le_of_ble_eq_true rfl) ⟨Nat.le_trans (show CC ≤ 18 by omega) (Nat.le_of_ble_eq_true rfl), Nat.le_trans (show SS9 ≤ 761 by omega) (Nat.le_of_ble_eq_true rfl)⟩ dX4_digest_339 (fun r9 h9 => lv_cv h9 ?_)
            refine kS_i (A := A) (As := [.int (bI true)]) (rest := .long x :: []) ⟨hx, hb, hml, hown, hts⟩ (mX4_one (A := A) ) (va_cwS 1 hts (gS tw_5_26 tw_5_27 tw_1_8 tw_5_28) rfl rfl rfl (by decide +kernel) ⟨Nat.le_of_ble_eq_true rfl, Nat.le_of_ble_eq_true rfl⟩) hC hS hA  trivial rfl rfl hl.1 (Nat.le_of_ble_eq_true rfl) ⟨Nat.le_trans (show CC ≤ 18 by omega) (Nat.le_of_ble_eq_true rfl), Nat.le_trans (show SS9 ≤ 761 by omega) (Nat.le_of_ble_eq_true rfl)⟩ dX4_digest_342 (fun r9 h9 => lv_cv h9 ?_)
            refine lv_i2l hx hb dX4_digest_345 rfl ?_
            refine kS_l (A := A) (As := [.long x, .long ((bI true).toInt64)]) (rest := []) ⟨hx, hb, hml, hown, hts⟩ (mX4_add (A := A) ) (va_cwS 2 hts (gS tw_7_31 tw_7_32 tw_1_8 tw_7_33) rfl rfl rfl (by decide +kernel) ⟨Nat.le_of_ble_eq_true rfl, Nat.le_of_ble_eq_true rfl⟩) hC hS hA trivial rfl rfl hl.1 (Nat.le_of_ble_eq_true rfl) ⟨Nat.le_trans (show CC ≤ 18 by omega) (Nat.le_of_ble_eq_true rfl), Nat.le_trans (show SS9 ≤ 761 by omega) (Nat.le_of_ble_eq_true rfl)⟩ dX4_digest_346 (fun y_21 _ => ?_)
            exact q_l hx hb hr hlocks dX4_digest_349 hS (by omega) (by omega) ⟨ra, pa, tx, hW⟩
          · have hcu : cu < P.length := by have := of_decide_eq_true c_20; omega
            obtain ⟨cap, f9, pq, w2, w3, w4, w5, w6⟩ := hPc cu hcu
            have w2 := at_kp w2 hkk (Nat.not_le_of_lt w2.lt)
            have hedl := w2.lt
            refine lv_aload_n hx hb dX4_digest_314 rfl (lv_at hl 0 rfl) ?_
            have d1 : pa ≠ rv19 := by have := hpl; omega
            have d2 : ed ≠ rv19 := Ne.symm (at_ne_oa hK hIt (r := (RJx35411, TJx35411, 4)) rfl w2 5 rfl)
            refine qR_F (x := xNX) (A := A) (A1 := ow rv19 rv19 H.size) (b := rv19) (As := []) (rest := []) (hK.1 2 _ rfl).2 ⟨hx, hb, hml, hown, hts⟩ (mJx35411_next_0502b (A := ow rv19 rv19 H.size) (lr := lr) (f := f9) (cap := cap) (n := P.length) (cu := cu) (md := md) (Or.inl rfl) hcu w3 (by omega) w5 d1 d2) (va_cwF 0 hts (gF tw_7_69 tw_7_72 tw_7_74 tw_1_28 tw_7_76) rfl rfl rfl hC.2.2.2.2.2.2.2.2.2.2.2.2.2.2.2.2.2.2 (by decide +kernel) ⟨Nat.le_of_ble_eq_true rfl, Nat.le_of_ble_eq_true rfl⟩) hC hS (ow_in (hA _ (by omega)) (hA _ (by omega)) hA hS.1) ow_n (at_recv hK hIt (q := (RJx35411, TJx35411, 4)) rfl) ⟨hIt, hPa, w2⟩ rfl rfl hl.1 (Nat.le_of_ble_eq_true rfl) ⟨by rw [← hcl]; exact (Nat.le_of_ble_eq_true rfl), by rw [← hsl]; exact (Nat.le_of_ble_eq_true rfl)⟩ dX4_digest_315 (fun r9 H9 L9 hP9 hk9 hS => ?_)
            obtain ⟨e9, hIt, -⟩ := hP9
            subst e9
            have hkk2 := hkk.tr (hk9.wk (fun q _ hq => by rcases hq with q1 | q1 | q1; exact q1 ▸ hiz; exact q1 ▸ hiz; exact Nat.le_trans hkk.1 q1))
            have w6 := w6.kp hkk2 (Nat.not_le_of_lt w6.lt)
            refine va_castA (D := G.1) hx hb hown (hts _ tw_5_164) (at_P w6.fst) 0 rfl (findIA hK) dX4_digest_320 ?_
            have hPq := w6.ia hC.2.1.2
            refine lv_astore (lv' := [(4, .ref r9), (3, .ref rv19), (1, .long x), (0, .ref am)]) hx hb dX4_digest_323 hl (by decide) rfl (fun ls hl => ?_)
            refine lv_lload_n hx hb dX4_digest_325 rfl (lv_at hl 2 rfl) ?_
            refine lv_aload hx hb dX4_digest_326 (lv_at hl 0 rfl) ?_
            refine h_ilen hx hb hC.2.1 hPq dX4_digest_328 ?_
            refine lv_i2l hx hb dX4_digest_329 rfl ?_
            refine kS_l (A := A) (As := [.long x, .long ((nI ((P.getD cu []).length)).toInt64)]) (rest := []) ⟨hx, hb, hml, hown, hts⟩ (mX4_add (A := A) ) (va_cwS 2 hts (gS tw_7_31 tw_7_32 tw_1_8 tw_7_33) rfl rfl rfl (by decide +kernel) ⟨Nat.le_of_ble_eq_true rfl, Nat.le_of_ble_eq_true rfl⟩) hC hS hA trivial rfl rfl hl.1 (Nat.le_of_ble_eq_true rfl) ⟨Nat.le_trans (show CC ≤ 18 by omega) (Nat.le_of_ble_eq_true rfl), Nat.le_trans (show SS9 ≤ 761 by omega) (Nat.le_of_ble_eq_true rfl)⟩ dX4_digest_330 (fun y_22 _ => ?_)
            refine lv_lstore_n (lv' := [(1, .long y_22), (4, .ref r9), (3, .ref rv19), (0, .ref am)]) hx hb dX4_digest_333 rfl hl (by decide) rfl (fun ls hl => ?_)
            refine lv_goto (tgt := 305) hx hb dX4_digest_334 (by decide) ?_
            exact ih (cu + 1) (by omega) (by omega) ls H9 L9 _ _ (lv_sub hl [2, 0, 3] rfl) hS hkk2 hIt
        · refine lv_aload_n hx hb dX4_digest_277 rfl (lv_at hl 2 rfl) ?_
          refine lv_iload hx hb dX4_digest_278 (lv_at hl 0 rfl) ?_
          refine h_ild hx hb hC.2.1 hR1 (i := q) (by omega) (by omega) dX4_digest_280 ?_
          refine lv_istore (lv' := [(6, .int (nI ((X 11).getD q 0))), (5, .int (nI q)), (4, .int (nI ((X 11).length))), (3, .ref ra), (1, .long x), (0, .ref am)]) hx hb dX4_digest_281 hl (by decide) rfl (fun ls hl => ?_)
          refine lv_lload_n hx hb dX4_digest_283 rfl (lv_at hl 4 rfl) ?_
          refine lv_iload hx hb dX4_digest_284 (lv_at hl 0 rfl) ?_
          refine lv_i2l hx hb dX4_digest_286 rfl ?_
          refine kS_l (A := A) (As := [.long x, .long ((nI ((X 11).getD q 0)).toInt64)]) (rest := []) ⟨hx, hb, hml, hown, hts⟩ (mX4_add (A := A) ) (va_cwS 2 hts (gS tw_7_31 tw_7_32 tw_1_8 tw_7_33) rfl rfl rfl (by decide +kernel) ⟨Nat.le_of_ble_eq_true rfl, Nat.le_of_ble_eq_true rfl⟩) hC hS hA trivial rfl rfl hl.1 (Nat.le_of_ble_eq_true rfl) ⟨Nat.le_trans (show (5 + 4 * 3) ≤ 18 by omega) (Nat.le_of_ble_eq_true rfl), Nat.le_trans (show (25 + 4 * 183) ≤ 761 by omega) (Nat.le_of_ble_eq_true rfl)⟩ dX4_digest_287 (fun y_23 _ => ?_)
          refine lv_lstore_n (lv' := [(1, .long y_23), (6, .int (nI ((X 11).getD q 0))), (5, .int (nI q)), (4, .int (nI ((X 11).length))), (3, .ref ra), (0, .ref am)]) hx hb dX4_digest_290 rfl hl (by decide) rfl (fun ls hl => ?_)
          refine lv_iinc (v := nI (q + 1)) (lv' := [(5, .int (nI (q + 1))), (1, .long y_23), (6, .int (nI ((X 11).getD q 0))), (4, .int (nI ((X 11).length))), (3, .ref ra), (0, .ref am)]) hx hb dX4_digest_291 hl (k := 2) rfl (nI_add q 1) (by decide) rfl (fun ls hl => ?_)
          refine lv_goto (tgt := 270) hx hb dX4_digest_294 (by decide) ?_
          exact ih (q + 1) (by omega) (by omega) ls _ (lv_sub hl [0, 3, 4, 1, 5] rfl)
      · have hXa := hW.txs
        refine lv_aload_n hx hb dX4_digest_147 rfl (lv_at hl 2 rfl) ?_
        refine lv_iload hx hb dX4_digest_148 (lv_at hl 0 rfl) ?_
        refine h_aaldI (D := G.1) hx hb hK 4 hW.txs rfl (vp_in_nI (n := j) (N := 4) (by omega) (by omega)) dX4_digest_150 ?_
        refine v_cv (show va_rf _ = .ref (tx j) from by rw [nI_clamp (n := j) (by omega)]; rfl) ?_
        have hTj := (hW.tx (j := j) (by omega)).ia hC.2.1.2
        have x60j := hW.2.2.1 j (Or.inl (by omega))
        have j60 := x60j.2
        refine lv_astore (lv' := [(6, .ref (tx j)), (5, .int (nI j)), (4, .int (nI 4)), (3, .ref xa), (1, .long x), (0, .ref am)]) hx hb dX4_digest_151 hl (by decide) rfl (fun ls hl => ?_)
        refine lv_aload_n hx hb dX4_digest_153 rfl (lv_at hl 5 rfl) ?_
        refine va_get (D := G.1) (ci := 8) (C := RX4) (T := TX4) (N := 5) hx hb hts inX4 hown hK (at_P hO) 0 rfl rfl 1 (by decide) (hts _ tw_4_173) (fun _ h9 => h9) rfl dX4_digest_154 ?_
        refine lv_astore (lv' := [(7, .ref xa), (6, .ref (tx j)), (5, .int (nI j)), (4, .int (nI 4)), (3, .ref xa), (1, .long x), (0, .ref am)]) hx hb dX4_digest_157 hl (by decide) rfl (fun ls hl => ?_)
        refine lv_aload hx hb dX4_digest_159 (lv_at hl 0 rfl) ?_
        refine va_alen hx hb hK (at_P hXa) 0 4 (v := nI 4) rfl rfl rfl dX4_digest_161 ?_
        refine lv_istore (lv' := [(8, .int (nI 4)), (7, .ref xa), (6, .ref (tx j)), (5, .int (nI j)), (4, .int (nI 4)), (3, .ref xa), (1, .long x), (0, .ref am)]) hx hb dX4_digest_162 hl (by decide) rfl (fun ls hl => ?_)
        refine lv_iconst (v := nI 0) hx hb dX4_digest_164 (by decide) ?_
        refine lv_istore (lv' := [(9, .int (nI 0)), (8, .int (nI 4)), (7, .ref xa), (6, .ref (tx j)), (5, .int (nI j)), (4, .int (nI 4)), (3, .ref xa), (1, .long x), (0, .ref am)]) hx hb dX4_digest_165 hl (by decide) rfl (fun ls hl => ?_)
        have ihj := ih
        clear ih
        have hl : lv_has ls 11 [(9, .int (nI 0)), (8, .int (nI 4)), (7, .ref xa), (6, .ref (tx j)), (5, .int (nI j)), (4, .int (nI 4)), (3, .ref xa), (1, .long x), (0, .ref am)] := (lv_sub hl [0, 1, 2, 3, 4, 5, 6, 7, 8] rfl)
        refine nloop (P := fun i => ∀ (ls : Array Slot) (x : Int64), lv_has ls 11 [(9, .int (nI i)), (8, .int (nI 4)), (7, .ref xa), (6, .ref (tx j)), (5, .int (nI j)), (4, .int (nI 4)), (3, .ref xa), (1, .long x), (0, .ref am)] → W p l e rmX4_digest s m [.ref am].toArray below meth c H L (5 + 4 * 3) (25 + 4 * 183) (MQ below (qL A (fun _ H => MW G A am xa X P k 0 H)) [.ref am].toArray s 18 761 (A)) (F0 m 167 ls [])) 4 ?_ 0 (Nat.zero_le _) ls x hl 
        clear hl
        intro i hi ih ls x hl
        refine lv_iload hx hb dX4_digest_167 (lv_at hl 0 rfl) ?_
        refine lv_iload hx hb dX4_digest_169 (lv_at hl 1 rfl) ?_
        refine b_ge (tgt := 252) hx hb dX4_digest_171 (by decide) (by omega) (by omega) (fun c_24 => ?_) (fun c_24 => ?_)
        · refine lv_iinc (v := nI (j + 1)) (lv' := [(5, .int (nI (j + 1))), (9, .int (nI i)), (8, .int (nI 4)), (7, .ref xa), (6, .ref (tx j)), (4, .int (nI 4)), (3, .ref xa), (1, .long x), (0, .ref am)]) hx hb dX4_digest_252 hl (k := 4) rfl (nI_add j 1) (by decide) rfl (fun ls hl => ?_)
          refine lv_goto (tgt := 140) hx hb dX4_digest_255 (by decide) ?_
          exact ihj (j + 1) (by omega) (by omega) ls _ (lv_sub hl [0, 5, 6, 7, 8] rfl)
        · refine lv_aload hx hb dX4_digest_174 (lv_at hl 2 rfl) ?_
          refine lv_iload hx hb dX4_digest_176 (lv_at hl 0 rfl) ?_
          refine h_aaldI (D := G.1) hx hb hK 4 hW.txs rfl (vp_in_nI (n := i) (N := 4) (by omega) (by omega)) dX4_digest_178 ?_
          refine v_cv (show va_rf _ = .ref (tx i) from by rw [nI_clamp (n := i) (by omega)]; rfl) ?_
          have hTi := (hW.tx (j := i) (by omega)).ia hC.2.1.2
          have x60i := hW.2.2.1 i (Or.inl (by omega))
          have i60 := x60i.2
          refine lv_astore (lv' := [(10, .ref (tx i)), (9, .int (nI i)), (8, .int (nI 4)), (7, .ref xa), (6, .ref (tx j)), (5, .int (nI j)), (4, .int (nI 4)), (3, .ref xa), (1, .long x), (0, .ref am)]) hx hb dX4_digest_179 hl (by decide) rfl (fun ls hl => ?_)
          refine lv_lload_n hx hb dX4_digest_181 rfl (lv_at hl 8 rfl) ?_
          refine lv_aload hx hb dX4_digest_182 (lv_at hl 4 rfl) ?_
          refine lv_aload hx hb dX4_digest_184 (lv_at hl 0 rfl) ?_
          refine kS_i (A := A) (As := [.ref (tx j), .ref (tx i)]) (rest := .long x :: []) ⟨hx, hb, hml, hown, hts⟩ (mX4_first (A := A) (t := X j) (u := X i) x60j.1 x60i.1 (by omega) (by omega)) (va_cwS 2 hts (gS tw_6_172 tw_6_173 tw_1_8 tw_6_174) rfl rfl rfl (by decide +kernel) ⟨Nat.le_of_ble_eq_true rfl, Nat.le_of_ble_eq_true rfl⟩) hC hS hA  ⟨hTj, hTi⟩ rfl rfl hl.1 (Nat.le_of_ble_eq_true rfl) ⟨Nat.le_trans (show (5 + 4 * 3) ≤ 18 by omega) (Nat.le_of_ble_eq_true rfl), Nat.le_trans (show (25 + 4 * 183) ≤ 761 by omega) (Nat.le_of_ble_eq_true rfl)⟩ dX4_digest_186 (fun r_25 hr_25 => ?_)
          refine lv_i2l hx hb dX4_digest_189 rfl ?_
          refine kS_l (A := A) (As := [.long x, .long r_25.toInt64]) (rest := []) ⟨hx, hb, hml, hown, hts⟩ (mX4_add (A := A) ) (va_cwS 2 hts (gS tw_7_31 tw_7_32 tw_1_8 tw_7_33) rfl rfl rfl (by decide +kernel) ⟨Nat.le_of_ble_eq_true rfl, Nat.le_of_ble_eq_true rfl⟩) hC hS hA trivial rfl rfl hl.1 (Nat.le_of_ble_eq_true rfl) ⟨Nat.le_trans (show (5 + 4 * 3) ≤ 18 by omega) (Nat.le_of_ble_eq_true rfl), Nat.le_trans (show (25 + 4 * 183) ≤ 761 by omega) (Nat.le_of_ble_eq_true rfl)⟩ dX4_digest_190 (fun y_26 _ => ?_)
          refine lv_aload hx hb dX4_digest_193 (lv_at hl 4 rfl) ?_
          refine lv_aload hx hb dX4_digest_195 (lv_at hl 0 rfl) ?_
          refine kS_i (A := A) (As := [.ref (tx j), .ref (tx i)]) (rest := .long y_26 :: []) ⟨hx, hb, hml, hown, hts⟩ (mX4_last (A := A) (t := X j) (u := X i) x60j.1 x60i.1 (by omega) (by omega)) (va_cwS 2 hts (gS tw_6_185 tw_6_186 tw_1_8 tw_6_187) rfl rfl rfl (by decide +kernel) ⟨Nat.le_of_ble_eq_true rfl, Nat.le_of_ble_eq_true rfl⟩) hC hS hA  ⟨hTj, hTi⟩ rfl rfl hl.1 (Nat.le_of_ble_eq_true rfl) ⟨Nat.le_trans (show (5 + 4 * 3) ≤ 18 by omega) (Nat.le_of_ble_eq_true rfl), Nat.le_trans (show (25 + 4 * 183) ≤ 761 by omega) (Nat.le_of_ble_eq_true rfl)⟩ dX4_digest_197 (fun r_27 hr_27 => ?_)
          refine lv_i2l hx hb dX4_digest_200 rfl ?_
          refine kS_l (A := A) (As := [.long y_26, .long r_27.toInt64]) (rest := []) ⟨hx, hb, hml, hown, hts⟩ (mX4_add (A := A) ) (va_cwS 2 hts (gS tw_7_31 tw_7_32 tw_1_8 tw_7_33) rfl rfl rfl (by decide +kernel) ⟨Nat.le_of_ble_eq_true rfl, Nat.le_of_ble_eq_true rfl⟩) hC hS hA trivial rfl rfl hl.1 (Nat.le_of_ble_eq_true rfl) ⟨Nat.le_trans (show (5 + 4 * 3) ≤ 18 by omega) (Nat.le_of_ble_eq_true rfl), Nat.le_trans (show (25 + 4 * 183) ≤ 761 by omega) (Nat.le_of_ble_eq_true rfl)⟩ dX4_digest_201 (fun y_28 _ => ?_)
          refine lv_lstore_n (lv' := [(1, .long y_28), (10, .ref (tx i)), (9, .int (nI i)), (8, .int (nI 4)), (7, .ref xa), (6, .ref (tx j)), (5, .int (nI j)), (4, .int (nI 4)), (3, .ref xa), (0, .ref am)]) hx hb dX4_digest_204 rfl hl (by decide) rfl (fun ls hl => ?_)
          refine lv_lload_n hx hb dX4_digest_205 rfl (lv_at hl 0 rfl) ?_
          refine lv_aload hx hb dX4_digest_206 (lv_at hl 5 rfl) ?_
          refine lv_aload hx hb dX4_digest_208 (lv_at hl 1 rfl) ?_
          refine lv_iconst (v := nI 0) hx hb dX4_digest_210 (by decide) ?_
          refine kS_i (A := A) (As := [.ref (tx j), .ref (tx i), .int (bI false)]) (rest := .long y_28 :: []) ⟨hx, hb, hml, hown, hts⟩ (mX4_order (A := A) (t := X j) (u := X i) (b0 := false) x60j.1 x60i.1 (by omega) (by omega)) (va_cwS 3 hts (gS tw_6_227 tw_6_228 tw_1_8 tw_6_229) rfl rfl rfl (by decide +kernel) ⟨Nat.le_of_ble_eq_true rfl, Nat.le_of_ble_eq_true rfl⟩) hC hS hA  ⟨hTj, hTi⟩ rfl rfl hl.1 (Nat.le_of_ble_eq_true rfl) ⟨Nat.le_trans (show (5 + 4 * 3) ≤ 18 by omega) (Nat.le_of_ble_eq_true rfl), Nat.le_trans (show (25 + 4 * 183) ≤ 761 by omega) (Nat.le_of_ble_eq_true rfl)⟩ dX4_digest_211 (fun r_29 hr_29 => ?_)
          refine lv_i2l hx hb dX4_digest_214 rfl ?_
          refine kS_l (A := A) (As := [.long y_28, .long r_29.toInt64]) (rest := []) ⟨hx, hb, hml, hown, hts⟩ (mX4_add (A := A) ) (va_cwS 2 hts (gS tw_7_31 tw_7_32 tw_1_8 tw_7_33) rfl rfl rfl (by decide +kernel) ⟨Nat.le_of_ble_eq_true rfl, Nat.le_of_ble_eq_true rfl⟩) hC hS hA trivial rfl rfl hl.1 (Nat.le_of_ble_eq_true rfl) ⟨Nat.le_trans (show (5 + 4 * 3) ≤ 18 by omega) (Nat.le_of_ble_eq_true rfl), Nat.le_trans (show (25 + 4 * 183) ≤ 761 by omega) (Nat.le_of_ble_eq_true rfl)⟩ dX4_digest_215 (fun y_30 _ => ?_)
          refine lv_aload hx hb dX4_digest_218 (lv_at hl 5 rfl) ?_
          refine lv_aload hx hb dX4_digest_220 (lv_at hl 1 rfl) ?_
          refine lv_iconst (v := nI 1) hx hb dX4_digest_222 (by decide) ?_
          refine kS_i (A := A) (As := [.ref (tx j), .ref (tx i), .int (bI true)]) (rest := .long y_30 :: []) ⟨hx, hb, hml, hown, hts⟩ (mX4_order (A := A) (t := X j) (u := X i) (b0 := true) x60j.1 x60i.1 (by omega) (by omega)) (va_cwS 3 hts (gS tw_6_227 tw_6_228 tw_1_8 tw_6_229) rfl rfl rfl (by decide +kernel) ⟨Nat.le_of_ble_eq_true rfl, Nat.le_of_ble_eq_true rfl⟩) hC hS hA  ⟨hTj, hTi⟩ rfl rfl hl.1 (Nat.le_of_ble_eq_true rfl) ⟨Nat.le_trans (show (5 + 4 * 3) ≤ 18 by omega) (Nat.le_of_ble_eq_true rfl), Nat.le_trans (show (25 + 4 * 183) ≤ 761 by omega) (Nat.le_of_ble_eq_true rfl)⟩ dX4_digest_223 (fun r_31 hr_31 => ?_)
          refine lv_i2l hx hb dX4_digest_226 rfl ?_
          refine kS_l (A := A) (As := [.long y_30, .long r_31.toInt64]) (rest := []) ⟨hx, hb, hml, hown, hts⟩ (mX4_add (A := A) ) (va_cwS 2 hts (gS tw_7_31 tw_7_32 tw_1_8 tw_7_33) rfl rfl rfl (by decide +kernel) ⟨Nat.le_of_ble_eq_true rfl, Nat.le_of_ble_eq_true rfl⟩) hC hS hA trivial rfl rfl hl.1 (Nat.le_of_ble_eq_true rfl) ⟨Nat.le_trans (show (5 + 4 * 3) ≤ 18 by omega) (Nat.le_of_ble_eq_true rfl), Nat.le_trans (show (25 + 4 * 183) ≤ 761 by omega) (Nat.le_of_ble_eq_true rfl)⟩ dX4_digest_227 (fun y_32 _ => ?_)
          refine lv_aload hx hb dX4_digest_230 (lv_at hl 5 rfl) ?_
          refine lv_aload hx hb dX4_digest_232 (lv_at hl 1 rfl) ?_
          refine lv_iconst (v := nI 1) hx hb dX4_digest_234 (by decide) ?_
          refine kS_i (A := A) (As := [.ref (tx j), .ref (tx i), .int (bI true)]) (rest := .long y_32 :: []) ⟨hx, hb, hml, hown, hts⟩ (mX4_isSame (A := A) (t := X j) (u := X i) (b0 := true) x60j.1 x60i.1 (by omega) (by omega)) (va_cwS 3 hts (gS tw_6_220 tw_6_221 tw_1_8 tw_6_222) rfl rfl rfl (by decide +kernel) ⟨Nat.le_of_ble_eq_true rfl, Nat.le_of_ble_eq_true rfl⟩) hC hS hA  ⟨hTj, hTi⟩ rfl rfl hl.1 (Nat.le_of_ble_eq_true rfl) ⟨Nat.le_trans (show (5 + 4 * 3) ≤ 18 by omega) (Nat.le_of_ble_eq_true rfl), Nat.le_trans (show (25 + 4 * 183) ≤ 761 by omega) (Nat.le_of_ble_eq_true rfl)⟩ dX4_digest_235 (fun r_33 hr_33 => ?_)
          obtain ⟨v9, hv9, rfl⟩ := hr_33
          refine kS_i (A := A) (As := [.int (bI v9)]) (rest := .long y_32 :: []) ⟨hx, hb, hml, hown, hts⟩ (mX4_one (A := A) ) (va_cwS 1 hts (gS tw_5_26 tw_5_27 tw_1_8 tw_5_28) rfl rfl rfl (by decide +kernel) ⟨Nat.le_of_ble_eq_true rfl, Nat.le_of_ble_eq_true rfl⟩) hC hS hA  trivial rfl rfl hl.1 (Nat.le_of_ble_eq_true rfl) ⟨Nat.le_trans (show (5 + 4 * 3) ≤ 18 by omega) (Nat.le_of_ble_eq_true rfl), Nat.le_trans (show (25 + 4 * 183) ≤ 761 by omega) (Nat.le_of_ble_eq_true rfl)⟩ dX4_digest_238 (fun r9 h9 => lv_cv h9 ?_)
          refine lv_i2l hx hb dX4_digest_241 rfl ?_
          refine kS_l (A := A) (As := [.long y_32, .long ((bI v9).toInt64)]) (rest := []) ⟨hx, hb, hml, hown, hts⟩ (mX4_add (A := A) ) (va_cwS 2 hts (gS tw_7_31 tw_7_32 tw_1_8 tw_7_33) rfl rfl rfl (by decide +kernel) ⟨Nat.le_of_ble_eq_true rfl, Nat.le_of_ble_eq_true rfl⟩) hC hS hA trivial rfl rfl hl.1 (Nat.le_of_ble_eq_true rfl) ⟨Nat.le_trans (show (5 + 4 * 3) ≤ 18 by omega) (Nat.le_of_ble_eq_true rfl), Nat.le_trans (show (25 + 4 * 183) ≤ 761 by omega) (Nat.le_of_ble_eq_true rfl)⟩ dX4_digest_242 (fun y_34 _ => ?_)
          refine lv_lstore_n (lv' := [(1, .long y_34), (10, .ref (tx i)), (9, .int (nI i)), (8, .int (nI 4)), (7, .ref xa), (6, .ref (tx j)), (5, .int (nI j)), (4, .int (nI 4)), (3, .ref xa), (0, .ref am)]) hx hb dX4_digest_245 rfl hl (by decide) rfl (fun ls hl => ?_)
          refine lv_iinc (v := nI (i + 1)) (lv' := [(9, .int (nI (i + 1))), (1, .long y_34), (10, .ref (tx i)), (8, .int (nI 4)), (7, .ref xa), (6, .ref (tx j)), (5, .int (nI j)), (4, .int (nI 4)), (3, .ref xa), (0, .ref am)]) hx hb dX4_digest_246 hl (k := 2) rfl (nI_add i 1) (by decide) rfl (fun ls hl => ?_)
          refine lv_goto (tgt := 167) hx hb dX4_digest_249 (by decide) ?_
          exact ih (i + 1) (by omega) (by omega) ls _ (lv_sub hl [0, 3, 4, 5, 6, 7, 8, 1, 9] rfl)
    · refine lv_aload_n hx hb dX4_digest_52 rfl (lv_at hl 2 rfl) ?_
      refine lv_iload hx hb dX4_digest_53 (lv_at hl 0 rfl) ?_
      refine h_aaldI (D := G.1) hx hb hK 4 hW.txs rfl (vp_in_nI (n := j) (N := 4) (by omega) (by omega)) dX4_digest_55 ?_
      refine v_cv (show va_rf _ = .ref (tx j) from by rw [nI_clamp (n := j) (by omega)]; rfl) ?_
      have hTj := (hW.tx (j := j) (by omega)).ia hC.2.1.2
      have x60j := hW.2.2.1 j (Or.inl (by omega))
      have j60 := x60j.2
      refine lv_astore (lv' := [(6, .ref (tx j)), (5, .int (nI j)), (4, .int (nI 4)), (3, .ref xa), (1, .long x), (0, .ref am)]) hx hb dX4_digest_56 hl (by decide) rfl (fun ls hl => ?_)
      refine lv_lload_n hx hb dX4_digest_58 rfl (lv_at hl 4 rfl) ?_
      refine lv_aload hx hb dX4_digest_59 (lv_at hl 0 rfl) ?_
      refine kS_i (A := A) (As := [.ref (tx j)]) (rest := .long x :: []) ⟨hx, hb, hml, hown, hts⟩ (mX4_hash (A := A) (t := X j) (by omega)) (va_cwS 1 hts (gS tw_6_165 tw_6_166 tw_1_8 tw_6_167) rfl rfl rfl (by decide +kernel) ⟨Nat.le_of_ble_eq_true rfl, Nat.le_of_ble_eq_true rfl⟩) hC hS hA  hTj rfl rfl hl.1 (Nat.le_of_ble_eq_true rfl) ⟨Nat.le_trans (show (5 + j * 3) ≤ 18 by omega) (Nat.le_of_ble_eq_true rfl), Nat.le_trans (show (25 + j * 183) ≤ 761 by omega) (Nat.le_of_ble_eq_true rfl)⟩ dX4_digest_61 (fun r9 h9 => lv_cv h9 ?_)
      refine lv_i2l hx hb dX4_digest_64 rfl ?_
      refine kS_l (A := A) (As := [.long x, .long ((hashL (X j)).toInt64)]) (rest := []) ⟨hx, hb, hml, hown, hts⟩ (mX4_add (A := A) ) (va_cwS 2 hts (gS tw_7_31 tw_7_32 tw_1_8 tw_7_33) rfl rfl rfl (by decide +kernel) ⟨Nat.le_of_ble_eq_true rfl, Nat.le_of_ble_eq_true rfl⟩) hC hS hA trivial rfl rfl hl.1 (Nat.le_of_ble_eq_true rfl) ⟨Nat.le_trans (show (5 + j * 3) ≤ 18 by omega) (Nat.le_of_ble_eq_true rfl), Nat.le_trans (show (25 + j * 183) ≤ 761 by omega) (Nat.le_of_ble_eq_true rfl)⟩ dX4_digest_65 (fun y_35 _ => ?_)
      refine lv_aload hx hb dX4_digest_68 (lv_at hl 0 rfl) ?_
      refine h_ilen hx hb hC.2.1 hTj dX4_digest_70 ?_
      refine lv_i2l hx hb dX4_digest_71 rfl ?_
      refine kS_l (A := A) (As := [.long y_35, .long ((nI ((X j).length)).toInt64)]) (rest := []) ⟨hx, hb, hml, hown, hts⟩ (mX4_add (A := A) ) (va_cwS 2 hts (gS tw_7_31 tw_7_32 tw_1_8 tw_7_33) rfl rfl rfl (by decide +kernel) ⟨Nat.le_of_ble_eq_true rfl, Nat.le_of_ble_eq_true rfl⟩) hC hS hA trivial rfl rfl hl.1 (Nat.le_of_ble_eq_true rfl) ⟨Nat.le_trans (show (5 + j * 3) ≤ 18 by omega) (Nat.le_of_ble_eq_true rfl), Nat.le_trans (show (25 + j * 183) ≤ 761 by omega) (Nat.le_of_ble_eq_true rfl)⟩ dX4_digest_72 (fun y_36 _ => ?_)
      refine lv_aload hx hb dX4_digest_75 (lv_at hl 0 rfl) ?_
      refine lv_iconst (v := nI 1) hx hb dX4_digest_77 (by decide) ?_
      have hra := hW.row.lt
      have hTj := (hW.tx (j := j) (by omega)).ia hC.2.1.2
      have x60j := hW.2.2.1 j (Or.inl (by omega))
      have j60 := x60j.2
      refine qR_S (A := A) (A1 := nw H.size)  (As := [.ref (tx j), .int (bI true)]) (rest := .long y_36 :: []) ⟨hx, hb, hml, hown, hts⟩ (mX4_trimmed (A := nw H.size) (sz := H.size) (t := X j) (b := true) x60j.1 (by omega)) (va_cwS 2 hts (gS tw_5_9 tw_5_10 tw_1_8 tw_5_11) rfl rfl rfl (by decide +kernel) ⟨Nat.le_of_ble_eq_true rfl, Nat.le_of_ble_eq_true rfl⟩) hC hS (nw_in hA hS.1) nw_n  ⟨rfl, hTj⟩ rfl rfl hl.1 (Nat.le_of_ble_eq_true rfl) ⟨Nat.le_trans (show (5 + j * 3) + 1 ≤ 18 by omega) (Nat.le_of_ble_eq_true rfl), Nat.le_trans (show (25 + j * 183) + 61 ≤ 761 by omega) (Nat.le_of_ble_eq_true rfl)⟩ dX4_digest_78 (fun rv37 H37 L37 hP37 hk37 hS => ?_)
      have hZ37 := hS.1
      obtain ⟨hsz9, e9, he9, hR9⟩ := hP37
      have hW := hW.nw hk37
      have hR8 := hR9.ia hC.2.1.2
      have hcle := cutL_le (X j) (tbL true (X j)) e9
      refine h_ilen hx hb hC.2.1 hR8 dX4_digest_81 ?_
      refine z_ne (tgt := 89) hx hb dX4_digest_82 (by decide) (by omega) (fun c_38 => ?_) (fun c_38 => ?_)
      · refine lv_iconst (v := nI 0) hx hb dX4_digest_89 (by decide) ?_
        refine kS_i (A := A) (As := [.int (bI false)]) (rest := .long y_36 :: []) ⟨hx, hb, hml, hown, hts⟩ (mX4_one (A := A) ) (va_cwS 1 hts (gS tw_5_26 tw_5_27 tw_1_8 tw_5_28) rfl rfl rfl (by decide +kernel) ⟨Nat.le_of_ble_eq_true rfl, Nat.le_of_ble_eq_true rfl⟩) hC hS hA  trivial rfl rfl hl.1 (Nat.le_of_ble_eq_true rfl) ⟨Nat.le_trans (show ((5 + j * 3) + 1) ≤ 18 by omega) (Nat.le_of_ble_eq_true rfl), Nat.le_trans (show ((25 + j * 183) + 61) ≤ 761 by omega) (Nat.le_of_ble_eq_true rfl)⟩ dX4_digest_90 (fun r9 h9 => lv_cv h9 ?_)
        refine lv_i2l hx hb dX4_digest_93 rfl ?_
        refine kS_l (A := A) (As := [.long y_36, .long ((bI false).toInt64)]) (rest := []) ⟨hx, hb, hml, hown, hts⟩ (mX4_add (A := A) ) (va_cwS 2 hts (gS tw_7_31 tw_7_32 tw_1_8 tw_7_33) rfl rfl rfl (by decide +kernel) ⟨Nat.le_of_ble_eq_true rfl, Nat.le_of_ble_eq_true rfl⟩) hC hS hA trivial rfl rfl hl.1 (Nat.le_of_ble_eq_true rfl) ⟨Nat.le_trans (show ((5 + j * 3) + 1) ≤ 18 by omega) (Nat.le_of_ble_eq_true rfl), Nat.le_trans (show ((25 + j * 183) + 61) ≤ 761 by omega) (Nat.le_of_ble_eq_true rfl)⟩ dX4_digest_94 (fun y_39 _ => ?_)
        refine lv_lstore_n (lv' := [(1, .long y_39), (6, .ref (tx j)), (5, .int (nI j)), (4, .int (nI 4)), (3, .ref xa), (0, .ref am)]) hx hb dX4_digest_97 rfl hl (by decide) rfl (fun ls hl => ?_)
        refine lv_lload_n hx hb dX4_digest_98 rfl (lv_at hl 0 rfl) ?_
        refine lv_aload hx hb dX4_digest_99 (lv_at hl 1 rfl) ?_
        refine lv_iconst (v := nI 0) hx hb dX4_digest_101 (by decide) ?_
        have hra := hW.row.lt
        have hTj := (hW.tx (j := j) (by omega)).ia hC.2.1.2
        have x60j := hW.2.2.1 j (Or.inl (by omega))
        have j60 := x60j.2
        refine qR_S (A := A) (A1 := nw H37.size)  (As := [.ref (tx j), .int (bI false)]) (rest := .long y_39 :: []) ⟨hx, hb, hml, hown, hts⟩ (mX4_trimmed (A := nw H37.size) (sz := H37.size) (t := X j) (b := false) x60j.1 (by omega)) (va_cwS 2 hts (gS tw_5_9 tw_5_10 tw_1_8 tw_5_11) rfl rfl rfl (by decide +kernel) ⟨Nat.le_of_ble_eq_true rfl, Nat.le_of_ble_eq_true rfl⟩) hC hS (nw_in hA hS.1) nw_n  ⟨rfl, hTj⟩ rfl rfl hl.1 (Nat.le_of_ble_eq_true rfl) ⟨Nat.le_trans (show ((5 + j * 3) + 1) + 1 ≤ 18 by omega) (Nat.le_of_ble_eq_true rfl), Nat.le_trans (show ((25 + j * 183) + 61) + 61 ≤ 761 by omega) (Nat.le_of_ble_eq_true rfl)⟩ dX4_digest_102 (fun rv40 H40 L40 hP40 hk40 hS => ?_)
        have hZ40 := hS.1
        obtain ⟨hsz9, e9, he9, hR9⟩ := hP40
        have hW := hW.nw hk40
        have hR8 := hR9.ia hC.2.1.2
        have hcle := cutL_le (X j) (tbL false (X j)) e9
        refine h_ilen hx hb hC.2.1 hR8 dX4_digest_105 ?_
        refine lv_i2l hx hb dX4_digest_106 rfl ?_
        refine kS_l (A := A) (As := [.long y_39, .long ((nI ((cutL (X j) (tbL false (X j)) e9).length)).toInt64)]) (rest := []) ⟨hx, hb, hml, hown, hts⟩ (mX4_add (A := A) ) (va_cwS 2 hts (gS tw_7_31 tw_7_32 tw_1_8 tw_7_33) rfl rfl rfl (by decide +kernel) ⟨Nat.le_of_ble_eq_true rfl, Nat.le_of_ble_eq_true rfl⟩) hC hS hA trivial rfl rfl hl.1 (Nat.le_of_ble_eq_true rfl) ⟨Nat.le_trans (show (((5 + j * 3) + 1) + 1) ≤ 18 by omega) (Nat.le_of_ble_eq_true rfl), Nat.le_trans (show (((25 + j * 183) + 61) + 61) ≤ 761 by omega) (Nat.le_of_ble_eq_true rfl)⟩ dX4_digest_107 (fun y_41 _ => ?_)
        refine lv_aload hx hb dX4_digest_110 (lv_at hl 1 rfl) ?_
        refine lv_iconst (v := nI 1) hx hb dX4_digest_112 (by decide) ?_
        have hra := hW.row.lt
        have hTj := (hW.tx (j := j) (by omega)).ia hC.2.1.2
        have x60j := hW.2.2.1 j (Or.inl (by omega))
        have j60 := x60j.2
        refine qR_S (A := A) (A1 := nw H40.size)  (As := [.ref (tx j), .int (bI true)]) (rest := .long y_41 :: []) ⟨hx, hb, hml, hown, hts⟩ (mX4_trimmed (A := nw H40.size) (sz := H40.size) (t := X j) (b := true) x60j.1 (by omega)) (va_cwS 2 hts (gS tw_5_9 tw_5_10 tw_1_8 tw_5_11) rfl rfl rfl (by decide +kernel) ⟨Nat.le_of_ble_eq_true rfl, Nat.le_of_ble_eq_true rfl⟩) hC hS (nw_in hA hS.1) nw_n  ⟨rfl, hTj⟩ rfl rfl hl.1 (Nat.le_of_ble_eq_true rfl) ⟨Nat.le_trans (show (((5 + j * 3) + 1) + 1) + 1 ≤ 18 by omega) (Nat.le_of_ble_eq_true rfl), Nat.le_trans (show (((25 + j * 183) + 61) + 61) + 61 ≤ 761 by omega) (Nat.le_of_ble_eq_true rfl)⟩ dX4_digest_113 (fun rv42 H42 L42 hP42 hk42 hS => ?_)
        have hZ42 := hS.1
        obtain ⟨hsz9, e9, he9, hR9⟩ := hP42
        have hW := hW.nw hk42
        have hR8 := hR9.ia hC.2.1.2
        have hcle := cutL_le (X j) (tbL true (X j)) e9
        refine h_ilen hx hb hC.2.1 hR8 dX4_digest_116 ?_
        refine lv_i2l hx hb dX4_digest_117 rfl ?_
        refine kS_l (A := A) (As := [.long y_41, .long ((nI ((cutL (X j) (tbL true (X j)) e9).length)).toInt64)]) (rest := []) ⟨hx, hb, hml, hown, hts⟩ (mX4_add (A := A) ) (va_cwS 2 hts (gS tw_7_31 tw_7_32 tw_1_8 tw_7_33) rfl rfl rfl (by decide +kernel) ⟨Nat.le_of_ble_eq_true rfl, Nat.le_of_ble_eq_true rfl⟩) hC hS hA trivial rfl rfl hl.1 (Nat.le_of_ble_eq_true rfl) ⟨Nat.le_trans (show ((((5 + j * 3) + 1) + 1) + 1) ≤ 18 by omega) (Nat.le_of_ble_eq_true rfl), Nat.le_trans (show ((((25 + j * 183) + 61) + 61) + 61) ≤ 761 by omega) (Nat.le_of_ble_eq_true rfl)⟩ dX4_digest_118 (fun y_43 _ => ?_)
        refine lv_lstore_n (lv' := [(1, .long y_43), (6, .ref (tx j)), (5, .int (nI j)), (4, .int (nI 4)), (3, .ref xa), (0, .ref am)]) hx hb dX4_digest_121 rfl hl (by decide) rfl (fun ls hl => ?_)
        refine lv_iinc (v := nI (j + 1)) (lv' := [(5, .int (nI (j + 1))), (1, .long y_43), (6, .ref (tx j)), (4, .int (nI 4)), (3, .ref xa), (0, .ref am)]) hx hb dX4_digest_122 hl (k := 2) rfl (nI_add j 1) (by decide) rfl (fun ls hl => ?_)
        refine lv_goto (tgt := 45) hx hb dX4_digest_125 (by decide) ?_
        refine W.widen (k := 5 + (j + 1) * 3) (n := 25 + (j + 1) * 183) (by omega) (by omega) ?_
        exact ih (j + 1) (by omega) (by omega) ls H42 L42 _ (lv_sub hl [0, 3, 4, 1, 5] rfl) hS hW
      · refine lv_iconst (v := nI 1) hx hb dX4_digest_85 (by decide) ?_
        refine lv_goto (tgt := 90) hx hb dX4_digest_86 (by decide) ?_
        refine kS_i (A := A) (As := [.int (bI true)]) (rest := .long y_36 :: []) ⟨hx, hb, hml, hown, hts⟩ (mX4_one (A := A) ) (va_cwS 1 hts (gS tw_5_26 tw_5_27 tw_1_8 tw_5_28) rfl rfl rfl (by decide +kernel) ⟨Nat.le_of_ble_eq_true rfl, Nat.le_of_ble_eq_true rfl⟩) hC hS hA  trivial rfl rfl hl.1 (Nat.le_of_ble_eq_true rfl) ⟨Nat.le_trans (show ((5 + j * 3) + 1) ≤ 18 by omega) (Nat.le_of_ble_eq_true rfl), Nat.le_trans (show ((25 + j * 183) + 61) ≤ 761 by omega) (Nat.le_of_ble_eq_true rfl)⟩ dX4_digest_90 (fun r9 h9 => lv_cv h9 ?_)
        refine lv_i2l hx hb dX4_digest_93 rfl ?_
        refine kS_l (A := A) (As := [.long y_36, .long ((bI true).toInt64)]) (rest := []) ⟨hx, hb, hml, hown, hts⟩ (mX4_add (A := A) ) (va_cwS 2 hts (gS tw_7_31 tw_7_32 tw_1_8 tw_7_33) rfl rfl rfl (by decide +kernel) ⟨Nat.le_of_ble_eq_true rfl, Nat.le_of_ble_eq_true rfl⟩) hC hS hA trivial rfl rfl hl.1 (Nat.le_of_ble_eq_true rfl) ⟨Nat.le_trans (show ((5 + j * 3) + 1) ≤ 18 by omega) (Nat.le_of_ble_eq_true rfl), Nat.le_trans (show ((25 + j * 183) + 61) ≤ 761 by omega) (Nat.le_of_ble_eq_true rfl)⟩ dX4_digest_94 (fun y_44 _ => ?_)
        refine lv_lstore_n (lv' := [(1, .long y_44), (6, .ref (tx j)), (5, .int (nI j)), (4, .int (nI 4)), (3, .ref xa), (0, .ref am)]) hx hb dX4_digest_97 rfl hl (by decide) rfl (fun ls hl => ?_)
        refine lv_lload_n hx hb dX4_digest_98 rfl (lv_at hl 0 rfl) ?_
        refine lv_aload hx hb dX4_digest_99 (lv_at hl 1 rfl) ?_
        refine lv_iconst (v := nI 0) hx hb dX4_digest_101 (by decide) ?_
        have hra := hW.row.lt
        have hTj := (hW.tx (j := j) (by omega)).ia hC.2.1.2
        have x60j := hW.2.2.1 j (Or.inl (by omega))
        have j60 := x60j.2
        refine qR_S (A := A) (A1 := nw H37.size)  (As := [.ref (tx j), .int (bI false)]) (rest := .long y_44 :: []) ⟨hx, hb, hml, hown, hts⟩ (mX4_trimmed (A := nw H37.size) (sz := H37.size) (t := X j) (b := false) x60j.1 (by omega)) (va_cwS 2 hts (gS tw_5_9 tw_5_10 tw_1_8 tw_5_11) rfl rfl rfl (by decide +kernel) ⟨Nat.le_of_ble_eq_true rfl, Nat.le_of_ble_eq_true rfl⟩) hC hS (nw_in hA hS.1) nw_n  ⟨rfl, hTj⟩ rfl rfl hl.1 (Nat.le_of_ble_eq_true rfl) ⟨Nat.le_trans (show ((5 + j * 3) + 1) + 1 ≤ 18 by omega) (Nat.le_of_ble_eq_true rfl), Nat.le_trans (show ((25 + j * 183) + 61) + 61 ≤ 761 by omega) (Nat.le_of_ble_eq_true rfl)⟩ dX4_digest_102 (fun rv45 H45 L45 hP45 hk45 hS => ?_)
        have hZ45 := hS.1
        obtain ⟨hsz9, e9, he9, hR9⟩ := hP45
        have hW := hW.nw hk45
        have hR8 := hR9.ia hC.2.1.2
        have hcle := cutL_le (X j) (tbL false (X j)) e9
        refine h_ilen hx hb hC.2.1 hR8 dX4_digest_105 ?_
        refine lv_i2l hx hb dX4_digest_106 rfl ?_
        refine kS_l (A := A) (As := [.long y_44, .long ((nI ((cutL (X j) (tbL false (X j)) e9).length)).toInt64)]) (rest := []) ⟨hx, hb, hml, hown, hts⟩ (mX4_add (A := A) ) (va_cwS 2 hts (gS tw_7_31 tw_7_32 tw_1_8 tw_7_33) rfl rfl rfl (by decide +kernel) ⟨Nat.le_of_ble_eq_true rfl, Nat.le_of_ble_eq_true rfl⟩) hC hS hA trivial rfl rfl hl.1 (Nat.le_of_ble_eq_true rfl) ⟨Nat.le_trans (show (((5 + j * 3) + 1) + 1) ≤ 18 by omega) (Nat.le_of_ble_eq_true rfl), Nat.le_trans (show (((25 + j * 183) + 61) + 61) ≤ 761 by omega) (Nat.le_of_ble_eq_true rfl)⟩ dX4_digest_107 (fun y_46 _ => ?_)
        refine lv_aload hx hb dX4_digest_110 (lv_at hl 1 rfl) ?_
        refine lv_iconst (v := nI 1) hx hb dX4_digest_112 (by decide) ?_
        have hra := hW.row.lt
        have hTj := (hW.tx (j := j) (by omega)).ia hC.2.1.2
        have x60j := hW.2.2.1 j (Or.inl (by omega))
        have j60 := x60j.2
        refine qR_S (A := A) (A1 := nw H45.size)  (As := [.ref (tx j), .int (bI true)]) (rest := .long y_46 :: []) ⟨hx, hb, hml, hown, hts⟩ (mX4_trimmed (A := nw H45.size) (sz := H45.size) (t := X j) (b := true) x60j.1 (by omega)) (va_cwS 2 hts (gS tw_5_9 tw_5_10 tw_1_8 tw_5_11) rfl rfl rfl (by decide +kernel) ⟨Nat.le_of_ble_eq_true rfl, Nat.le_of_ble_eq_true rfl⟩) hC hS (nw_in hA hS.1) nw_n  ⟨rfl, hTj⟩ rfl rfl hl.1 (Nat.le_of_ble_eq_true rfl) ⟨Nat.le_trans (show (((5 + j * 3) + 1) + 1) + 1 ≤ 18 by omega) (Nat.le_of_ble_eq_true rfl), Nat.le_trans (show (((25 + j * 183) + 61) + 61) + 61 ≤ 761 by omega) (Nat.le_of_ble_eq_true rfl)⟩ dX4_digest_113 (fun rv47 H47 L47 hP47 hk47 hS => ?_)
        have hZ47 := hS.1
        obtain ⟨hsz9, e9, he9, hR9⟩ := hP47
        have hW := hW.nw hk47
        have hR8 := hR9.ia hC.2.1.2
        have hcle := cutL_le (X j) (tbL true (X j)) e9
        refine h_ilen hx hb hC.2.1 hR8 dX4_digest_116 ?_
        refine lv_i2l hx hb dX4_digest_117 rfl ?_
        refine kS_l (A := A) (As := [.long y_46, .long ((nI ((cutL (X j) (tbL true (X j)) e9).length)).toInt64)]) (rest := []) ⟨hx, hb, hml, hown, hts⟩ (mX4_add (A := A) ) (va_cwS 2 hts (gS tw_7_31 tw_7_32 tw_1_8 tw_7_33) rfl rfl rfl (by decide +kernel) ⟨Nat.le_of_ble_eq_true rfl, Nat.le_of_ble_eq_true rfl⟩) hC hS hA trivial rfl rfl hl.1 (Nat.le_of_ble_eq_true rfl) ⟨Nat.le_trans (show ((((5 + j * 3) + 1) + 1) + 1) ≤ 18 by omega) (Nat.le_of_ble_eq_true rfl), Nat.le_trans (show ((((25 + j * 183) + 61) + 61) + 61) ≤ 761 by omega) (Nat.le_of_ble_eq_true rfl)⟩ dX4_digest_118 (fun y_48 _ => ?_)
        refine lv_lstore_n (lv' := [(1, .long y_48), (6, .ref (tx j)), (5, .int (nI j)), (4, .int (nI 4)), (3, .ref xa), (0, .ref am)]) hx hb dX4_digest_121 rfl hl (by decide) rfl (fun ls hl => ?_)
        refine lv_iinc (v := nI (j + 1)) (lv' := [(5, .int (nI (j + 1))), (1, .long y_48), (6, .ref (tx j)), (4, .int (nI 4)), (3, .ref xa), (0, .ref am)]) hx hb dX4_digest_122 hl (k := 2) rfl (nI_add j 1) (by decide) rfl (fun ls hl => ?_)
        refine lv_goto (tgt := 45) hx hb dX4_digest_125 (by decide) ?_
        refine W.widen (k := 5 + (j + 1) * 3) (n := 25 + (j + 1) * 183) (by omega) (by omega) ?_
        exact ih (j + 1) (by omega) (by omega) ls H47 L47 _ (lv_sub hl [0, 3, 4, 1, 5] rfl) hS hW
  · obtain ⟨ra, pa, tx, hW⟩ := hM
    refine lv_lload_n hx hb dX4_digest_16 rfl (lv_at hl 1 rfl) ?_
    refine lv_aload_n hx hb dX4_digest_17 rfl (lv_at hl 2 rfl) ?_
    refine lv_iload_n hx hb dX4_digest_18 rfl (lv_at hl 0 rfl) ?_
    refine qI_V (A := A) (A1 := A) (b := am) (As := [.int (nI j)]) (rest := .long x :: []) ⟨hx, hb, hml, hown, hts⟩ (mX4_houseTold (A := A) (X := X) (P := P) (k := k) (xa := xa) (w9 := j) (by omega)) (cwV 1 hts (gV tw_7_14 tw_7_16 sel_X4_houseTold tw_1_8 tw_7_17) rfl rfl rfl (by decide +kernel) ⟨Nat.le_of_ble_eq_true rfl, Nat.le_of_ble_eq_true rfl⟩) hC hS (fun _ h => h) (fun q h => hA q (Nat.le_trans hS.1 h)) (hW.recv hK) ⟨ra, pa, tx, hW⟩ rfl rfl hl.1 (Nat.le_of_ble_eq_true rfl) ⟨Nat.le_trans (show (0 + j) + 1 ≤ 18 by omega) (Nat.le_of_ble_eq_true rfl), Nat.le_trans (show (0 + j * 5) + 5 ≤ 761 by omega) (Nat.le_of_ble_eq_true rfl)⟩ dX4_digest_19 (fun rv49 H49 L49 hP49 hk49 hS => ?_)
    have hZ49 := hS.1
    refine lv_i2l hx hb dX4_digest_22 rfl ?_
    refine kS_l (A := A) (As := [.long x, .long rv49.toInt64]) (rest := []) ⟨hx, hb, hml, hown, hts⟩ (mX4_add (A := A) ) (va_cwS 2 hts (gS tw_7_31 tw_7_32 tw_1_8 tw_7_33) rfl rfl rfl (by decide +kernel) ⟨Nat.le_of_ble_eq_true rfl, Nat.le_of_ble_eq_true rfl⟩) hC hS hA trivial rfl rfl hl.1 (Nat.le_of_ble_eq_true rfl) ⟨Nat.le_trans (show ((0 + j) + 1) ≤ 18 by omega) (Nat.le_of_ble_eq_true rfl), Nat.le_trans (show ((0 + j * 5) + 5) ≤ 761 by omega) (Nat.le_of_ble_eq_true rfl)⟩ dX4_digest_23 (fun y_50 _ => ?_)
    refine lv_lstore_n (lv' := [(1, .long y_50), (3, .int (nI j)), (0, .ref am)]) hx hb dX4_digest_26 rfl hl (by decide) rfl (fun ls hl => ?_)
    refine lv_iinc (v := nI (j + 1)) (lv' := [(3, .int (nI (j + 1))), (1, .long y_50), (0, .ref am)]) hx hb dX4_digest_27 hl (k := 1) rfl (nI_add j 1) (by decide) rfl (fun ls hl => ?_)
    refine lv_goto (tgt := 11) hx hb dX4_digest_30 (by decide) ?_
    refine W.widen (k := 0 + (j + 1)) (n := 0 + (j + 1) * 5) (by omega) (by omega) ?_
    exact ih (j + 1) (by omega) (by omega) ls H49 L49 _ (lv_sub hl [0, 1, 2] rfl) hS hP49.2
end
/-! 62.law1 -/
section
/-! THE LAW, 1: what lies in Out; bodies with handlers; calls whose exceptions are caught -/
theorem SS.kp {G : Cx} {SA : Nat → Nat} {X : Nat → List Nat} {es : List Nat} {k : Int32} {H H1 : Heap} {Y : Nat → Prop} (h : SS G SA X es k H) (hk : Pilot.CSigntextLaw_law_r2322_c049e8.kp Y H H1) (hX : ∀ i : Nat, i < 39 → ¬ Y (SA i)) : SS G SA X es k H1 := by
  obtain ⟨T, es2, h1, h2⟩ := h
  exact ⟨T, es2, h1.kp hk hX, h2⟩
theorem SS.recv {G : Cx} {SA : Nat → Nat} {X : Nat → List Nat} {es : List Nat} {k : Int32} {H : Heap} {s : State} (h : SS G SA X es k H) (hK : va_K G.1 vwCl (tyL G.2.1) s) : ∃ cell : Cell, H[SA 0]? = some cell ∧ cell.vm.isStatics = false ∧ s.vm.findClass "Signtext" = some cell.cls := by
  obtain ⟨T, es2, h1, h2⟩ := h
  exact h1.recv hK
def OA (G : Cx) (out : Nat) (H : Heap) : Prop := ∃ (n : Int64) (v : Value), va_at G.1 vwCl (out, .inr (7, [.long n, v])) H
theorem OA.lt {G : Cx} {out : Nat} {H : Heap} (h : OA G out H) : out < H.size := by
  obtain ⟨n, v, h⟩ := h
  exact h.lt
theorem OA.kp {G : Cx} {out : Nat} {H H1 : Heap} {Y : Nat → Prop} (h : OA G out H) (hk : Pilot.CSigntextLaw_law_r2322_c049e8.kp Y H H1) (hX : ¬ Y out) : OA G out H1 := by
  obtain ⟨n, v, h⟩ := h
  exact ⟨n, v, at_kp h hk hX⟩
def oz (v : Int32) : Int64 := if v = 0 then 0 else 1
section LAW1
variable {p : Program} {l : Launch} {e : Env} {R : Room} {s : State} {m : MethodId} {args : Array Value} {below : List Frame} {meth : Method} {c : Code} {H H0 : Heap} {locs : List Loc} {cells slots : Nat} {Q : State → Prop}
variable {cc bytes : ByteArray} {pc nL maxL index n mc ms mc1 ms1 : Nat} {ls : Array Slot} {rest st0 : List Value} {G : Cx} {A A1 : Nat → Prop} {own C : String} {y : MethodName} {ret : Option FieldType} {ws : List Cond} {rm : Room} {a b : Nat} {As : List Value} {Wd : Heap → Prop} {PX1 : String → Heap → Prop} {D : va_G} {cl : List vw_C} {tys : List (ClassId × FieldType)}
theorem h_putN (hexec : p.tables.exec = Jvm.exec) (hb : c.code = cc) {own ref C host : String} {T : u_T} {N ci index : Nat} {Ts : List Cond} (hts : ∀ w ∈ Ts, w.before args s = true) (hin : ∀ w ∈ u_ws C T N, w ∈ Ts) (ty0 : Nat → FieldType) (hty : ∀ k, k < N → parseFieldDescriptor (T k).2.2.1 = some (ty0 k)) (hnm : ∀ a, a < N → ∀ b, b < N → a ≠ b → (T a).2.1 ≠ (T b).2.1) (hown : s.vm.findClass own = some m.cls) (hK : va_K D cl tys s) {fs : List Value} (h : va_at D cl (a, .inr (ci, fs)) H) (hS : va_S A H0 H locs) (ha : A a) (hc : cl[ci]? = some (C, T, N)) (k : Nat) (hk : k < N) (hlink : (Cond.fieldLinkNest own index ref (T k).2.1 (T k).2.2.1 host).before args s = true) (hsame : ∀ x, s.fieldFound? (T k).1 (T k).2.1 (T k).2.2.1 = some x → s.fieldFound? ref (T k).2.1 (T k).2.2.1 = some x) (hfin : (T k).2.2.2 = false) {ty : FieldType} {v : Value} (hd : parseFieldDescriptor (T k).2.2.1 = some ty) (hn : narrow ty v = v) (hfit : fits ty v = true) (hl : k < fs.length)
    (hdg : decode cc pc = .ok (.putfield index, 3)) (kk : ∀ (H1 : Heap) (locs1 : List Loc), va_at D cl (a, .inr (ci, fs.set k v)) H1 → H1.size = H.size → (∀ q : Nat, q ≠ a → H1[q]? = H[q]?) → va_S A H0 H1 locs1 → W p l e R s m args below meth c H1 locs1 cells slots Q (F0 m (pc + 3) ls rest)) : W p l e R s m args below meth c H locs cells slots Q (F0 m pc ls (v :: .ref a :: rest)) := by
  have hap := va_apart (own := own) hts hin ty0 hty hnm hK hc
  obtain ⟨r, h1, cell, q1, q2, q3, q4⟩ := h
  have hr : r = (C, T, N) := Option.some.inj (h1.symm.trans hc)
  subst hr
  obtain ⟨hSl, hfc, kC, hkC, hkind⟩ := hK.1 ci _ hc
  obtain ⟨cf, kf, fi, f, hi, hsl⟩ := hSl k hk
  have hlay := hts _ (hin _ (u_in_lay hk))
  unfold u_lay at hlay
  rw [if_neg (by rw [hfin]; decide)] at hlay
  have hst := (u_facts hfc hkC (u_lays hts hin hk) hi).1
  have h6 := u_store hfc hkC hkind hlay hi hd hn hfit
  refine va_WputK hexec hb (f := f) hown hlink (hsame _ hi) hst (by rw [q2]; exact h6) q1 q3 (by rw [hsl]; exact k2_hasslot (q4 k hk)) rfl rfl hdg fun H' e1 e2 e3 => ?_
  rw [hsl] at e1 ⊢
  exact kk H' _ ⟨_, hc, t_OB.to (V := updV (vp_V fs) k v) ⟨_, e1, q2, q3, t_set q4 hap hk v⟩ (fun j _ => vp_updV_set hl v j)⟩ e2 e3 (hS.put e2 e3 ha)
theorem mstartH {Qc : Array Value → State → Outcome → State → Prop} {free : Addr → Prop} {av : List Value} {hh : List (Nat × Nat × Nat × Nat)} (own : String) (hy : plainName y.cls = true) (hown : y.cls = own) (hn : (lg_sl av).length ≤ maxL)
    (body : ∀ (p : Program) (e : Env) (s : State) (m : MethodId) (below : List Frame) (meth : Method) (c : Code) (ls : Array Slot), p.tables.exec = Jvm.exec → c.code = cc → meth.sig.returnType = ret → (∀ w ∈ GW, w.before av.toArray s = true) → s.vm.findClass own = some m.cls → c.maxLocals = maxL → meth.locks = false → c.exceptionTable.toList = tableOf hh → cx G A s → (∀ q : Nat, s.heap.size ≤ q → A q) → Wd s.heap → lv_has ls maxL (lv_args 0 av) →
      W p l e rm s m av.toArray below meth c s.heap [] 0 0 (MQ below Qc av.toArray s mc ms free) (F0 m 0 ls [])) : Met l y (.codeWith y cc maxL ret hh :: GW) rm (PC G A av Wd) Qc mc ms free := by
  refine MetFree.of_bodyS (code := cc) (maxLocals := maxL) (ret := ret) hy ?_ ?_
  · intro args s m h hn
    obtain ⟨m9, meth, c, hn9, h1, h2, h3, h4, -, h5, h6, -⟩ := Cond.codeWith_spec (atoms_spec (ws := .codeWith y cc maxL ret hh :: GW) h _ List.mem_cons_self)
    cases hn.symm.trans hn9
    exact ⟨meth, c, h1, h2, h3, h4, h5, h6⟩
  · intro p e s m args below meth c s₁ B hml hP _
    have hh0 : s₁.heap = s.heap := by rw [B.state]; rfl
    have hts := atoms_spec (ws := .codeWith y cc maxL ret hh :: GW) B.pre
    obtain ⟨rfl, hC, hA, hW⟩ := hP
    have hl := lv_entry av (n := maxL) hn
    have hne : entryFrame m av.toArray maxL = F0 m 0 ((lg_sl av ++ List.replicate (maxL - (lg_sl av).length) Slot.unset).toArray) [] := by rw [lg_entry_eq]
    have K := body p e s m below meth c _ B.exec B.bytes B.returns (fun w h => hts w (List.mem_cons_of_mem _ h)) (by rw [← hown]; exact findClass_of_methodNamed B.named) hml B.notSynchronized (vx_table (x := y) B (hts _ List.mem_cons_self)) hC hA hW hl
    rw [hne]
    obtain ⟨t, a1, o, b1, b2, b3⟩ := K s₁ hh0 (Stand.of_body B)
    exact ⟨t, o, a1, b1, b2, b3⟩
theorem cI_V {P : Int32 → Heap → Prop} (S : CallFix p m c cc nL s args GW own) (hM : vx_Met l y ws rm (PC G A1 (.ref b :: As) Wd) (qI A1 P) (xE A1 PX1) mc1 ms1 A1) (cw : CallW R s args own C index y bytes maxL ret ws rm mc1 ms1 n) (hC : cx G A s) (hS : va_S A s.heap H locs) (hAA : ∀ q, A1 q → A q) (hA1 : ∀ q : Nat, H.size ≤ q → A1 q)
    (hr : ∃ cell : Cell, H[b]? = some cell ∧ cell.vm.isStatics = false ∧ s.vm.findClass C = some cell.cls) (hW : Wd H) (hst : st0 = As.reverse ++ .ref b :: rest) (hn : As.length = n) (hl : ls.size = nL) (hrm : (rest.map fun v => v.category).sum ≤ 8) (hf : cells + mc1 ≤ R.cells ∧ slots + ms1 ≤ R.slots) (hdg : decode cc pc = .ok (.invokevirtual index, 3))
    (kx : ∀ (E : String) (ce : Cell) (q9 : Addr) (H1 : Heap) (locs1 : List Loc), PX1 E H1 → kp A1 H H1 → va_S A s.heap H1 locs1 → H1[q9]? = some ce → ce.vm = .none → s.vm.findClass E = some ce.cls → vx_W p l e R s m args below meth c H1 locs1 (cells + mc1) (slots + ms1) Q (F0 m pc ls rest) q9)
    (kk : ∀ (r : Int32) (H1 : Heap) (locs1 : List Loc), P r H1 → kp A1 H H1 → va_S A s.heap H1 locs1 → W p l e R s m args below meth c H1 locs1 (cells + mc1) (slots + ms1) Q (F0 m (pc + 3) ls (.int r :: rest))) : W p l e R s m args below meth c H locs cells slots Q (F0 m pc ls st0) := by
  subst hst
  exact vx_calli (vx_runV (As := As) (rest := rest) (g := F0 m pc ls (As.reverse ++ .ref b :: rest)) S hM cw ⟨PC.blind, hr, PC.go hC hS hAA hA1 hW⟩ rfl hn hl rfl (lv_room hrm) hdg hf) hS (fun q _ h => hAA q h) hAA (fun q _ h => hAA q h)
    (fun E ce q9 u t H1 locs1 ht hvm _ hB hz hk hS1 h1 h2 h3 => kx E ce q9 H1 locs1 (show PX1 E H1 from ht ▸ hB) ⟨hz, hk⟩ hS1 h1 h2 h3)
    (fun r u t H1 locs1 ht _ hp hB hz hk hS1 => by subst hp; exact kk r H1 locs1 (show P r H1 from ht ▸ hB) ⟨hz, hk⟩ hS1)
theorem cR_V {P : Nat → Heap → Prop} (S : CallFix p m c cc nL s args GW own) (hM : vx_Met l y ws rm (PC G A1 (.ref b :: As) Wd) (qR A1 P) (xE A1 PX1) mc1 ms1 A1) (cw : CallW R s args own C index y bytes maxL ret ws rm mc1 ms1 n) (hC : cx G A s) (hS : va_S A s.heap H locs) (hAA : ∀ q, A1 q → A q) (hA1 : ∀ q : Nat, H.size ≤ q → A1 q)
    (hr : ∃ cell : Cell, H[b]? = some cell ∧ cell.vm.isStatics = false ∧ s.vm.findClass C = some cell.cls) (hW : Wd H) (hst : st0 = As.reverse ++ .ref b :: rest) (hn : As.length = n) (hl : ls.size = nL) (hrm : (rest.map fun v => v.category).sum ≤ 8) (hf : cells + mc1 ≤ R.cells ∧ slots + ms1 ≤ R.slots) (hdg : decode cc pc = .ok (.invokevirtual index, 3))
    (kx : ∀ (E : String) (ce : Cell) (q9 : Addr) (H1 : Heap) (locs1 : List Loc), PX1 E H1 → kp A1 H H1 → va_S A s.heap H1 locs1 → H1[q9]? = some ce → ce.vm = .none → s.vm.findClass E = some ce.cls → vx_W p l e R s m args below meth c H1 locs1 (cells + mc1) (slots + ms1) Q (F0 m pc ls rest) q9)
    (kk : ∀ (r : Nat) (H1 : Heap) (locs1 : List Loc), P r H1 → kp A1 H H1 → va_S A s.heap H1 locs1 → W p l e R s m args below meth c H1 locs1 (cells + mc1) (slots + ms1) Q (F0 m (pc + 3) ls (.ref r :: rest))) : W p l e R s m args below meth c H locs cells slots Q (F0 m pc ls st0) := by
  subst hst
  exact xcallr (vx_runV (As := As) (rest := rest) (g := F0 m pc ls (As.reverse ++ .ref b :: rest)) S hM cw ⟨PC.blind, hr, PC.go hC hS hAA hA1 hW⟩ rfl hn hl rfl (lv_room hrm) hdg hf) hS (fun q _ h => hAA q h) hAA (fun q _ h => hAA q h)
    (fun E ce q9 u t H1 locs1 ht hvm _ hB hz hk hS1 h1 h2 h3 => kx E ce q9 H1 locs1 (show PX1 E H1 from ht ▸ hB) ⟨hz, hk⟩ hS1 h1 h2 h3)
    (fun u r t H1 locs1 ht _ _ hB hz hk hS1 => kk r H1 locs1 (show P r H1 from ht ▸ hB) ⟨hz, hk⟩ hS1)
/-- a static call of a body with handlers -/
theorem qI_SW {P : Int32 → Heap → Prop} {hh : List (Nat × Nat × Nat × Nat)} (S : CallFix p m c cc nL s args GW own) (hM : Met l y ws rm (PC G A1 As Wd) (qI A1 P) mc ms A1) (cw : vx_CSW R s args own index y bytes maxL ret hh ws rm mc ms n) (hC : cx G A s) (hS : va_S A s.heap H locs) (hAA : ∀ q, A1 q → A q) (hA1 : ∀ q : Nat, H.size ≤ q → A1 q)
    (hW : Wd H) (hst : st0 = As.reverse ++ rest) (hn : As.length = n) (hl : ls.size = nL) (hrm : (rest.map fun v => v.category).sum ≤ 8) (hf : cells + mc ≤ R.cells ∧ slots + ms ≤ R.slots) (hdg : decode cc pc = .ok (.invokestatic index, 3))
    (kk : ∀ (r : Int32) (H1 : Heap) (locs1 : List Loc), P r H1 → kp A1 H H1 → va_S A s.heap H1 locs1 → W p l e R s m args below meth c H1 locs1 (cells + mc) (slots + ms) Q (F0 m (pc + 3) ls (.int r :: rest))) : W p l e R s m args below meth c H locs cells slots Q (F0 m pc ls st0) := by
  subst hst
  exact va_calli (vx_runSW (As := As) (rest := rest) (g := F0 m pc ls (As.reverse ++ rest)) S hM cw ⟨PC.blind, PC.go hC hS hAA hA1 hW⟩ rfl hn hl rfl (lv_room hrm) hdg hf) hS (fun q _ h => hAA q h) hAA (fun r u t H1 locs1 ht _ hp hB hz hk hS1 => by subst hp; exact kk r H1 locs1 (show P r H1 from ht ▸ hB) ⟨hz, hk⟩ hS1)
theorem gSW {own : String} {index n : Nat} {y : MethodName} {cc : ByteArray} {r : Option FieldType} {hh : List (Nat × Nat × Nat × Nat)} (h1 : Cond.methodLink own index y ∈ GW) (h2 : Cond.static y ∈ GW) (h4 : Cond.initialized y.cls ∈ GW) (h5 : Cond.codeWith y cc n r hh ∈ GW) : GoodIn GW (va_wsS own index y (.codeWith y cc n r hh :: GW)) := by
  intro w hw
  unfold va_wsS at hw
  rcases List.mem_append.mp hw with h | h
  · simp only [List.mem_cons, List.not_mem_nil, or_false] at h
    rcases h with rfl | rfl | rfl
    · exact good_gw h1
    · exact good_gw h2
    · exact good_gw h4
  · rcases List.mem_cons.mp h with rfl | h
    · exact good_gw h5
    · exact good_gw h
end LAW1
theorem xw_io : Cond.castable "java/lang/IndexOutOfBoundsException" "java/lang/IndexOutOfBoundsException" ∈ XW := xw_at tin_3 10 rfl rfl
theorem xw_ia : Cond.castable "java/lang/IllegalArgumentException" "java/lang/IllegalArgumentException" ∈ XW := xw_at tin_2 138 rfl rfl
theorem xw_is : Cond.castable "java/lang/IllegalStateException" "java/lang/IllegalStateException" ∈ XW := xw_at tin_3 41 rfl rfl
end
