/-! 27.cls6 -/
section
/-! The class, 6: more calls that ask -/
def sumL (T : Nat → List Nat) : Nat → Nat
  | 0 => 0
  | j + 1 => sumL T j + (T j).length
theorem sumL_eq {T X : Nat → List Nat} {n : Nat} (h : ∀ i : Nat, i < n → T i = X i) : sumL T n = sumL X n := by
  induction n with
  | zero => rfl
  | succ n ih => show sumL T n + (T n).length = sumL X n + (X n).length; rw [ih (fun i hi => h i (by omega)), h n (Nat.lt_succ_self n)]
def cntE (T : Nat → List Nat) : Nat → Nat
  | 0 => 0
  | j + 1 => if (T j).length = 0 then cntE T j + 1 else cntE T j
theorem cntE_eq {T X : Nat → List Nat} {n : Nat} (h : ∀ i : Nat, i < n → T i = X i) : cntE T n = cntE X n := by
  induction n with
  | zero => rfl
  | succ n ih => show (if (T n).length = 0 then cntE T n + 1 else cntE T n) = if (X n).length = 0 then cntE X n + 1 else cntE X n; rw [ih (fun i hi => h i (by omega)), h n (Nat.lt_succ_self n)]
def hsV (X : Nat → List Nat) (es : List Nat) (k : Int32) : Nat → Int32
  | 0 => nI (X 11).length
  | 1 => nI es.length
  | 2 => nI (sumL X 4)
  | 3 => nI (cntE X 4)
  | _ => k
theorem dX2_text_0 : decode cX2_text 0 = .ok (.aload_n 0, 1) := by decide +kernel
theorem dX2_text_1 : decode cX2_text 1 = .ok (.iload_n 1, 1) := by decide +kernel
theorem dX2_text_2 : decode cX2_text 2 = .ok (.invokevirtual 51, 3) := by decide +kernel
theorem dX2_text_5 : decode cX2_text 5 = .ok (.invokevirtual 146, 3) := by decide +kernel
theorem dX2_text_8 : decode cX2_text 8 = .ok (.areturn, 1) := by decide +kernel
theorem dX2_row_0 : decode cX2_row 0 = .ok (.aload_n 0, 1) := by decide +kernel
theorem dX2_row_1 : decode cX2_row 1 = .ok (.getfield 19, 3) := by decide +kernel
theorem dX2_row_4 : decode cX2_row 4 = .ok (.invokevirtual 146, 3) := by decide +kernel
theorem dX2_row_7 : decode cX2_row 7 = .ok (.areturn, 1) := by decide +kernel
theorem dX2_piece_0 : decode cX2_piece 0 = .ok (.aload_n 0, 1) := by decide +kernel
theorem dX2_piece_1 : decode cX2_piece 1 = .ok (.iload_n 1, 1) := by decide +kernel
theorem dX2_piece_2 : decode cX2_piece 2 = .ok (.invokevirtual 139, 3) := by decide +kernel
theorem dX2_piece_5 : decode cX2_piece 5 = .ok (.aload_n 0, 1) := by decide +kernel
theorem dX2_piece_6 : decode cX2_piece 6 = .ok (.iload_n 1, 1) := by decide +kernel
theorem dX2_piece_7 : decode cX2_piece 7 = .ok (.aload_n 0, 1) := by decide +kernel
theorem dX2_piece_8 : decode cX2_piece 8 = .ok (.getfield 34, 3) := by decide +kernel
theorem dX2_piece_11 : decode cX2_piece 11 = .ok (.invokevirtual 142, 3) := by decide +kernel
theorem dX2_piece_14 : decode cX2_piece 14 = .ok (.pop, 1) := by decide +kernel
theorem dX2_piece_15 : decode cX2_piece 15 = .ok (.aload_n 0, 1) := by decide +kernel
theorem dX2_piece_16 : decode cX2_piece 16 = .ok (.getfield 34, 3) := by decide +kernel
theorem dX2_piece_19 : decode cX2_piece 19 = .ok (.invokevirtual 146, 3) := by decide +kernel
theorem dX2_piece_22 : decode cX2_piece 22 = .ok (.areturn, 1) := by decide +kernel
theorem dX2_isPiece_0 : decode cX2_isPiece 0 = .ok (.aload_n 0, 1) := by decide +kernel
theorem dX2_isPiece_1 : decode cX2_isPiece 1 = .ok (.iload_n 1, 1) := by decide +kernel
theorem dX2_isPiece_2 : decode cX2_isPiece 2 = .ok (.invokevirtual 139, 3) := by decide +kernel
theorem dX2_isPiece_5 : decode cX2_isPiece 5 = .ok (.aload_n 0, 1) := by decide +kernel
theorem dX2_isPiece_6 : decode cX2_isPiece 6 = .ok (.iload_n 2, 1) := by decide +kernel
theorem dX2_isPiece_7 : decode cX2_isPiece 7 = .ok (.invokevirtual 51, 3) := by decide +kernel
theorem dX2_isPiece_10 : decode cX2_isPiece 10 = .ok (.astore_n 3, 1) := by decide +kernel
theorem dX2_isPiece_11 : decode cX2_isPiece 11 = .ok (.aload_n 0, 1) := by decide +kernel
theorem dX2_isPiece_12 : decode cX2_isPiece 12 = .ok (.iload_n 1, 1) := by decide +kernel
theorem dX2_isPiece_13 : decode cX2_isPiece 13 = .ok (.aload_n 0, 1) := by decide +kernel
theorem dX2_isPiece_14 : decode cX2_isPiece 14 = .ok (.getfield 34, 3) := by decide +kernel
theorem dX2_isPiece_17 : decode cX2_isPiece 17 = .ok (.invokevirtual 142, 3) := by decide +kernel
theorem dX2_isPiece_20 : decode cX2_isPiece 20 = .ok (.pop, 1) := by decide +kernel
theorem dX2_isPiece_21 : decode cX2_isPiece 21 = .ok (.aload_n 0, 1) := by decide +kernel
theorem dX2_isPiece_22 : decode cX2_isPiece 22 = .ok (.getfield 34, 3) := by decide +kernel
theorem dX2_isPiece_25 : decode cX2_isPiece 25 = .ok (.aload_n 3, 1) := by decide +kernel
theorem dX2_isPiece_26 : decode cX2_isPiece 26 = .ok (.iconst 0, 1) := by decide +kernel
theorem dX2_isPiece_27 : decode cX2_isPiece 27 = .ok (.invokevirtual 179, 3) := by decide +kernel
theorem dX2_isPiece_30 : decode cX2_isPiece 30 = .ok (.ireturn, 1) := by decide +kernel
theorem dX2_house_0 : decode cX2_house 0 = .ok (.iload_n 1, 1) := by decide +kernel
theorem dX2_house_1 : decode cX2_house 1 = .ok (.tableswitch 66 0 4 #[35, 43, 51, 56, 61], 35) := by decide +kernel
theorem dX2_house_36 : decode cX2_house 36 = .ok (.aload_n 0, 1) := by decide +kernel
theorem dX2_house_37 : decode cX2_house 37 = .ok (.getfield 19, 3) := by decide +kernel
theorem dX2_house_40 : decode cX2_house 40 = .ok (.invokevirtual 66, 3) := by decide +kernel
theorem dX2_house_43 : decode cX2_house 43 = .ok (.ireturn, 1) := by decide +kernel
theorem dX2_house_44 : decode cX2_house 44 = .ok (.aload_n 0, 1) := by decide +kernel
theorem dX2_house_45 : decode cX2_house 45 = .ok (.getfield 26, 3) := by decide +kernel
theorem dX2_house_48 : decode cX2_house 48 = .ok (.invokevirtual 138, 3) := by decide +kernel
theorem dX2_house_51 : decode cX2_house 51 = .ok (.ireturn, 1) := by decide +kernel
theorem dX2_house_52 : decode cX2_house 52 = .ok (.aload_n 0, 1) := by decide +kernel
theorem dX2_house_53 : decode cX2_house 53 = .ok (.invokevirtual 189, 3) := by decide +kernel
theorem dX2_house_56 : decode cX2_house 56 = .ok (.ireturn, 1) := by decide +kernel
theorem dX2_house_57 : decode cX2_house 57 = .ok (.aload_n 0, 1) := by decide +kernel
theorem dX2_house_58 : decode cX2_house 58 = .ok (.invokevirtual 192, 3) := by decide +kernel
theorem dX2_house_61 : decode cX2_house 61 = .ok (.ireturn, 1) := by decide +kernel
theorem dX2_house_62 : decode cX2_house 62 = .ok (.aload_n 0, 1) := by decide +kernel
theorem dX2_house_63 : decode cX2_house 63 = .ok (.getfield 30, 3) := by decide +kernel
theorem dX2_house_66 : decode cX2_house 66 = .ok (.ireturn, 1) := by decide +kernel
theorem dX2_house_67 : decode cX2_house 67 = .ok (.new 81, 3) := by decide +kernel
theorem dX2_house_70 : decode cX2_house 70 = .ok (.dup, 1) := by decide +kernel
theorem dX2_house_71 : decode cX2_house 71 = .ok (.invokespecial 83, 3) := by decide +kernel
theorem dX2_house_74 : decode cX2_house 74 = .ok (.athrow, 1) := by decide +kernel
theorem dX2_signsOfAll_0 : decode cX2_signsOfAll 0 = .ok (.iconst 0, 1) := by decide +kernel
theorem dX2_signsOfAll_1 : decode cX2_signsOfAll 1 = .ok (.istore_n 1, 1) := by decide +kernel
theorem dX2_signsOfAll_2 : decode cX2_signsOfAll 2 = .ok (.iconst 0, 1) := by decide +kernel
theorem dX2_signsOfAll_3 : decode cX2_signsOfAll 3 = .ok (.istore_n 2, 1) := by decide +kernel
theorem dX2_signsOfAll_4 : decode cX2_signsOfAll 4 = .ok (.iload_n 2, 1) := by decide +kernel
theorem dX2_signsOfAll_5 : decode cX2_signsOfAll 5 = .ok (.iconst 4, 1) := by decide +kernel
theorem dX2_signsOfAll_6 : decode cX2_signsOfAll 6 = .ok (.if_icmp .ge 21, 3) := by decide +kernel
theorem dX2_signsOfAll_9 : decode cX2_signsOfAll 9 = .ok (.iload_n 1, 1) := by decide +kernel
theorem dX2_signsOfAll_10 : decode cX2_signsOfAll 10 = .ok (.aload_n 0, 1) := by decide +kernel
theorem dX2_signsOfAll_11 : decode cX2_signsOfAll 11 = .ok (.getfield 11, 3) := by decide +kernel
theorem dX2_signsOfAll_14 : decode cX2_signsOfAll 14 = .ok (.iload_n 2, 1) := by decide +kernel
theorem dX2_signsOfAll_15 : decode cX2_signsOfAll 15 = .ok (.aaload, 1) := by decide +kernel
theorem dX2_signsOfAll_16 : decode cX2_signsOfAll 16 = .ok (.invokevirtual 66, 3) := by decide +kernel
theorem dX2_signsOfAll_19 : decode cX2_signsOfAll 19 = .ok (.iadd, 1) := by decide +kernel
theorem dX2_signsOfAll_20 : decode cX2_signsOfAll 20 = .ok (.istore_n 1, 1) := by decide +kernel
theorem dX2_signsOfAll_21 : decode cX2_signsOfAll 21 = .ok (.iinc 2 1, 3) := by decide +kernel
theorem dX2_signsOfAll_24 : decode cX2_signsOfAll 24 = .ok (.goto (-20), 3) := by decide +kernel
theorem dX2_signsOfAll_27 : decode cX2_signsOfAll 27 = .ok (.iload_n 1, 1) := by decide +kernel
theorem dX2_signsOfAll_28 : decode cX2_signsOfAll 28 = .ok (.ireturn, 1) := by decide +kernel
theorem dX2_emptyOnes_0 : decode cX2_emptyOnes 0 = .ok (.iconst 0, 1) := by decide +kernel
theorem dX2_emptyOnes_1 : decode cX2_emptyOnes 1 = .ok (.istore_n 1, 1) := by decide +kernel
theorem dX2_emptyOnes_2 : decode cX2_emptyOnes 2 = .ok (.iconst 0, 1) := by decide +kernel
theorem dX2_emptyOnes_3 : decode cX2_emptyOnes 3 = .ok (.istore_n 2, 1) := by decide +kernel
theorem dX2_emptyOnes_4 : decode cX2_emptyOnes 4 = .ok (.iload_n 2, 1) := by decide +kernel
theorem dX2_emptyOnes_5 : decode cX2_emptyOnes 5 = .ok (.iconst 4, 1) := by decide +kernel
theorem dX2_emptyOnes_6 : decode cX2_emptyOnes 6 = .ok (.if_icmp .ge 24, 3) := by decide +kernel
theorem dX2_emptyOnes_9 : decode cX2_emptyOnes 9 = .ok (.aload_n 0, 1) := by decide +kernel
theorem dX2_emptyOnes_10 : decode cX2_emptyOnes 10 = .ok (.getfield 11, 3) := by decide +kernel
theorem dX2_emptyOnes_13 : decode cX2_emptyOnes 13 = .ok (.iload_n 2, 1) := by decide +kernel
theorem dX2_emptyOnes_14 : decode cX2_emptyOnes 14 = .ok (.aaload, 1) := by decide +kernel
theorem dX2_emptyOnes_15 : decode cX2_emptyOnes 15 = .ok (.invokevirtual 66, 3) := by decide +kernel
theorem dX2_emptyOnes_18 : decode cX2_emptyOnes 18 = .ok (.ifCond .ne 6, 3) := by decide +kernel
theorem dX2_emptyOnes_21 : decode cX2_emptyOnes 21 = .ok (.iinc 1 1, 3) := by decide +kernel
theorem dX2_emptyOnes_24 : decode cX2_emptyOnes 24 = .ok (.iinc 2 1, 3) := by decide +kernel
theorem dX2_emptyOnes_27 : decode cX2_emptyOnes 27 = .ok (.goto (-23), 3) := by decide +kernel
theorem dX2_emptyOnes_30 : decode cX2_emptyOnes 30 = .ok (.iload_n 1, 1) := by decide +kernel
theorem dX2_emptyOnes_31 : decode cX2_emptyOnes 31 = .ok (.ireturn, 1) := by decide +kernel
abbrev rmX2_row : Room := { frames := 6, cells := 3, slots := 124, locals := 139 }
theorem mX2_row {l : Launch} {G : Cx} {A : Nat → Prop} {SA : Nat → Nat} {X : Nat → List Nat} {es : List Nat} {k : Int32} (hAS : ∀ i : Nat, i < 39 → A (SA i)) : Met l yX2_row (.code yX2_row cX2_row 1 (some (.object "java/lang/String")) :: GW) rmX2_row (PC G A [.ref (SA 0)] (SS G SA X es k)) (qR A (fun r H => SS G SA X es k H)) 3 124 (A) := by
  refine mstart "Signtext" (by decide +kernel) rfl (Nat.le_of_ble_eq_true rfl) ?_
  intro p e s m below meth c ls hx hb hr hts hown hml hlocks hname hC hA hW hl
  have hl : lv_has ls 1 [(0, .ref (SA 0))] := hl
  have hK := hC.1
  have hS : va_S A s.heap s.heap [] := va_S.rf
  obtain ⟨T, es2, hW, hF⟩ := hW
  have hO := hW.2.1
  have hR1 := hW.2.2.1
  have hR2 := hW.2.2.2.1
  refine lv_aload_n hx hb dX2_row_0 rfl (lv_at hl 0 rfl) ?_
  refine va_get (D := G.1) (ci := 6) (C := RX2) (T := TX2) (N := 8) hx hb hts inX2 hown hK (at_P hO) 0 rfl rfl 2 (by decide) (hts _ tw_1_139) (fun _ h9 => h9) rfl dX2_row_1 ?_
  refine qR_V (A := A) (A1 := nw s.heap.size) (b := (SA 29)) (As := []) (rest := []) ⟨hx, hb, hml, hown, hts⟩ (mX0_asString (A := nw s.heap.size) (ca := SA (8 + 2 * 11))) (cwV 0 hts (gV tw_1_171 tw_1_172 tw_1_173 tw_1_2 tw_1_174) rfl rfl rfl (by decide +kernel) ⟨Nat.le_of_ble_eq_true rfl, Nat.le_of_ble_eq_true rfl⟩) hC hS (nw_in hA (Nat.le_refl _)) nw_n ((hW.line (i := 11) (by omega)).recv hK) (hW.line (i := 11) (by omega)) rfl rfl hl.1 (Nat.le_of_ble_eq_true rfl) ⟨Nat.le_trans (show 0 + 3 ≤ 3 by omega) (Nat.le_of_ble_eq_true rfl), Nat.le_trans (show 0 + 124 ≤ 124 by omega) (Nat.le_of_ble_eq_true rfl)⟩ dX2_row_4 (fun rv1 H1 L1 hP1 hk1 hS => ?_)
  have hZ1 := hS.1
  have hW := hW.nw hk1
  exact q_a hx hb hr (Or.inl ⟨_, rfl⟩) hlocks dX2_row_7 hS (by omega) (by omega) ⟨_, _, hW, hF⟩

abbrev rmX2_text : Room := { frames := 7, cells := 4, slots := 130, locals := 139 }
theorem mX2_text {l : Launch} {G : Cx} {A : Nat → Prop} (hst : l.stackTraces = false) {SA : Nat → Nat} {X : Nat → List Nat} {es : List Nat} {k : Int32} {x : Int32} (hAS : ∀ i : Nat, i < 39 → A (SA i)) : vx_Met l yX2_text (.code yX2_text cX2_text 2 (some (.object "java/lang/String")) :: GW) rmX2_text (PC G A [.ref (SA 0), .int x] (SS G SA X es k)) (qR A (fun r H => (∃ i : Nat, i < 4 ∧ x = nI i) ∧ SS G SA X es k H)) (xE A (fun E H => (E = "java/lang/IndexOutOfBoundsException" ∧ NT x) ∧ SS G SA X es k H)) 4 130 A := by
  refine mstartX "Signtext" (by decide +kernel) rfl (Nat.le_of_ble_eq_true rfl) ?_
  intro p e s m below meth c ls hx hb hr hts hown hml hlocks hnx hC hA hW hl
  have hl : lv_has ls 2 [(0, .ref (SA 0)), (1, .int x)] := hl
  have hK := hC.1
  have hS : va_S A s.heap s.heap [] := va_S.rf
  obtain ⟨T, es2, hW, hF⟩ := hW
  have hO := hW.2.1
  have hR1 := hW.2.2.1
  have hR2 := hW.2.2.2.1
  refine lv_aload_n hx hb dX2_text_0 rfl (lv_at hl 0 rfl) ?_
  refine lv_iload_n hx hb dX2_text_1 rfl (lv_at hl 1 rfl) ?_
  refine xR_V (A := A) (A1 := A) (b := (SA 0)) (As := [.int x]) (rest := []) ⟨hx, hb, hml, hown, hts⟩ (mX2_textOf (A := A) hst ) (cwV 1 hts (gV tw_3_4 tw_3_6 sel_X2_textOf tw_1_1 tw_3_7) rfl rfl rfl (by decide +kernel) ⟨Nat.le_of_ble_eq_true rfl, Nat.le_of_ble_eq_true rfl⟩) hC hS (fun _ h => h) (fun q h => hA q (Nat.le_trans hS.1 h)) (hW.recv hK) hW rfl rfl hl.1 (Nat.le_of_ble_eq_true rfl) ⟨Nat.le_trans (show 0 + 1 ≤ 4 by omega) (Nat.le_of_ble_eq_true rfl), Nat.le_trans (show 0 + 6 ≤ 130 by omega) (Nat.le_of_ble_eq_true rfl)⟩ dX2_text_2 hnx hlocks (by omega) (by omega) (fun E H9 q _ => ⟨⟨q.1, q.2.1⟩, _, _, q.2.2, hF⟩) (fun rv2 H2 L2 hP2 hk2 hS => ?_)
  have hZ2 := hS.1
  obtain ⟨⟨i, hi, hxi, hrv⟩, hW⟩ := hP2
  subst hrv
  have hO := hW.2.1
  have hR1 := hW.2.2.1
  have hR2 := hW.2.2.2.1
  have ei := hF i (Or.inl hi)
  refine qR_V (A := A) (A1 := nw H2.size) (b := (SA (7 + 2 * i))) (As := []) (rest := []) ⟨hx, hb, hml, hown, hts⟩ (mX0_asString (A := nw H2.size) (ca := SA (8 + 2 * i))) (cwV 0 hts (gV tw_1_171 tw_1_172 tw_1_173 tw_1_2 tw_1_174) rfl rfl rfl (by decide +kernel) ⟨Nat.le_of_ble_eq_true rfl, Nat.le_of_ble_eq_true rfl⟩) hC hS (nw_in hA hS.1) nw_n ((hW.line (i := i) (by omega)).recv hK) (hW.line (i := i) (by omega)) rfl rfl hl.1 (Nat.le_of_ble_eq_true rfl) ⟨Nat.le_trans (show (0 + 1) + 3 ≤ 4 by omega) (Nat.le_of_ble_eq_true rfl), Nat.le_trans (show (0 + 6) + 124 ≤ 130 by omega) (Nat.le_of_ble_eq_true rfl)⟩ dX2_text_5 (fun rv3 H3 L3 hP3 hk3 hS => ?_)
  have hZ3 := hS.1
  have hW := hW.nw hk3
  exact vx_ret (q_a hx hb hr (Or.inl ⟨_, rfl⟩) hlocks dX2_text_8 hS (by omega) (by omega) ⟨⟨i, hi, hxi⟩, _, _, hW, hF⟩)

abbrev rmX2_piece : Room := { frames := 7, cells := 4, slots := 130, locals := 139 }
theorem mX2_piece {l : Launch} {G : Cx} {A : Nat → Prop} (hst : l.stackTraces = false) {SA : Nat → Nat} {X : Nat → List Nat} {es : List Nat} {k : Int32} {x : Int32} (hAS : ∀ i : Nat, i < 39 → A (SA i)) : vx_Met l yX2_piece (.code yX2_piece cX2_piece 2 (some (.object "java/lang/String")) :: GW) rmX2_piece (PC G A [.ref (SA 0), .int x] (SS G SA X es k)) (qR A (fun r H => (∃ j : Nat, j < es.length ∧ x = nI j) ∧ SS G SA X es k H)) (xE A (fun E H => (E = "java/lang/IndexOutOfBoundsException" ∧ ¬ ∃ j : Nat, j < es.length ∧ x = nI j) ∧ SS G SA X es k H)) 4 130 A := by
  refine mstartX "Signtext" (by decide +kernel) rfl (Nat.le_of_ble_eq_true rfl) ?_
  intro p e s m below meth c ls hx hb hr hts hown hml hlocks hnx hC hA hW hl
  have hl : lv_has ls 2 [(0, .ref (SA 0)), (1, .int x)] := hl
  have hK := hC.1
  have hS : va_S A s.heap s.heap [] := va_S.rf
  obtain ⟨T, es2, hW, hF⟩ := hW
  have hO := hW.2.1
  have hR1 := hW.2.2.1
  have hR2 := hW.2.2.2.1
  refine lv_aload_n hx hb dX2_piece_0 rfl (lv_at hl 0 rfl) ?_
  refine lv_iload_n hx hb dX2_piece_1 rfl (lv_at hl 1 rfl) ?_
  refine xV_V (A := A) (A1 := A) (b := (SA 0)) (As := [.int x]) (rest := []) ⟨hx, hb, hml, hown, hts⟩ (mX2_needPiece (A := A) hst ) (cwV 1 hts (gV tw_3_215 tw_3_217 sel_X2_needPiece tw_1_1 tw_3_218) rfl rfl rfl (by decide +kernel) ⟨Nat.le_of_ble_eq_true rfl, Nat.le_of_ble_eq_true rfl⟩) hC hS (fun _ h => h) (fun q h => hA q (Nat.le_trans hS.1 h)) (hW.recv hK) hW rfl rfl hl.1 (Nat.le_of_ble_eq_true rfl) ⟨Nat.le_trans (show 0 + 1 ≤ 4 by omega) (Nat.le_of_ble_eq_true rfl), Nat.le_trans (show 0 + 6 ≤ 130 by omega) (Nat.le_of_ble_eq_true rfl)⟩ dX2_piece_2 hnx hlocks (by omega) (by omega) (fun E H9 q _ => ⟨⟨q.1, q.2.1⟩, _, _, q.2.2, hF⟩) (fun H4 L4 hP4 hk4 hS => ?_)
  have hZ4 := hS.1
  obtain ⟨⟨j, hj, rfl⟩, hW⟩ := hP4
  have hO := hW.2.1
  have hR1 := hW.2.2.1
  have hR2 := hW.2.2.2.1
  refine lv_aload_n hx hb dX2_piece_5 rfl (lv_at hl 0 rfl) ?_
  refine lv_iload_n hx hb dX2_piece_6 rfl (lv_at hl 1 rfl) ?_
  refine lv_aload_n hx hb dX2_piece_7 rfl (lv_at hl 0 rfl) ?_
  refine va_get (D := G.1) (ci := 6) (C := RX2) (T := TX2) (N := 8) hx hb hts inX2 hown hK (at_P hO) 0 rfl rfl 5 (by decide) (hts _ tw_1_142) (fun _ h9 => h9) rfl dX2_piece_8 ?_
  refine qI_V (A := A) (A1 := A) (b := (SA 0)) (As := [.int (nI j), .ref (SA 31)]) (rest := []) ⟨hx, hb, hml, hown, hts⟩ (mX2_pieceInto (A := A) (q := 12) (j := j) hAS (by omega) hj) (cwV 2 hts (gV tw_3_219 tw_3_221 sel_X2_pieceInto tw_1_1 tw_3_222) rfl rfl rfl (by decide +kernel) ⟨Nat.le_of_ble_eq_true rfl, Nat.le_of_ble_eq_true rfl⟩) hC hS (fun _ h => h) (fun q h => hA q (Nat.le_trans hS.1 h)) (hW.recv hK) hW rfl rfl hl.1 (Nat.le_of_ble_eq_true rfl) ⟨Nat.le_trans (show (0 + 1) ≤ 4 by omega) (Nat.le_of_ble_eq_true rfl), Nat.le_trans (show (0 + 6) ≤ 130 by omega) (Nat.le_of_ble_eq_true rfl)⟩ dX2_piece_11 (fun rv5 H5 L5 hP5 hk5 hS => ?_)
  have hZ5 := hS.1
  have hW := hP5.2
  have hO := hW.2.1
  have hR1 := hW.2.2.1
  have hR2 := hW.2.2.2.1
  refine lv_pop hx hb dX2_piece_14 rfl ?_
  refine lv_aload_n hx hb dX2_piece_15 rfl (lv_at hl 0 rfl) ?_
  refine va_get (D := G.1) (ci := 6) (C := RX2) (T := TX2) (N := 8) hx hb hts inX2 hown hK (at_P hO) 0 rfl rfl 5 (by decide) (hts _ tw_1_142) (fun _ h9 => h9) rfl dX2_piece_16 ?_
  refine qR_V (A := A) (A1 := nw H5.size) (b := (SA 31)) (As := []) (rest := []) ⟨hx, hb, hml, hown, hts⟩ (mX0_asString (A := nw H5.size) (ca := SA (8 + 2 * 12))) (cwV 0 hts (gV tw_1_171 tw_1_172 tw_1_173 tw_1_2 tw_1_174) rfl rfl rfl (by decide +kernel) ⟨Nat.le_of_ble_eq_true rfl, Nat.le_of_ble_eq_true rfl⟩) hC hS (nw_in hA hS.1) nw_n ((hW.line (i := 12) (by omega)).recv hK) (hW.line (i := 12) (by omega)) rfl rfl hl.1 (Nat.le_of_ble_eq_true rfl) ⟨Nat.le_trans (show (0 + 1) + 3 ≤ 4 by omega) (Nat.le_of_ble_eq_true rfl), Nat.le_trans (show (0 + 6) + 124 ≤ 130 by omega) (Nat.le_of_ble_eq_true rfl)⟩ dX2_piece_19 (fun rv6 H6 L6 hP6 hk6 hS => ?_)
  have hZ6 := hS.1
  have hW := hW.nw hk6
  exact vx_ret (q_a hx hb hr (Or.inl ⟨_, rfl⟩) hlocks dX2_piece_22 hS (by omega) (by omega) ⟨⟨j, hj, rfl⟩, _, _, hW, (FR.s12 (FR.s13 hF))⟩)

abbrev rmX2_isPiece : Room := { frames := 7, cells := 2, slots := 12, locals := 111 }
theorem mX2_isPiece {l : Launch} {G : Cx} {A : Nat → Prop} (hst : l.stackTraces = false) {SA : Nat → Nat} {X : Nat → List Nat} {es : List Nat} {k : Int32} {x y : Int32} (hAS : ∀ i : Nat, i < 39 → A (SA i)) : vx_Met l yX2_isPiece (.code yX2_isPiece cX2_isPiece 4 (some .boolean) :: GW) rmX2_isPiece (PC G A [.ref (SA 0), .int x, .int y] (SS G SA X es k)) (qI A (fun r H => ∃ (j i : Nat) (v : Bool), j < es.length ∧ x = nI j ∧ i < 4 ∧ y = nI i ∧ (v = true ↔ (cutL (X 14) (bgE es j) (es.getD j 0)).length = (X i).length ∧ stL false (cutL (X 14) (bgE es j) (es.getD j 0)) (X i) 0) ∧ r = bI v ∧ SS G SA X es k H)) (xE A (fun E H => (E = "java/lang/IndexOutOfBoundsException" ∧ ((¬ ∃ j : Nat, j < es.length ∧ x = nI j) ∨ NT y)) ∧ SS G SA X es k H)) 2 12 A := by
  refine mstartX "Signtext" (by decide +kernel) rfl (Nat.le_of_ble_eq_true rfl) ?_
  intro p e s m below meth c ls hx hb hr hts hown hml hlocks hnx hC hA hW hl
  have hl : lv_has ls 4 [(0, .ref (SA 0)), (1, .int x), (2, .int y)] := hl
  have hK := hC.1
  have hS : va_S A s.heap s.heap [] := va_S.rf
  obtain ⟨T, es2, hW, hF⟩ := hW
  have hO := hW.2.1
  have hR1 := hW.2.2.1
  have hR2 := hW.2.2.2.1
  have e14 := hF 14 (Or.inr (Or.inr rfl))
  refine lv_aload_n hx hb dX2_isPiece_0 rfl (lv_at hl 0 rfl) ?_
  refine lv_iload_n hx hb dX2_isPiece_1 rfl (lv_at hl 1 rfl) ?_
  refine xV_V (A := A) (A1 := A) (b := (SA 0)) (As := [.int x]) (rest := []) ⟨hx, hb, hml, hown, hts⟩ (mX2_needPiece (A := A) hst ) (cwV 1 hts (gV tw_3_215 tw_3_217 sel_X2_needPiece tw_1_1 tw_3_218) rfl rfl rfl (by decide +kernel) ⟨Nat.le_of_ble_eq_true rfl, Nat.le_of_ble_eq_true rfl⟩) hC hS (fun _ h => h) (fun q h => hA q (Nat.le_trans hS.1 h)) (hW.recv hK) hW rfl rfl hl.1 (Nat.le_of_ble_eq_true rfl) ⟨Nat.le_trans (show 0 + 1 ≤ 2 by omega) (Nat.le_of_ble_eq_true rfl), Nat.le_trans (show 0 + 6 ≤ 12 by omega) (Nat.le_of_ble_eq_true rfl)⟩ dX2_isPiece_2 hnx hlocks (by omega) (by omega) (fun E H9 q _ => ⟨⟨q.1, Or.inl q.2.1⟩, _, _, q.2.2, hF⟩) (fun H7 L7 hP7 hk7 hS => ?_)
  have hZ7 := hS.1
  obtain ⟨⟨j, hj, rfl⟩, hW⟩ := hP7
  have hO := hW.2.1
  have hR1 := hW.2.2.1
  have hR2 := hW.2.2.2.1
  refine lv_aload_n hx hb dX2_isPiece_5 rfl (lv_at hl 0 rfl) ?_
  refine lv_iload_n hx hb dX2_isPiece_6 rfl (lv_at hl 2 rfl) ?_
  refine xR_V (A := A) (A1 := A) (b := (SA 0)) (As := [.int y]) (rest := []) ⟨hx, hb, hml, hown, hts⟩ (mX2_textOf (A := A) hst ) (cwV 1 hts (gV tw_3_4 tw_3_6 sel_X2_textOf tw_1_1 tw_3_7) rfl rfl rfl (by decide +kernel) ⟨Nat.le_of_ble_eq_true rfl, Nat.le_of_ble_eq_true rfl⟩) hC hS (fun _ h => h) (fun q h => hA q (Nat.le_trans hS.1 h)) (hW.recv hK) hW rfl rfl hl.1 (Nat.le_of_ble_eq_true rfl) ⟨Nat.le_trans (show (0 + 1) + 1 ≤ 2 by omega) (Nat.le_of_ble_eq_true rfl), Nat.le_trans (show (0 + 6) + 6 ≤ 12 by omega) (Nat.le_of_ble_eq_true rfl)⟩ dX2_isPiece_7 hnx hlocks (by omega) (by omega) (fun E H9 q _ => ⟨⟨q.1, Or.inr q.2.1⟩, _, _, q.2.2, hF⟩) (fun rv8 H8 L8 hP8 hk8 hS => ?_)
  have hZ8 := hS.1
  obtain ⟨⟨i, hi, hxi, hrv⟩, hW⟩ := hP8
  subst hrv
  have hO := hW.2.1
  have hR1 := hW.2.2.1
  have hR2 := hW.2.2.2.1
  have ei := hF i (Or.inl hi)
  refine lv_astore_n (lv' := [(3, .ref (SA (7 + 2 * i))), (0, .ref (SA 0)), (1, .int (nI j)), (2, .int y)]) hx hb dX2_isPiece_10 rfl hl (by decide) rfl (fun ls hl => ?_)
  refine lv_aload_n hx hb dX2_isPiece_11 rfl (lv_at hl 1 rfl) ?_
  refine lv_iload_n hx hb dX2_isPiece_12 rfl (lv_at hl 2 rfl) ?_
  refine lv_aload_n hx hb dX2_isPiece_13 rfl (lv_at hl 1 rfl) ?_
  refine va_get (D := G.1) (ci := 6) (C := RX2) (T := TX2) (N := 8) hx hb hts inX2 hown hK (at_P hO) 0 rfl rfl 5 (by decide) (hts _ tw_1_142) (fun _ h9 => h9) rfl dX2_isPiece_14 ?_
  refine qI_V (A := A) (A1 := A) (b := (SA 0)) (As := [.int (nI j), .ref (SA 31)]) (rest := []) ⟨hx, hb, hml, hown, hts⟩ (mX2_pieceInto (A := A) (q := 12) (j := j) hAS (by omega) hj) (cwV 2 hts (gV tw_3_219 tw_3_221 sel_X2_pieceInto tw_1_1 tw_3_222) rfl rfl rfl (by decide +kernel) ⟨Nat.le_of_ble_eq_true rfl, Nat.le_of_ble_eq_true rfl⟩) hC hS (fun _ h => h) (fun q h => hA q (Nat.le_trans hS.1 h)) (hW.recv hK) hW rfl rfl hl.1 (Nat.le_of_ble_eq_true rfl) ⟨Nat.le_trans (show ((0 + 1) + 1) ≤ 2 by omega) (Nat.le_of_ble_eq_true rfl), Nat.le_trans (show ((0 + 6) + 6) ≤ 12 by omega) (Nat.le_of_ble_eq_true rfl)⟩ dX2_isPiece_17 (fun rv9 H9 L9 hP9 hk9 hS => ?_)
  have hZ9 := hS.1
  rw [e14] at hP9
  have hW := hP9.2
  have hO := hW.2.1
  have hR1 := hW.2.2.1
  have hR2 := hW.2.2.2.1
  refine lv_pop hx hb dX2_isPiece_20 rfl ?_
  refine lv_aload_n hx hb dX2_isPiece_21 rfl (lv_at hl 1 rfl) ?_
  refine va_get (D := G.1) (ci := 6) (C := RX2) (T := TX2) (N := 8) hx hb hts inX2 hown hK (at_P hO) 0 rfl rfl 5 (by decide) (hts _ tw_1_142) (fun _ h9 => h9) rfl dX2_isPiece_22 ?_
  refine lv_aload_n hx hb dX2_isPiece_25 rfl (lv_at hl 0 rfl) ?_
  refine lv_iconst (v := nI 0) hx hb dX2_isPiece_26 (by decide) ?_
  have hLq := hW.line (i := 12) (by omega)
  rw [updT_s] at hLq
  have hLi := hW.line (i := i) (by omega)
  rw [updT_n (show i ≠ 12 by omega), updT_n (show i ≠ 13 by omega), ei] at hLi
  refine kV_i (A := A) (b := (SA 31)) (As := [.ref (SA (7 + 2 * i)), .int (bI false)]) (rest := []) ⟨hx, hb, hml, hown, hts⟩ (mX0_isSameAs (A := A) (ca := SA (8 + 2 * 12)) (cb := SA (8 + 2 * i)) (b0 := false)) (cwV 2 hts (gV tw_2_7 tw_2_8 tw_2_9 tw_1_2 tw_2_10) rfl rfl rfl (by decide +kernel) ⟨Nat.le_of_ble_eq_true rfl, Nat.le_of_ble_eq_true rfl⟩) hC hS hA (hLq.recv hK) ⟨hLq, hLi⟩ rfl rfl hl.1 (Nat.le_of_ble_eq_true rfl) ⟨Nat.le_trans (show ((0 + 1) + 1) ≤ 2 by omega) (Nat.le_of_ble_eq_true rfl), Nat.le_trans (show ((0 + 6) + 6) ≤ 12 by omega) (Nat.le_of_ble_eq_true rfl)⟩ dX2_isPiece_27 (fun r_10 hr_10 => ?_)
  obtain ⟨v, hv, rfl⟩ := hr_10
  exact vx_ret (q_z (b9 := v) hx hb hr hlocks dX2_isPiece_30 hS (by omega) (by omega) ⟨j, i, v, hj, rfl, hi, hxi, hv, rfl, _, _, hW, (FR.s12 (FR.s13 hF))⟩)

abbrev rmX2_signsOfAll : Room := { frames := 2, cells := 0, slots := 0, locals := 40 }
theorem mX2_signsOfAll {l : Launch} {G : Cx} {A : Nat → Prop} {SA : Nat → Nat} {T : Nat → List Nat} {es es2 : List Nat} {k : Int32} : Met l yX2_signsOfAll (.code yX2_signsOfAll cX2_signsOfAll 3 (some .int) :: GW) rmX2_signsOfAll (PC G A [.ref (SA 0)] (SW G SA T es es2 k)) (vp_Si (fun r => r = nI (sumL T 4))) 0 0 (fun _ => False) := by
  refine mstart "Signtext" (by decide +kernel) rfl (Nat.le_of_ble_eq_true rfl) ?_
  intro p e s m below meth c ls hx hb hr hts hown hml hlocks hname hC hA hW hl
  have hl : lv_has ls 3 [(0, .ref (SA 0))] := hl
  have hK := hC.1
  have hS : va_S A s.heap s.heap [] := va_S.rf
  have hO := hW.2.1
  have hR1 := hW.2.2.1
  have hR2 := hW.2.2.2.1
  refine lv_iconst (v := nI 0) hx hb dX2_signsOfAll_0 (by decide) ?_
  refine lv_istore_n (lv' := [(1, .int (nI 0)), (0, .ref (SA 0))]) hx hb dX2_signsOfAll_1 rfl hl (by decide) rfl (fun ls hl => ?_)
  refine lv_iconst (v := nI 0) hx hb dX2_signsOfAll_2 (by decide) ?_
  refine lv_istore_n (lv' := [(2, .int (nI 0)), (1, .int (nI 0)), (0, .ref (SA 0))]) hx hb dX2_signsOfAll_3 rfl hl (by decide) rfl (fun ls hl => ?_)
  have hl : lv_has ls 3 [(2, .int (nI 0)), (1, .int (nI (sumL T 0))), (0, .ref (SA 0))] := hl
  refine nloop (P := fun j => ∀ (ls : Array Slot) , lv_has ls 3 [(2, .int (nI j)), (1, .int (nI (sumL T j))), (0, .ref (SA 0))] → W p l e rmX2_signsOfAll s m [.ref (SA 0)].toArray below meth c s.heap [] 0 0 (MQ below (vp_Si (fun r => r = nI (sumL T 4))) [.ref (SA 0)].toArray s 0 0 (fun _ => False)) (F0 m 4 ls [])) 4 ?_ 0 (Nat.zero_le _) ls  hl 
  clear hl
  intro j hj ih ls  hl
  refine lv_iload_n hx hb dX2_signsOfAll_4 rfl (lv_at hl 0 rfl) ?_
  refine lv_iconst (v := nI 4) hx hb dX2_signsOfAll_5 (by decide) ?_
  refine b_ge (tgt := 27) hx hb dX2_signsOfAll_6 (by decide) (by omega) (by omega) (fun c_11 => ?_) (fun c_11 => ?_)
  · refine lv_iload_n hx hb dX2_signsOfAll_27 rfl (lv_at hl 1 rfl) ?_
    exact p_i hx hb hr hlocks dX2_signsOfAll_28 (by rw [show j = 4 by omega])
  · refine lv_iload_n hx hb dX2_signsOfAll_9 rfl (lv_at hl 1 rfl) ?_
    refine lv_aload_n hx hb dX2_signsOfAll_10 rfl (lv_at hl 2 rfl) ?_
    refine va_get (D := G.1) (ci := 6) (C := RX2) (T := TX2) (N := 8) hx hb hts inX2 hown hK (at_P hO) 0 rfl rfl 0 (by decide) (hts _ tw_1_137) (fun _ h9 => h9) rfl dX2_signsOfAll_11 ?_
    refine lv_iload_n hx hb dX2_signsOfAll_14 rfl (lv_at hl 0 rfl) ?_
    refine va_aldq (D := G.1) hx hb hK (at_P hR1) 0 3 rfl rfl (vp_in_nI (n := j) (N := 4) (by omega) (by omega)) dX2_signsOfAll_15 ?_
    refine v_cv (show va_rf _ = .ref (SA (7 + 2 * j)) from by rw [nI_clamp (n := j) (by omega)]; rfl) ?_
    refine kV_i (A := A) (b := (SA (7 + 2 * j))) (As := []) (rest := .int (nI (sumL T j)) :: []) ⟨hx, hb, hml, hown, hts⟩ (mX0_size (A := A) (ca := SA (8 + 2 * j))) (cwV 0 hts (gV tw_2_30 tw_2_12 tw_2_13 tw_1_2 tw_2_14) rfl rfl rfl (by decide +kernel) ⟨Nat.le_of_ble_eq_true rfl, Nat.le_of_ble_eq_true rfl⟩) hC hS hA ((hW.line (i := j) (by omega)).recv hK) (hW.line (i := j) (by omega)) rfl rfl hl.1 (Nat.le_of_ble_eq_true rfl) ⟨Nat.zero_le _, Nat.zero_le _⟩ dX2_signsOfAll_16 (fun r9 h9 => lv_cv h9 ?_)
    refine lv_iadd hx hb dX2_signsOfAll_19 ?_
    refine lv_cv (nI_add (sumL T j) ((T j).length)) ?_
    refine lv_istore_n (lv' := [(1, .int (nI (sumL T (j + 1)))), (2, .int (nI j)), (0, .ref (SA 0))]) hx hb dX2_signsOfAll_20 rfl hl (by decide) rfl (fun ls hl => ?_)
    refine lv_iinc (v := nI (j + 1)) (lv' := [(2, .int (nI (j + 1))), (1, .int (nI (sumL T (j + 1)))), (0, .ref (SA 0))]) hx hb dX2_signsOfAll_21 hl (k := 1) rfl (nI_add j 1) (by decide) rfl (fun ls hl => ?_)
    refine lv_goto (tgt := 4) hx hb dX2_signsOfAll_24 (by decide) ?_
    exact ih (j + 1) (by omega) (by omega) ls (lv_sub hl [0, 1, 2] rfl)

abbrev rmX2_emptyOnes : Room := { frames := 2, cells := 0, slots := 0, locals := 40 }
theorem mX2_emptyOnes {l : Launch} {G : Cx} {A : Nat → Prop} {SA : Nat → Nat} {T : Nat → List Nat} {es es2 : List Nat} {k : Int32} : Met l yX2_emptyOnes (.code yX2_emptyOnes cX2_emptyOnes 3 (some .int) :: GW) rmX2_emptyOnes (PC G A [.ref (SA 0)] (SW G SA T es es2 k)) (vp_Si (fun r => r = nI (cntE T 4))) 0 0 (fun _ => False) := by
  refine mstart "Signtext" (by decide +kernel) rfl (Nat.le_of_ble_eq_true rfl) ?_
  intro p e s m below meth c ls hx hb hr hts hown hml hlocks hname hC hA hW hl
  have hl : lv_has ls 3 [(0, .ref (SA 0))] := hl
  have hK := hC.1
  have hS : va_S A s.heap s.heap [] := va_S.rf
  have hO := hW.2.1
  have hR1 := hW.2.2.1
  have hR2 := hW.2.2.2.1
  refine lv_iconst (v := nI 0) hx hb dX2_emptyOnes_0 (by decide) ?_
  refine lv_istore_n (lv' := [(1, .int (nI 0)), (0, .ref (SA 0))]) hx hb dX2_emptyOnes_1 rfl hl (by decide) rfl (fun ls hl => ?_)
  refine lv_iconst (v := nI 0) hx hb dX2_emptyOnes_2 (by decide) ?_
  refine lv_istore_n (lv' := [(2, .int (nI 0)), (1, .int (nI 0)), (0, .ref (SA 0))]) hx hb dX2_emptyOnes_3 rfl hl (by decide) rfl (fun ls hl => ?_)
  have hl : lv_has ls 3 [(2, .int (nI 0)), (1, .int (nI (cntE T 0))), (0, .ref (SA 0))] := hl
  refine nloop (P := fun j => ∀ (ls : Array Slot) , lv_has ls 3 [(2, .int (nI j)), (1, .int (nI (cntE T j))), (0, .ref (SA 0))] → W p l e rmX2_emptyOnes s m [.ref (SA 0)].toArray below meth c s.heap [] 0 0 (MQ below (vp_Si (fun r => r = nI (cntE T 4))) [.ref (SA 0)].toArray s 0 0 (fun _ => False)) (F0 m 4 ls [])) 4 ?_ 0 (Nat.zero_le _) ls  hl 
  clear hl
  intro j hj ih ls  hl
  refine lv_iload_n hx hb dX2_emptyOnes_4 rfl (lv_at hl 0 rfl) ?_
  refine lv_iconst (v := nI 4) hx hb dX2_emptyOnes_5 (by decide) ?_
  refine b_ge (tgt := 30) hx hb dX2_emptyOnes_6 (by decide) (by omega) (by omega) (fun c_12 => ?_) (fun c_12 => ?_)
  · refine lv_iload_n hx hb dX2_emptyOnes_30 rfl (lv_at hl 1 rfl) ?_
    exact p_i hx hb hr hlocks dX2_emptyOnes_31 (by rw [show j = 4 by omega])
  · refine lv_aload_n hx hb dX2_emptyOnes_9 rfl (lv_at hl 2 rfl) ?_
    refine va_get (D := G.1) (ci := 6) (C := RX2) (T := TX2) (N := 8) hx hb hts inX2 hown hK (at_P hO) 0 rfl rfl 0 (by decide) (hts _ tw_1_137) (fun _ h9 => h9) rfl dX2_emptyOnes_10 ?_
    refine lv_iload_n hx hb dX2_emptyOnes_13 rfl (lv_at hl 0 rfl) ?_
    refine va_aldq (D := G.1) hx hb hK (at_P hR1) 0 3 rfl rfl (vp_in_nI (n := j) (N := 4) (by omega) (by omega)) dX2_emptyOnes_14 ?_
    refine v_cv (show va_rf _ = .ref (SA (7 + 2 * j)) from by rw [nI_clamp (n := j) (by omega)]; rfl) ?_
    have j60 := (hW.line (i := j) (by omega)).1
    refine kV_i (A := A) (b := (SA (7 + 2 * j))) (As := []) (rest := []) ⟨hx, hb, hml, hown, hts⟩ (mX0_size (A := A) (ca := SA (8 + 2 * j))) (cwV 0 hts (gV tw_2_30 tw_2_12 tw_2_13 tw_1_2 tw_2_14) rfl rfl rfl (by decide +kernel) ⟨Nat.le_of_ble_eq_true rfl, Nat.le_of_ble_eq_true rfl⟩) hC hS hA ((hW.line (i := j) (by omega)).recv hK) (hW.line (i := j) (by omega)) rfl rfl hl.1 (Nat.le_of_ble_eq_true rfl) ⟨Nat.zero_le _, Nat.zero_le _⟩ dX2_emptyOnes_15 (fun r9 h9 => lv_cv h9 ?_)
    refine z_ne (tgt := 24) hx hb dX2_emptyOnes_18 (by decide) (by omega) (fun c_13 => ?_) (fun c_13 => ?_)
    · refine lv_iinc (v := nI (j + 1)) (lv' := [(2, .int (nI (j + 1))), (1, .int (nI (cntE T j))), (0, .ref (SA 0))]) hx hb dX2_emptyOnes_24 hl (k := 0) rfl (nI_add j 1) (by decide) rfl (fun ls hl => ?_)
      refine lv_goto (tgt := 4) hx hb dX2_emptyOnes_27 (by decide) ?_
      have ec : cntE T (j + 1) = cntE T j := if_neg c_13
      rw [← ec] at hl
      exact ih (j + 1) (by omega) (by omega) ls (lv_sub hl [0, 1, 2] rfl)
    · refine lv_iinc (v := nI (cntE T j + 1)) (lv' := [(1, .int (nI (cntE T j + 1))), (2, .int (nI j)), (0, .ref (SA 0))]) hx hb dX2_emptyOnes_21 hl (k := 1) rfl (nI_add (cntE T j) 1) (by decide) rfl (fun ls hl => ?_)
      refine lv_iinc (v := nI (j + 1)) (lv' := [(2, .int (nI (j + 1))), (1, .int (nI (cntE T j + 1))), (0, .ref (SA 0))]) hx hb dX2_emptyOnes_24 hl (k := 1) rfl (nI_add j 1) (by decide) rfl (fun ls hl => ?_)
      refine lv_goto (tgt := 4) hx hb dX2_emptyOnes_27 (by decide) ?_
      have ec : cntE T (j + 1) = cntE T j + 1 := if_pos c_13
      rw [← ec] at hl
      exact ih (j + 1) (by omega) (by omega) ls (lv_sub hl [0, 1, 2] rfl)

abbrev rmX2_house : Room := { frames := 6, cells := 1, slots := 6, locals := 89 }
theorem mX2_house {l : Launch} {G : Cx} {A : Nat → Prop} (hst : l.stackTraces = false) {SA : Nat → Nat} {X : Nat → List Nat} {es : List Nat} {k : Int32} {x : Int32} (hAS : ∀ i : Nat, i < 39 → A (SA i)) : vx_Met l yX2_house (.code yX2_house cX2_house 2 (some .int) :: GW) rmX2_house (PC G A [.ref (SA 0), .int x] (SS G SA X es k)) (qI A (fun r H => ∃ w9 : Nat, w9 < 5 ∧ x = nI w9 ∧ r = hsV X es k w9 ∧ SS G SA X es k H)) (xE A (fun E H => (E = "java/lang/IllegalArgumentException" ∧ ¬ ∃ w9 : Nat, w9 < 5 ∧ x = nI w9) ∧ SS G SA X es k H)) 1 6 A := by
  refine mstartX "Signtext" (by decide +kernel) rfl (Nat.le_of_ble_eq_true rfl) ?_
  intro p e s m below meth c ls hx hb hr hts hown hml hlocks hnx hC hA hW hl
  have hl : lv_has ls 2 [(0, .ref (SA 0)), (1, .int x)] := hl
  have hK := hC.1
  have hS : va_S A s.heap s.heap [] := va_S.rf
  obtain ⟨T, es2, hW, hF⟩ := hW
  have hO := hW.2.1
  have hR1 := hW.2.2.1
  have hR2 := hW.2.2.2.1
  have e11 := hF 11 (Or.inr (Or.inl rfl))
  have eS := sumL_eq (n := 4) (fun i hi => hF i (Or.inl hi))
  have eE := cntE_eq (n := 4) (fun i hi => hF i (Or.inl hi))
  refine lv_iload_n hx hb dX2_house_0 rfl (lv_at hl 1 rfl) ?_
  by_cases h5 : ∃ w9 : Nat, w9 < 5 ∧ x = nI w9
  · obtain ⟨w9, hw9, rfl⟩ := h5
    match w9, hw9 with
    | 0, _ =>
      refine lv_tableIn (tgt := 36) (off := 35) hx hb dX2_house_1 (by decide) (by decide) (by decide) (by decide) ?_
      refine lv_aload_n hx hb dX2_house_36 rfl (lv_at hl 0 rfl) ?_
      refine va_get (D := G.1) (ci := 6) (C := RX2) (T := TX2) (N := 8) hx hb hts inX2 hown hK (at_P hO) 0 rfl rfl 2 (by decide) (hts _ tw_1_139) (fun _ h9 => h9) rfl dX2_house_37 ?_
      refine kV_i (A := A) (b := (SA 29)) (As := []) (rest := []) ⟨hx, hb, hml, hown, hts⟩ (mX0_size (A := A) (ca := SA (8 + 2 * 11))) (cwV 0 hts (gV tw_2_30 tw_2_12 tw_2_13 tw_1_2 tw_2_14) rfl rfl rfl (by decide +kernel) ⟨Nat.le_of_ble_eq_true rfl, Nat.le_of_ble_eq_true rfl⟩) hC hS hA ((hW.line (i := 11) (by omega)).recv hK) (hW.line (i := 11) (by omega)) rfl rfl hl.1 (Nat.le_of_ble_eq_true rfl) ⟨Nat.zero_le _, Nat.zero_le _⟩ dX2_house_40 (fun r9 h9 => lv_cv h9 ?_)
      rw [e11]
      exact vx_ret (q_i hx hb hr hlocks dX2_house_43 hS (by omega) (by omega) ⟨0, by decide, rfl, rfl, _, _, hW, hF⟩)
    | 1, _ =>
      refine lv_tableIn (tgt := 44) (off := 43) hx hb dX2_house_1 (by decide) (by decide) (by decide) (by decide) ?_
      refine lv_aload_n hx hb dX2_house_44 rfl (lv_at hl 0 rfl) ?_
      refine va_get (D := G.1) (ci := 6) (C := RX2) (T := TX2) (N := 8) hx hb hts inX2 hown hK (at_P hO) 0 rfl rfl 3 (by decide) (hts _ tw_1_140) (fun _ h9 => h9) rfl dX2_house_45 ?_
      refine kV_i (A := A) (b := (SA 3)) (As := []) (rest := []) ⟨hx, hb, hml, hown, hts⟩ (mX1_size (A := A) (la := SA 35) (ea := SA 4) (es := es)) (cwV 0 hts (gV tw_2_82 tw_2_83 tw_2_84 tw_1_3 tw_2_85) rfl rfl rfl (by decide +kernel) ⟨Nat.le_of_ble_eq_true rfl, Nat.le_of_ble_eq_true rfl⟩) hC hS hA (hW.pcs.1.recv hK) hW.pcs.1 rfl rfl hl.1 (Nat.le_of_ble_eq_true rfl) ⟨Nat.zero_le _, Nat.zero_le _⟩ dX2_house_48 (fun r9 h9 => lv_cv h9 ?_)
      exact vx_ret (q_i hx hb hr hlocks dX2_house_51 hS (by omega) (by omega) ⟨1, by decide, rfl, rfl, _, _, hW, hF⟩)
    | 2, _ =>
      refine lv_tableIn (tgt := 52) (off := 51) hx hb dX2_house_1 (by decide) (by decide) (by decide) (by decide) ?_
      refine lv_aload_n hx hb dX2_house_52 rfl (lv_at hl 0 rfl) ?_
      refine kV_i (A := A) (b := (SA 0)) (As := []) (rest := []) ⟨hx, hb, hml, hown, hts⟩ (mX2_signsOfAll (A := A) (SA := SA) (T := T) (es := es) (es2 := es2) (k := k)) (cwV 0 hts (gV tw_2_128 tw_2_130 sel_X2_signsOfAll tw_1_1 tw_2_131) rfl rfl rfl (by decide +kernel) ⟨Nat.le_of_ble_eq_true rfl, Nat.le_of_ble_eq_true rfl⟩) hC hS hA (hW.recv hK) hW rfl rfl hl.1 (Nat.le_of_ble_eq_true rfl) ⟨Nat.zero_le _, Nat.zero_le _⟩ dX2_house_53 (fun r9 h9 => lv_cv h9 ?_)
      rw [eS]
      exact vx_ret (q_i hx hb hr hlocks dX2_house_56 hS (by omega) (by omega) ⟨2, by decide, rfl, rfl, _, _, hW, hF⟩)
    | 3, _ =>
      refine lv_tableIn (tgt := 57) (off := 56) hx hb dX2_house_1 (by decide) (by decide) (by decide) (by decide) ?_
      refine lv_aload_n hx hb dX2_house_57 rfl (lv_at hl 0 rfl) ?_
      refine kV_i (A := A) (b := (SA 0)) (As := []) (rest := []) ⟨hx, hb, hml, hown, hts⟩ (mX2_emptyOnes (A := A) (SA := SA) (T := T) (es := es) (es2 := es2) (k := k)) (cwV 0 hts (gV tw_2_132 tw_2_134 sel_X2_emptyOnes tw_1_1 tw_2_135) rfl rfl rfl (by decide +kernel) ⟨Nat.le_of_ble_eq_true rfl, Nat.le_of_ble_eq_true rfl⟩) hC hS hA (hW.recv hK) hW rfl rfl hl.1 (Nat.le_of_ble_eq_true rfl) ⟨Nat.zero_le _, Nat.zero_le _⟩ dX2_house_58 (fun r9 h9 => lv_cv h9 ?_)
      rw [eE]
      exact vx_ret (q_i hx hb hr hlocks dX2_house_61 hS (by omega) (by omega) ⟨3, by decide, rfl, rfl, _, _, hW, hF⟩)
    | 4, _ =>
      refine lv_tableIn (tgt := 62) (off := 61) hx hb dX2_house_1 (by decide) (by decide) (by decide) (by decide) ?_
      refine lv_aload_n hx hb dX2_house_62 rfl (lv_at hl 0 rfl) ?_
      refine va_get (D := G.1) (ci := 6) (C := RX2) (T := TX2) (N := 8) hx hb hts inX2 hown hK (at_P hO) 0 rfl rfl 4 (by decide) (hts _ tw_1_141) (fun _ h9 => h9) rfl dX2_house_63 ?_
      exact vx_ret (q_i hx hb hr hlocks dX2_house_66 hS (by omega) (by omega) ⟨4, by decide, rfl, rfl, _, _, hW, hF⟩)
  · refine lv_tableOut (tgt := 67) hx hb dX2_house_1 (by rcases Int.lt_or_le x.toInt 0 with q | q; exact Or.inl q; rcases Int.lt_or_le 4 x.toInt with q2 | q2; exact Or.inr q2; exact absurd ⟨x.toInt.toNat, by omega, by rw [← Int32.toInt_inj, nI_toInt (by omega)]; omega⟩ h5) (by decide) ?_
    exact t_new (nL := 2) (cls := "java/lang/IllegalArgumentException") (ik := 81) (ic := 83) hx hb hst hown hts hC hS hl.1 hml (by decide +kernel) tw_2_136 tw_1_17 tA83 tB83 tG83 hnx hlocks (Nat.le_of_ble_eq_true rfl) (Nat.le_of_ble_eq_true rfl) (Nat.le_trans (show 0 + 1 ≤ 1 by omega) (Nat.le_of_ble_eq_true rfl)) (Nat.le_trans (show 0 + 6 ≤ 6 by omega) (Nat.le_of_ble_eq_true rfl)) (by omega) (by omega) dX2_house_67 dX2_house_70 dX2_house_71 dX2_house_74 (fun H9 hk9 => ⟨⟨rfl, h5⟩, _, _, hW.nw hk9, hF⟩)
end
/-! 28.cls7 -/
section
/-! The class, 7: whether all is sound (any answer) -/
theorem dX2_isSameTakenAgain_0 : decode cX2_isSameTakenAgain 0 = .ok (.aload_n 0, 1) := by decide +kernel
theorem dX2_isSameTakenAgain_1 : decode cX2_isSameTakenAgain 1 = .ok (.getfield 34, 3) := by decide +kernel
theorem dX2_isSameTakenAgain_4 : decode cX2_isSameTakenAgain 4 = .ok (.aload_n 1, 1) := by decide +kernel
theorem dX2_isSameTakenAgain_5 : decode cX2_isSameTakenAgain 5 = .ok (.invokevirtual 91, 3) := by decide +kernel
theorem dX2_isSameTakenAgain_8 : decode cX2_isSameTakenAgain 8 = .ok (.aload_n 0, 1) := by decide +kernel
theorem dX2_isSameTakenAgain_9 : decode cX2_isSameTakenAgain 9 = .ok (.getfield 37, 3) := by decide +kernel
theorem dX2_isSameTakenAgain_12 : decode cX2_isSameTakenAgain 12 = .ok (.aload_n 0, 1) := by decide +kernel
theorem dX2_isSameTakenAgain_13 : decode cX2_isSameTakenAgain 13 = .ok (.getfield 34, 3) := by decide +kernel
theorem dX2_isSameTakenAgain_16 : decode cX2_isSameTakenAgain 16 = .ok (.invokevirtual 91, 3) := by decide +kernel
theorem dX2_isSameTakenAgain_19 : decode cX2_isSameTakenAgain 19 = .ok (.aload_n 0, 1) := by decide +kernel
theorem dX2_isSameTakenAgain_20 : decode cX2_isSameTakenAgain 20 = .ok (.getfield 37, 3) := by decide +kernel
theorem dX2_isSameTakenAgain_23 : decode cX2_isSameTakenAgain 23 = .ok (.aload_n 1, 1) := by decide +kernel
theorem dX2_isSameTakenAgain_24 : decode cX2_isSameTakenAgain 24 = .ok (.iconst 0, 1) := by decide +kernel
theorem dX2_isSameTakenAgain_25 : decode cX2_isSameTakenAgain 25 = .ok (.invokevirtual 179, 3) := by decide +kernel
theorem dX2_isSameTakenAgain_28 : decode cX2_isSameTakenAgain 28 = .ok (.ireturn, 1) := by decide +kernel
theorem dX2_isSameInTwoParts_0 : decode cX2_isSameInTwoParts 0 = .ok (.iconst 0, 1) := by decide +kernel
theorem dX2_isSameInTwoParts_1 : decode cX2_isSameInTwoParts 1 = .ok (.istore_n 2, 1) := by decide +kernel
theorem dX2_isSameInTwoParts_2 : decode cX2_isSameInTwoParts 2 = .ok (.iload_n 2, 1) := by decide +kernel
theorem dX2_isSameInTwoParts_3 : decode cX2_isSameInTwoParts 3 = .ok (.aload_n 1, 1) := by decide +kernel
theorem dX2_isSameInTwoParts_4 : decode cX2_isSameInTwoParts 4 = .ok (.invokevirtual 66, 3) := by decide +kernel
theorem dX2_isSameInTwoParts_7 : decode cX2_isSameInTwoParts 7 = .ok (.if_icmp .gt 53, 3) := by decide +kernel
theorem dX2_isSameInTwoParts_10 : decode cX2_isSameInTwoParts 10 = .ok (.aload_n 0, 1) := by decide +kernel
theorem dX2_isSameInTwoParts_11 : decode cX2_isSameInTwoParts 11 = .ok (.getfield 37, 3) := by decide +kernel
theorem dX2_isSameInTwoParts_14 : decode cX2_isSameInTwoParts 14 = .ok (.invokevirtual 55, 3) := by decide +kernel
theorem dX2_isSameInTwoParts_17 : decode cX2_isSameInTwoParts 17 = .ok (.aload_n 0, 1) := by decide +kernel
theorem dX2_isSameInTwoParts_18 : decode cX2_isSameInTwoParts 18 = .ok (.getfield 37, 3) := by decide +kernel
theorem dX2_isSameInTwoParts_21 : decode cX2_isSameInTwoParts 21 = .ok (.aload_n 1, 1) := by decide +kernel
theorem dX2_isSameInTwoParts_22 : decode cX2_isSameInTwoParts 22 = .ok (.iconst 0, 1) := by decide +kernel
theorem dX2_isSameInTwoParts_23 : decode cX2_isSameInTwoParts 23 = .ok (.iload_n 2, 1) := by decide +kernel
theorem dX2_isSameInTwoParts_24 : decode cX2_isSameInTwoParts 24 = .ok (.invokevirtual 235, 3) := by decide +kernel
theorem dX2_isSameInTwoParts_27 : decode cX2_isSameInTwoParts 27 = .ok (.aload_n 0, 1) := by decide +kernel
theorem dX2_isSameInTwoParts_28 : decode cX2_isSameInTwoParts 28 = .ok (.getfield 37, 3) := by decide +kernel
theorem dX2_isSameInTwoParts_31 : decode cX2_isSameInTwoParts 31 = .ok (.aload_n 1, 1) := by decide +kernel
theorem dX2_isSameInTwoParts_32 : decode cX2_isSameInTwoParts 32 = .ok (.iload_n 2, 1) := by decide +kernel
theorem dX2_isSameInTwoParts_33 : decode cX2_isSameInTwoParts 33 = .ok (.aload_n 1, 1) := by decide +kernel
theorem dX2_isSameInTwoParts_34 : decode cX2_isSameInTwoParts 34 = .ok (.invokevirtual 66, 3) := by decide +kernel
theorem dX2_isSameInTwoParts_37 : decode cX2_isSameInTwoParts 37 = .ok (.invokevirtual 235, 3) := by decide +kernel
theorem dX2_isSameInTwoParts_40 : decode cX2_isSameInTwoParts 40 = .ok (.aload_n 0, 1) := by decide +kernel
theorem dX2_isSameInTwoParts_41 : decode cX2_isSameInTwoParts 41 = .ok (.getfield 37, 3) := by decide +kernel
theorem dX2_isSameInTwoParts_44 : decode cX2_isSameInTwoParts 44 = .ok (.aload_n 1, 1) := by decide +kernel
theorem dX2_isSameInTwoParts_45 : decode cX2_isSameInTwoParts 45 = .ok (.iconst 0, 1) := by decide +kernel
theorem dX2_isSameInTwoParts_46 : decode cX2_isSameInTwoParts 46 = .ok (.invokevirtual 179, 3) := by decide +kernel
theorem dX2_isSameInTwoParts_49 : decode cX2_isSameInTwoParts 49 = .ok (.ifCond .ne 5, 3) := by decide +kernel
theorem dX2_isSameInTwoParts_52 : decode cX2_isSameInTwoParts 52 = .ok (.iconst 0, 1) := by decide +kernel
theorem dX2_isSameInTwoParts_53 : decode cX2_isSameInTwoParts 53 = .ok (.ireturn, 1) := by decide +kernel
theorem dX2_isSameInTwoParts_54 : decode cX2_isSameInTwoParts 54 = .ok (.iinc 2 1, 3) := by decide +kernel
theorem dX2_isSameInTwoParts_57 : decode cX2_isSameInTwoParts 57 = .ok (.goto (-55), 3) := by decide +kernel
theorem dX2_isSameInTwoParts_60 : decode cX2_isSameInTwoParts 60 = .ok (.iconst 1, 1) := by decide +kernel
theorem dX2_isSameInTwoParts_61 : decode cX2_isSameInTwoParts 61 = .ok (.ireturn, 1) := by decide +kernel
theorem dX2_isSameTrimmedAgain_0 : decode cX2_isSameTrimmedAgain 0 = .ok (.aload_n 0, 1) := by decide +kernel
theorem dX2_isSameTrimmedAgain_1 : decode cX2_isSameTrimmedAgain 1 = .ok (.aload_n 1, 1) := by decide +kernel
theorem dX2_isSameTrimmedAgain_2 : decode cX2_isSameTrimmedAgain 2 = .ok (.aload_n 1, 1) := by decide +kernel
theorem dX2_isSameTrimmedAgain_3 : decode cX2_isSameTrimmedAgain 3 = .ok (.iload_n 2, 1) := by decide +kernel
theorem dX2_isSameTrimmedAgain_4 : decode cX2_isSameTrimmedAgain 4 = .ok (.invokevirtual 94, 3) := by decide +kernel
theorem dX2_isSameTrimmedAgain_7 : decode cX2_isSameTrimmedAgain 7 = .ok (.aload_n 1, 1) := by decide +kernel
theorem dX2_isSameTrimmedAgain_8 : decode cX2_isSameTrimmedAgain 8 = .ok (.iload_n 2, 1) := by decide +kernel
theorem dX2_isSameTrimmedAgain_9 : decode cX2_isSameTrimmedAgain 9 = .ok (.invokevirtual 98, 3) := by decide +kernel
theorem dX2_isSameTrimmedAgain_12 : decode cX2_isSameTrimmedAgain 12 = .ok (.aload_n 0, 1) := by decide +kernel
theorem dX2_isSameTrimmedAgain_13 : decode cX2_isSameTrimmedAgain 13 = .ok (.getfield 34, 3) := by decide +kernel
theorem dX2_isSameTrimmedAgain_16 : decode cX2_isSameTrimmedAgain 16 = .ok (.invokevirtual 70, 3) := by decide +kernel
theorem dX2_isSameTrimmedAgain_19 : decode cX2_isSameTrimmedAgain 19 = .ok (.pop, 1) := by decide +kernel
theorem dX2_isSameTrimmedAgain_20 : decode cX2_isSameTrimmedAgain 20 = .ok (.aload_n 0, 1) := by decide +kernel
theorem dX2_isSameTrimmedAgain_21 : decode cX2_isSameTrimmedAgain 21 = .ok (.aload_n 0, 1) := by decide +kernel
theorem dX2_isSameTrimmedAgain_22 : decode cX2_isSameTrimmedAgain 22 = .ok (.getfield 34, 3) := by decide +kernel
theorem dX2_isSameTrimmedAgain_25 : decode cX2_isSameTrimmedAgain 25 = .ok (.aload_n 0, 1) := by decide +kernel
theorem dX2_isSameTrimmedAgain_26 : decode cX2_isSameTrimmedAgain 26 = .ok (.getfield 34, 3) := by decide +kernel
theorem dX2_isSameTrimmedAgain_29 : decode cX2_isSameTrimmedAgain 29 = .ok (.iload_n 2, 1) := by decide +kernel
theorem dX2_isSameTrimmedAgain_30 : decode cX2_isSameTrimmedAgain 30 = .ok (.invokevirtual 94, 3) := by decide +kernel
theorem dX2_isSameTrimmedAgain_33 : decode cX2_isSameTrimmedAgain 33 = .ok (.aload_n 0, 1) := by decide +kernel
theorem dX2_isSameTrimmedAgain_34 : decode cX2_isSameTrimmedAgain 34 = .ok (.getfield 34, 3) := by decide +kernel
theorem dX2_isSameTrimmedAgain_37 : decode cX2_isSameTrimmedAgain 37 = .ok (.iload_n 2, 1) := by decide +kernel
theorem dX2_isSameTrimmedAgain_38 : decode cX2_isSameTrimmedAgain 38 = .ok (.invokevirtual 98, 3) := by decide +kernel
theorem dX2_isSameTrimmedAgain_41 : decode cX2_isSameTrimmedAgain 41 = .ok (.aload_n 0, 1) := by decide +kernel
theorem dX2_isSameTrimmedAgain_42 : decode cX2_isSameTrimmedAgain 42 = .ok (.getfield 37, 3) := by decide +kernel
theorem dX2_isSameTrimmedAgain_45 : decode cX2_isSameTrimmedAgain 45 = .ok (.invokevirtual 70, 3) := by decide +kernel
theorem dX2_isSameTrimmedAgain_48 : decode cX2_isSameTrimmedAgain 48 = .ok (.pop, 1) := by decide +kernel
theorem dX2_isSameTrimmedAgain_49 : decode cX2_isSameTrimmedAgain 49 = .ok (.aload_n 0, 1) := by decide +kernel
theorem dX2_isSameTrimmedAgain_50 : decode cX2_isSameTrimmedAgain 50 = .ok (.getfield 37, 3) := by decide +kernel
theorem dX2_isSameTrimmedAgain_53 : decode cX2_isSameTrimmedAgain 53 = .ok (.aload_n 0, 1) := by decide +kernel
theorem dX2_isSameTrimmedAgain_54 : decode cX2_isSameTrimmedAgain 54 = .ok (.getfield 34, 3) := by decide +kernel
theorem dX2_isSameTrimmedAgain_57 : decode cX2_isSameTrimmedAgain 57 = .ok (.iconst 0, 1) := by decide +kernel
theorem dX2_isSameTrimmedAgain_58 : decode cX2_isSameTrimmedAgain 58 = .ok (.invokevirtual 179, 3) := by decide +kernel
theorem dX2_isSameTrimmedAgain_61 : decode cX2_isSameTrimmedAgain 61 = .ok (.ireturn, 1) := by decide +kernel
theorem dX2_isSoundPair_0 : decode cX2_isSoundPair 0 = .ok (.aload_n 0, 1) := by decide +kernel
theorem dX2_isSoundPair_1 : decode cX2_isSoundPair 1 = .ok (.aload_n 1, 1) := by decide +kernel
theorem dX2_isSoundPair_2 : decode cX2_isSoundPair 2 = .ok (.iconst 0, 1) := by decide +kernel
theorem dX2_isSoundPair_3 : decode cX2_isSoundPair 3 = .ok (.invokevirtual 183, 3) := by decide +kernel
theorem dX2_isSoundPair_6 : decode cX2_isSoundPair 6 = .ok (.istore_n 2, 1) := by decide +kernel
theorem dX2_isSoundPair_7 : decode cX2_isSoundPair 7 = .ok (.aload_n 0, 1) := by decide +kernel
theorem dX2_isSoundPair_8 : decode cX2_isSoundPair 8 = .ok (.aload_n 1, 1) := by decide +kernel
theorem dX2_isSoundPair_9 : decode cX2_isSoundPair 9 = .ok (.iconst 0, 1) := by decide +kernel
theorem dX2_isSoundPair_10 : decode cX2_isSoundPair 10 = .ok (.invokevirtual 179, 3) := by decide +kernel
theorem dX2_isSoundPair_13 : decode cX2_isSoundPair 13 = .ok (.istore_n 3, 1) := by decide +kernel
theorem dX2_isSoundPair_14 : decode cX2_isSoundPair 14 = .ok (.aload_n 0, 1) := by decide +kernel
theorem dX2_isSoundPair_15 : decode cX2_isSoundPair 15 = .ok (.aload_n 1, 1) := by decide +kernel
theorem dX2_isSoundPair_16 : decode cX2_isSoundPair 16 = .ok (.invokevirtual 168, 3) := by decide +kernel
theorem dX2_isSoundPair_19 : decode cX2_isSoundPair 19 = .ok (.istore 4, 2) := by decide +kernel
theorem dX2_isSoundPair_21 : decode cX2_isSoundPair 21 = .ok (.aload_n 0, 1) := by decide +kernel
theorem dX2_isSoundPair_22 : decode cX2_isSoundPair 22 = .ok (.aload_n 1, 1) := by decide +kernel
theorem dX2_isSoundPair_23 : decode cX2_isSoundPair 23 = .ok (.invokevirtual 172, 3) := by decide +kernel
theorem dX2_isSoundPair_26 : decode cX2_isSoundPair 26 = .ok (.istore 5, 2) := by decide +kernel
theorem dX2_isSoundPair_28 : decode cX2_isSoundPair 28 = .ok (.iload_n 3, 1) := by decide +kernel
theorem dX2_isSoundPair_29 : decode cX2_isSoundPair 29 = .ok (.iload_n 2, 1) := by decide +kernel
theorem dX2_isSoundPair_30 : decode cX2_isSoundPair 30 = .ok (.ifCond .ne 7, 3) := by decide +kernel
theorem dX2_isSoundPair_33 : decode cX2_isSoundPair 33 = .ok (.iconst 1, 1) := by decide +kernel
theorem dX2_isSoundPair_34 : decode cX2_isSoundPair 34 = .ok (.goto 4, 3) := by decide +kernel
theorem dX2_isSoundPair_37 : decode cX2_isSoundPair 37 = .ok (.iconst 0, 1) := by decide +kernel
theorem dX2_isSoundPair_38 : decode cX2_isSoundPair 38 = .ok (.if_icmp .ne 59, 3) := by decide +kernel
theorem dX2_isSoundPair_41 : decode cX2_isSoundPair 41 = .ok (.iload_n 2, 1) := by decide +kernel
theorem dX2_isSoundPair_42 : decode cX2_isSoundPair 42 = .ok (.aload_n 1, 1) := by decide +kernel
theorem dX2_isSoundPair_43 : decode cX2_isSoundPair 43 = .ok (.aload_n 0, 1) := by decide +kernel
theorem dX2_isSoundPair_44 : decode cX2_isSoundPair 44 = .ok (.iconst 0, 1) := by decide +kernel
theorem dX2_isSoundPair_45 : decode cX2_isSoundPair 45 = .ok (.invokevirtual 183, 3) := by decide +kernel
theorem dX2_isSoundPair_48 : decode cX2_isSoundPair 48 = .ok (.ineg, 1) := by decide +kernel
theorem dX2_isSoundPair_49 : decode cX2_isSoundPair 49 = .ok (.if_icmp .ne 48, 3) := by decide +kernel
theorem dX2_isSoundPair_52 : decode cX2_isSoundPair 52 = .ok (.iload_n 3, 1) := by decide +kernel
theorem dX2_isSoundPair_53 : decode cX2_isSoundPair 53 = .ok (.ifCond .eq 14, 3) := by decide +kernel
theorem dX2_isSoundPair_56 : decode cX2_isSoundPair 56 = .ok (.aload_n 0, 1) := by decide +kernel
theorem dX2_isSoundPair_57 : decode cX2_isSoundPair 57 = .ok (.invokevirtual 154, 3) := by decide +kernel
theorem dX2_isSoundPair_60 : decode cX2_isSoundPair 60 = .ok (.aload_n 1, 1) := by decide +kernel
theorem dX2_isSoundPair_61 : decode cX2_isSoundPair 61 = .ok (.invokevirtual 154, 3) := by decide +kernel
theorem dX2_isSoundPair_64 : decode cX2_isSoundPair 64 = .ok (.if_icmp .ne 33, 3) := by decide +kernel
theorem dX2_isSoundPair_67 : decode cX2_isSoundPair 67 = .ok (.aload_n 0, 1) := by decide +kernel
theorem dX2_isSoundPair_68 : decode cX2_isSoundPair 68 = .ok (.aload_n 1, 1) := by decide +kernel
theorem dX2_isSoundPair_69 : decode cX2_isSoundPair 69 = .ok (.invokevirtual 175, 3) := by decide +kernel
theorem dX2_isSoundPair_72 : decode cX2_isSoundPair 72 = .ok (.iload 4, 2) := by decide +kernel
theorem dX2_isSoundPair_74 : decode cX2_isSoundPair 74 = .ok (.iconst (-1), 1) := by decide +kernel
theorem dX2_isSoundPair_75 : decode cX2_isSoundPair 75 = .ok (.if_icmp .eq 7, 3) := by decide +kernel
theorem dX2_isSoundPair_78 : decode cX2_isSoundPair 78 = .ok (.iconst 1, 1) := by decide +kernel
theorem dX2_isSoundPair_79 : decode cX2_isSoundPair 79 = .ok (.goto 4, 3) := by decide +kernel
theorem dX2_isSoundPair_82 : decode cX2_isSoundPair 82 = .ok (.iconst 0, 1) := by decide +kernel
theorem dX2_isSoundPair_83 : decode cX2_isSoundPair 83 = .ok (.if_icmp .ne 14, 3) := by decide +kernel
theorem dX2_isSoundPair_86 : decode cX2_isSoundPair 86 = .ok (.iload 5, 2) := by decide +kernel
theorem dX2_isSoundPair_88 : decode cX2_isSoundPair 88 = .ok (.iload 4, 2) := by decide +kernel
theorem dX2_isSoundPair_90 : decode cX2_isSoundPair 90 = .ok (.if_icmp .lt 7, 3) := by decide +kernel
theorem dX2_isSoundPair_93 : decode cX2_isSoundPair 93 = .ok (.iconst 1, 1) := by decide +kernel
theorem dX2_isSoundPair_94 : decode cX2_isSoundPair 94 = .ok (.goto 4, 3) := by decide +kernel
theorem dX2_isSoundPair_97 : decode cX2_isSoundPair 97 = .ok (.iconst 0, 1) := by decide +kernel
theorem dX2_isSoundPair_98 : decode cX2_isSoundPair 98 = .ok (.ireturn, 1) := by decide +kernel
theorem mX0_become_s {l : Launch} {G : Cx} {A : Nat → Prop} {a ca : Nat} {t : List Nat} (hAa : A a) (hAca : A ca) : Met l yX0_become (.code yX0_become cX0_become 3 (none : Option Jvm.ClassFile.FieldType) :: GW) rmX0_become (PC G A [.ref a, .ref a] (LA G a ca t)) (qV A (LA G a ca t)) 0 0 (A) := by
  refine mstart "Signtext$Line" (by decide +kernel) rfl (Nat.le_of_ble_eq_true rfl) ?_
  intro p e s m below meth c ls hx hb hr hts hown hml hlocks hname hC hA hW hl
  have hl : lv_has ls 3 [(0, .ref a), (1, .ref a)] := hl
  have hK := hC.1
  have hS : va_S A s.heap s.heap [] := va_S.rf
  have hq9 := hW
  obtain ⟨t60, tok, tne, hO, f, hF, hf⟩ := hq9
  refine lv_aload_n hx hb dX0_become_0 rfl (lv_at hl 0 rfl) ?_
  refine lv_aload_n hx hb dX0_become_1 rfl (lv_at hl 1 rfl) ?_
  refine va_get (D := G.1) (ci := 4) (C := RX0) (T := TX0) (N := 2) hx hb hts inX0 hown hK (at_P hO) 0 rfl rfl 1 (by decide) (hts _ tw_1_45) (fun _ h9 => h9) rfl dX0_become_2 ?_
  refine h_put (D := G.1) (ci := 4) (C := RX0) (T := TX0) (N := 2) hx hb hts inX0 tyX0 tyX0_ok nmX0 hown hK hO hS hAa rfl 1 (by decide) (hts _ tw_1_45) (fun _ h9 => h9) rfl (tyX0_ok 1 (by decide)) rfl rfl (Nat.le_of_ble_eq_true rfl) dX0_become_5 (fun H1 L1 hO z1 o1 hS => ?_)
  have hO : va_at G.1 vwCl (a, .inr (4, [.ref ca, .int (nI t.length)])) H1 := hO
  have hF := at_o hF o1 (Ne.symm tne)
  have hZ1 := hS.1
  refine lv_iconst (v := nI 0) hx hb dX0_become_8 (by decide) ?_
  refine lv_istore_n (lv' := [(2, .int (nI 0)), (0, .ref a), (1, .ref a)]) hx hb dX0_become_9 rfl hl (by decide) rfl (fun ls hl => ?_)
  refine nloop (P := fun j => ∀ (ls : Array Slot) (H : Heap) (L : List Loc) (f : Nat → Int32), lv_has ls 3 [(2, .int (nI j)), (0, .ref a), (1, .ref a)] → va_S A s.heap H L → va_at G.1 vwCl (a, .inr (4, [.ref ca, .int (nI t.length)])) H → va_at G.1 vwCl (ca, .inl (G.2.1 1, 60, .inl f)) H → (∀ k : Nat, k < t.length → f k = nI (t.getD k 0)) → W p l e rmX0_become s m [.ref a, .ref a].toArray below meth c H L 0 0 (MQ below (qV A (LA G a ca t)) [.ref a, .ref a].toArray s 0 0 (A)) (F0 m 10 ls [])) t.length ?_ 0 (Nat.zero_le _) ls H1 L1 f hl hS hO hF hf
  clear hl
  intro j hj ih ls H L f hl
  clear hS hO hF hf
  intro hS hO hF hf
  refine lv_iload_n hx hb dX0_become_10 rfl (lv_at hl 0 rfl) ?_
  refine lv_aload_n hx hb dX0_become_11 rfl (lv_at hl 1 rfl) ?_
  refine va_get (D := G.1) (ci := 4) (C := RX0) (T := TX0) (N := 2) hx hb hts inX0 hown hK (at_P hO) 0 rfl rfl 1 (by decide) (hts _ tw_1_45) (fun _ h9 => h9) rfl dX0_become_12 ?_
  refine b_ge (tgt := 36) hx hb dX0_become_15 (by decide) (by omega) (by omega) (fun c_2 => ?_) (fun c_2 => ?_)
  · exact q_v hx hb hr hlocks dX0_become_36 hS (Nat.le_refl _) (Nat.le_refl _) ⟨t60, tok, tne, hO, f, hF, hf⟩
  · refine lv_aload_n hx hb dX0_become_18 rfl (lv_at hl 1 rfl) ?_
    refine va_get (D := G.1) (ci := 4) (C := RX0) (T := TX0) (N := 2) hx hb hts inX0 hown hK (at_P hO) 0 rfl rfl 0 (by decide) (hts _ tw_1_44) (fun _ h9 => h9) rfl dX0_become_19 ?_
    refine lv_iload_n hx hb dX0_become_22 rfl (lv_at hl 0 rfl) ?_
    refine lv_aload_n hx hb dX0_become_23 rfl (lv_at hl 2 rfl) ?_
    refine va_get (D := G.1) (ci := 4) (C := RX0) (T := TX0) (N := 2) hx hb hts inX0 hown hK (at_P hO) 0 rfl rfl 0 (by decide) (hts _ tw_1_44) (fun _ h9 => h9) rfl dX0_become_24 ?_
    refine lv_iload_n hx hb dX0_become_27 rfl (lv_at hl 0 rfl) ?_
    refine va_cald hx hb hK (at_P hF) 0 1 rfl rfl (vp_in_nI (n := j) (N := 60) (by omega) (by omega)) dX0_become_28 ?_
    refine lv_cv (show _ = nI (t.getD j 0) from by rw [nI_clamp (by omega)]; exact hf _ (by omega)) ?_
    have tokj := tok j
    refine h_cst (D := G.1) hx hb hK 1 hF rfl hS hAca (vp_in_nI (n := j) (N := 60) (by omega) (by omega)) dX0_become_29 (fun H3 L3 hF z3 o3 hS => ?_)
    rw [nI_clamp (n := j) (by omega)] at hF
    have hO := at_o hO o3 tne
    have hZ3 := hS.1
    refine lv_iinc (v := nI (j + 1)) (lv' := [(2, .int (nI (j + 1))), (0, .ref a), (1, .ref a)]) hx hb dX0_become_30 hl (k := 0) rfl (nI_add j 1) (by decide) rfl (fun ls hl => ?_)
    refine lv_goto (tgt := 10) hx hb dX0_become_33 (by decide) ?_
    exact ih (j + 1) (by omega) (by omega) ls H3 L3 _ (lv_sub hl [0, 1, 2] rfl) hS hO hF (fun k hk => by by_cases q : k = j; rw [q, pk_us, nar_char (by omega)]; rw [pk_un q]; exact hf k hk)

theorem mX2_partInto_d {l : Launch} {G : Cx} {A : Nat → Prop} {SA : Nat → Nat} {T : Nat → List Nat} {es es2 : List Nat} {k : Int32} {i a9 b9 : Nat} (hAS : ∀ i : Nat, i < 39 → A (SA i)) (hi : i < 16) (hi13 : i ≠ 13) (hab : a9 ≤ b9) (hb9 : b9 ≤ (T i).length) : Met l yX2_partInto (.code yX2_partInto cX2_partInto 5 (some .int) :: GW) rmX2_partInto (PC G A [.ref (SA 0), .ref (SA (7 + 2 * i)), .int (nI a9), .int (nI b9), .ref (SA (7 + 2 * 13))] (SW G SA T es es2 k)) (qI A (fun r H => r = nI (cutL (T i) a9 b9).length ∧ SW G SA (updT T 13 (cutL (T i) a9 b9)) es es2 k H)) 0 0 (A) := by
  refine mstart "Signtext" (by decide +kernel) rfl (Nat.le_of_ble_eq_true rfl) ?_
  intro p e s m below meth c ls hx hb hr hts hown hml hlocks hname hC hA hW hl
  have hl : lv_has ls 5 [(0, .ref (SA 0)), (1, .ref (SA (7 + 2 * i))), (2, .int (nI a9)), (3, .int (nI b9)), (4, .ref (SA (7 + 2 * 13)))] := hl
  have hK := hC.1
  have hS : va_S A s.heap s.heap [] := va_S.rf
  have i60 := (hW.line hi).1
  have h60 : (cutL (T i) a9 b9).length ≤ 60 := Nat.le_trans (cutL_le _ _ _) i60
  have hO := hW.2.1
  have hR1 := hW.2.2.1
  have hR2 := hW.2.2.2.1
  refine lv_aload_n hx hb dX2_partInto_0 rfl (lv_at hl 0 rfl) ?_
  refine va_get (D := G.1) (ci := 6) (C := RX2) (T := TX2) (N := 8) hx hb hts inX2 hown hK (at_P hO) 0 rfl rfl 6 (by decide) (hts _ tw_1_143) (fun _ h9 => h9) rfl dX2_partInto_1 ?_
  refine qV_V (A := A) (A1 := ow (SA (7 + 2 * 13)) (SA (8 + 2 * 13)) s.heap.size) (b := (SA 33)) (As := []) (rest := []) ⟨hx, hb, hml, hown, hts⟩ (mX0_empty (A := ow (SA (7 + 2 * 13)) (SA (8 + 2 * 13)) s.heap.size) (ca := SA (8 + 2 * 13)) (Or.inl rfl)) (cwV 0 hts (gV tw_2_31 tw_2_32 tw_2_33 tw_1_2 tw_2_34) rfl rfl rfl (by decide +kernel) ⟨Nat.le_of_ble_eq_true rfl, Nat.le_of_ble_eq_true rfl⟩) hC hS (ow_in (hAS _ (by omega)) (hAS _ (by omega)) hA (Nat.le_refl _)) ow_n ((hW.line (i := 13) (by omega)).recv hK) (hW.line (i := 13) (by omega)) rfl rfl hl.1 (Nat.le_of_ble_eq_true rfl) ⟨Nat.zero_le _, Nat.zero_le _⟩ dX2_partInto_4 (fun H4 L4 hP4 hk4 hS => ?_)
  have hZ4 := hS.1
  have hW := hW.put (q := 13) (t := []) (by omega) hk4 hP4
  have hO := hW.2.1
  have hR1 := hW.2.2.1
  have hR2 := hW.2.2.2.1
  refine lv_aload_n hx hb dX2_partInto_7 rfl (lv_at hl 0 rfl) ?_
  refine va_get (D := G.1) (ci := 6) (C := RX2) (T := TX2) (N := 8) hx hb hts inX2 hown hK (at_P hO) 0 rfl rfl 6 (by decide) (hts _ tw_1_143) (fun _ h9 => h9) rfl dX2_partInto_8 ?_
  refine lv_aload_n hx hb dX2_partInto_11 rfl (lv_at hl 1 rfl) ?_
  refine lv_iload_n hx hb dX2_partInto_12 rfl (lv_at hl 2 rfl) ?_
  refine lv_iload_n hx hb dX2_partInto_13 rfl (lv_at hl 3 rfl) ?_
  have e1 : updT T 13 [] i = T i := updT_n hi13
  refine qV_V (A := A) (A1 := ow (SA (7 + 2 * 13)) (SA (8 + 2 * 13)) H4.size) (b := (SA 33)) (As := [.ref (SA (7 + 2 * i)), .int (nI a9), .int (nI b9)]) (rest := []) ⟨hx, hb, hml, hown, hts⟩ (mX0_addPart (A := ow (SA (7 + 2 * 13)) (SA (8 + 2 * 13)) H4.size) (ca := SA (8 + 2 * 13)) (cb := SA (8 + 2 * i)) (t := []) (u := T i) (i := a9) (i2 := b9) (Or.inl rfl) (Or.inr (Or.inl rfl)) ⟨hW.ne (i := 7 + 2 * i) (j := 7 + 2 * 13) (by omega) (by omega) (by omega), hW.ne (i := 7 + 2 * i) (j := 8 + 2 * 13) (by omega) (by omega) (by omega), hW.ne (i := 8 + 2 * i) (j := 7 + 2 * 13) (by omega) (by omega) (by omega), hW.ne (i := 8 + 2 * i) (j := 8 + 2 * 13) (by omega) (by omega) (by omega)⟩ hab hb9) (cwV 3 hts (gV tw_2_35 tw_2_36 tw_2_37 tw_1_2 tw_2_38) rfl rfl rfl (by decide +kernel) ⟨Nat.le_of_ble_eq_true rfl, Nat.le_of_ble_eq_true rfl⟩) hC hS (ow_in (hAS _ (by omega)) (hAS _ (by omega)) hA hS.1) ow_n ((hW.line (i := 13) (by omega)).recv hK) ⟨by have h := hW.line (i := 13) (by omega); rw [updT_s] at h; exact h, by rw [← e1]; exact hW.line hi⟩ rfl rfl hl.1 (Nat.le_of_ble_eq_true rfl) ⟨Nat.zero_le _, Nat.zero_le _⟩ dX2_partInto_14 (fun H5 L5 hP5 hk5 hS => ?_)
  have hZ5 := hS.1
  have hW := hW.put (q := 13) (t := cutL (T i) a9 b9) (by omega) hk5 (by have h := hP5.1; rw [List.nil_append, List.take_of_length_le h60] at h; exact h)
  rw [updT_2] at hW
  have hO := hW.2.1
  have hR1 := hW.2.2.1
  have hR2 := hW.2.2.2.1
  refine lv_aload hx hb dX2_partInto_17 (lv_at hl 4 rfl) ?_
  refine lv_aload_n hx hb dX2_partInto_19 rfl (lv_at hl 0 rfl) ?_
  refine va_get (D := G.1) (ci := 6) (C := RX2) (T := TX2) (N := 8) hx hb hts inX2 hown hK (at_P hO) 0 rfl rfl 6 (by decide) (hts _ tw_1_143) (fun _ h9 => h9) rfl dX2_partInto_20 ?_
  refine qV_V (A := A) (A1 := ow (SA (7 + 2 * 13)) (SA (8 + 2 * 13)) H5.size) (b := (SA (7 + 2 * 13))) (As := [.ref (SA 33)]) (rest := []) ⟨hx, hb, hml, hown, hts⟩ (mX0_become_s (A := ow (SA (7 + 2 * 13)) (SA (8 + 2 * 13)) H5.size) (ca := SA (8 + 2 * 13)) (t := cutL (T i) a9 b9) (Or.inl rfl) (Or.inr (Or.inl rfl))) (cwV 1 hts (gV tw_2_3 tw_2_4 tw_2_5 tw_1_2 tw_2_6) rfl rfl rfl (by decide +kernel) ⟨Nat.le_of_ble_eq_true rfl, Nat.le_of_ble_eq_true rfl⟩) hC hS (ow_in (hAS _ (by omega)) (hAS _ (by omega)) hA hS.1) ow_n ((hW.line (i := 13) (by omega)).recv hK) (by have h := hW.line (i := 13) (by omega); rw [updT_s] at h; exact h) rfl rfl hl.1 (Nat.le_of_ble_eq_true rfl) ⟨Nat.zero_le _, Nat.zero_le _⟩ dX2_partInto_23 (fun H6 L6 hP6 hk6 hS => ?_)
  have hZ6 := hS.1
  have hW := hW.put (q := 13) (t := cutL (T i) a9 b9) (by omega) hk6 hP6
  rw [updT_2] at hW
  refine lv_aload hx hb dX2_partInto_26 (lv_at hl 4 rfl) ?_
  have hLq := hW.line (i := 13) (by omega)
  rw [updT_s] at hLq
  refine kV_i (A := A) (b := (SA (7 + 2 * 13))) (As := []) (rest := []) ⟨hx, hb, hml, hown, hts⟩ (mX0_size (A := A) (ca := SA (8 + 2 * 13))) (cwV 0 hts (gV tw_2_30 tw_2_12 tw_2_13 tw_1_2 tw_2_14) rfl rfl rfl (by decide +kernel) ⟨Nat.le_of_ble_eq_true rfl, Nat.le_of_ble_eq_true rfl⟩) hC hS hA (hLq.recv hK) hLq rfl rfl hl.1 (Nat.le_of_ble_eq_true rfl) ⟨Nat.zero_le _, Nat.zero_le _⟩ dX2_partInto_28 (fun r9 h9 => lv_cv h9 ?_)
  exact q_i hx hb hr hlocks dX2_partInto_31 hS (Nat.le_refl _) (Nat.le_refl _) ⟨rfl, hW⟩
abbrev rmX2_isSoundPair : Room := { frames := 5, cells := 0, slots := 0, locals := 108 }
theorem mX2_isSoundPair {l : Launch} {G : Cx} {A : Nat → Prop} {a ca b cb : Nat} {t u : List Nat} : Met l yX2_isSoundPair (.code yX2_isSoundPair cX2_isSoundPair 6 (some .boolean) :: GW) rmX2_isSoundPair (PC G A [.ref a, .ref b] (fun H => LA G a ca t H ∧ LA G b cb u H)) (vp_Si (fun r => ∃ v : Bool, r = bI v)) 0 0 (fun _ => False) := by
  refine mstart "Signtext" (by decide +kernel) rfl (Nat.le_of_ble_eq_true rfl) ?_
  intro p e s m below meth c ls hx hb hr hts hown hml hlocks hname hC hA hW hl
  have hl : lv_has ls 6 [(0, .ref a), (1, .ref b)] := hl
  have hK := hC.1
  have hS : va_S A s.heap s.heap [] := va_S.rf
  obtain ⟨hWa, hWb⟩ := hW
  refine lv_aload_n hx hb dX2_isSoundPair_0 rfl (lv_at hl 0 rfl) ?_
  refine lv_aload_n hx hb dX2_isSoundPair_1 rfl (lv_at hl 1 rfl) ?_
  refine lv_iconst (v := nI 0) hx hb dX2_isSoundPair_2 (by decide) ?_
  refine kV_i (A := A) (b := a) (As := [.ref b, .int (bI false)]) (rest := []) ⟨hx, hb, hml, hown, hts⟩ (mX0_orderTo (A := A) (ca := ca) (cb := cb) (b0 := false)) (cwV 2 hts (gV tw_2_98 tw_2_99 tw_2_100 tw_1_2 tw_2_101) rfl rfl rfl (by decide +kernel) ⟨Nat.le_of_ble_eq_true rfl, Nat.le_of_ble_eq_true rfl⟩) hC hS hA (hWa.recv hK) ⟨hWa, hWb⟩ rfl rfl hl.1 (Nat.le_of_ble_eq_true rfl) ⟨Nat.zero_le _, Nat.zero_le _⟩ dX2_isSoundPair_3 (fun r_7 hr_7 => ?_)
  refine lv_istore_n (lv' := [(2, .int r_7), (0, .ref a), (1, .ref b)]) hx hb dX2_isSoundPair_6 rfl hl (by decide) rfl (fun ls hl => ?_)
  refine lv_aload_n hx hb dX2_isSoundPair_7 rfl (lv_at hl 1 rfl) ?_
  refine lv_aload_n hx hb dX2_isSoundPair_8 rfl (lv_at hl 2 rfl) ?_
  refine lv_iconst (v := nI 0) hx hb dX2_isSoundPair_9 (by decide) ?_
  refine kV_i (A := A) (b := a) (As := [.ref b, .int (bI false)]) (rest := []) ⟨hx, hb, hml, hown, hts⟩ (mX0_isSameAs (A := A) (ca := ca) (cb := cb) (b0 := false)) (cwV 2 hts (gV tw_2_7 tw_2_8 tw_2_9 tw_1_2 tw_2_10) rfl rfl rfl (by decide +kernel) ⟨Nat.le_of_ble_eq_true rfl, Nat.le_of_ble_eq_true rfl⟩) hC hS hA (hWa.recv hK) ⟨hWa, hWb⟩ rfl rfl hl.1 (Nat.le_of_ble_eq_true rfl) ⟨Nat.zero_le _, Nat.zero_le _⟩ dX2_isSoundPair_10 (fun r_8 hr_8 => ?_)
  obtain ⟨r_8v, -, rfl⟩ := hr_8
  refine lv_istore_n (lv' := [(3, .int (bI r_8v)), (2, .int r_7), (0, .ref a), (1, .ref b)]) hx hb dX2_isSoundPair_13 rfl hl (by decide) rfl (fun ls hl => ?_)
  refine lv_aload_n hx hb dX2_isSoundPair_14 rfl (lv_at hl 2 rfl) ?_
  refine lv_aload_n hx hb dX2_isSoundPair_15 rfl (lv_at hl 3 rfl) ?_
  refine kV_i (A := A) (b := a) (As := [.ref b]) (rest := []) ⟨hx, hb, hml, hown, hts⟩ (mX0_firstPlaceOf (A := A) (ca := ca) (cb := cb)) (cwV 1 hts (gV tw_2_102 tw_2_103 tw_2_104 tw_1_2 tw_2_105) rfl rfl rfl (by decide +kernel) ⟨Nat.le_of_ble_eq_true rfl, Nat.le_of_ble_eq_true rfl⟩) hC hS hA (hWa.recv hK) ⟨hWa, hWb⟩ rfl rfl hl.1 (Nat.le_of_ble_eq_true rfl) ⟨Nat.zero_le _, Nat.zero_le _⟩ dX2_isSoundPair_16 (fun r_9 hr_9 => ?_)
  refine lv_istore (lv' := [(4, .int r_9), (3, .int (bI r_8v)), (2, .int r_7), (0, .ref a), (1, .ref b)]) hx hb dX2_isSoundPair_19 hl (by decide) rfl (fun ls hl => ?_)
  refine lv_aload_n hx hb dX2_isSoundPair_21 rfl (lv_at hl 3 rfl) ?_
  refine lv_aload_n hx hb dX2_isSoundPair_22 rfl (lv_at hl 4 rfl) ?_
  refine kV_i (A := A) (b := a) (As := [.ref b]) (rest := []) ⟨hx, hb, hml, hown, hts⟩ (mX0_lastPlaceOf (A := A) (ca := ca) (cb := cb)) (cwV 1 hts (gV tw_2_106 tw_2_107 tw_2_108 tw_1_2 tw_2_109) rfl rfl rfl (by decide +kernel) ⟨Nat.le_of_ble_eq_true rfl, Nat.le_of_ble_eq_true rfl⟩) hC hS hA (hWa.recv hK) ⟨hWa, hWb⟩ rfl rfl hl.1 (Nat.le_of_ble_eq_true rfl) ⟨Nat.zero_le _, Nat.zero_le _⟩ dX2_isSoundPair_23 (fun r_10 hr_10 => ?_)
  refine lv_istore (lv' := [(5, .int r_10), (4, .int r_9), (3, .int (bI r_8v)), (2, .int r_7), (0, .ref a), (1, .ref b)]) hx hb dX2_isSoundPair_26 hl (by decide) rfl (fun ls hl => ?_)
  have k67 : ∀ ls : Array Slot, lv_has ls 6 [(5, .int r_10), (4, .int r_9), (3, .int (bI r_8v)), (2, .int r_7), (0, .ref a), (1, .ref b)] → W p l e rmX2_isSoundPair s m [.ref a, .ref b].toArray below meth c s.heap [] 0 0 (MQ below (vp_Si (fun r => ∃ v : Bool, r = bI v)) [.ref a, .ref b].toArray s 0 0 (fun _ => False)) (F0 m 67 ls []) := by
    clear hl
    intro ls hl
    refine lv_aload_n hx hb dX2_isSoundPair_67 rfl (lv_at hl 4 rfl) ?_
    refine lv_aload_n hx hb dX2_isSoundPair_68 rfl (lv_at hl 5 rfl) ?_
    refine kV_i (A := A) (b := a) (As := [.ref b]) (rest := []) ⟨hx, hb, hml, hown, hts⟩ (mX0_holds (A := A) (ca := ca) (cb := cb)) (cwV 1 hts (gV tw_2_114 tw_2_115 tw_2_116 tw_1_2 tw_2_117) rfl rfl rfl (by decide +kernel) ⟨Nat.le_of_ble_eq_true rfl, Nat.le_of_ble_eq_true rfl⟩) hC hS hA (hWa.recv hK) ⟨hWa, hWb⟩ rfl rfl hl.1 (Nat.le_of_ble_eq_true rfl) ⟨Nat.zero_le _, Nat.zero_le _⟩ dX2_isSoundPair_69 (fun r_11 hr_11 => ?_)
    obtain ⟨r_11v, -, rfl⟩ := hr_11
    refine lv_iload hx hb dX2_isSoundPair_72 (lv_at hl 1 rfl) ?_
    refine lv_iconst (v := (-1)) hx hb dX2_isSoundPair_74 (by decide) ?_
    refine lv_icmp_eq (tgt := 82) hx hb dX2_isSoundPair_75 (by decide) (fun c_12 => ?_) (fun c_12 => ?_)
    · refine lv_iconst (v := nI 0) hx hb dX2_isSoundPair_82 (by decide) ?_
      refine lv_icmp_ne (tgt := 97) hx hb dX2_isSoundPair_83 (by decide) (fun c_13 => ?_) (fun c_13 => ?_)
      · refine lv_iconst (v := nI 0) hx hb dX2_isSoundPair_97 (by decide) ?_
        exact p_z (b := false) hx hb hr hlocks dX2_isSoundPair_98 ⟨_, rfl⟩
      · refine lv_iload hx hb dX2_isSoundPair_86 (lv_at hl 0 rfl) ?_
        refine lv_iload hx hb dX2_isSoundPair_88 (lv_at hl 1 rfl) ?_
        refine lv_icmp_lt (tgt := 97) hx hb dX2_isSoundPair_90 (by decide) (fun c_14 => ?_) (fun c_14 => ?_)
        · refine lv_iconst (v := nI 0) hx hb dX2_isSoundPair_97 (by decide) ?_
          exact p_z (b := false) hx hb hr hlocks dX2_isSoundPair_98 ⟨_, rfl⟩
        · refine lv_iconst (v := nI 1) hx hb dX2_isSoundPair_93 (by decide) ?_
          refine lv_goto (tgt := 98) hx hb dX2_isSoundPair_94 (by decide) ?_
          exact p_z (b := true) hx hb hr hlocks dX2_isSoundPair_98 ⟨_, rfl⟩
    · refine lv_iconst (v := nI 1) hx hb dX2_isSoundPair_78 (by decide) ?_
      refine lv_goto (tgt := 83) hx hb dX2_isSoundPair_79 (by decide) ?_
      refine lv_icmp_ne (tgt := 97) hx hb dX2_isSoundPair_83 (by decide) (fun c_15 => ?_) (fun c_15 => ?_)
      · refine lv_iconst (v := nI 0) hx hb dX2_isSoundPair_97 (by decide) ?_
        exact p_z (b := false) hx hb hr hlocks dX2_isSoundPair_98 ⟨_, rfl⟩
      · refine lv_iload hx hb dX2_isSoundPair_86 (lv_at hl 0 rfl) ?_
        refine lv_iload hx hb dX2_isSoundPair_88 (lv_at hl 1 rfl) ?_
        refine lv_icmp_lt (tgt := 97) hx hb dX2_isSoundPair_90 (by decide) (fun c_16 => ?_) (fun c_16 => ?_)
        · refine lv_iconst (v := nI 0) hx hb dX2_isSoundPair_97 (by decide) ?_
          exact p_z (b := false) hx hb hr hlocks dX2_isSoundPair_98 ⟨_, rfl⟩
        · refine lv_iconst (v := nI 1) hx hb dX2_isSoundPair_93 (by decide) ?_
          refine lv_goto (tgt := 98) hx hb dX2_isSoundPair_94 (by decide) ?_
          exact p_z (b := true) hx hb hr hlocks dX2_isSoundPair_98 ⟨_, rfl⟩
  have k41 : ∀ ls : Array Slot, lv_has ls 6 [(5, .int r_10), (4, .int r_9), (3, .int (bI r_8v)), (2, .int r_7), (0, .ref a), (1, .ref b)] → W p l e rmX2_isSoundPair s m [.ref a, .ref b].toArray below meth c s.heap [] 0 0 (MQ below (vp_Si (fun r => ∃ v : Bool, r = bI v)) [.ref a, .ref b].toArray s 0 0 (fun _ => False)) (F0 m 41 ls []) := by
    clear hl
    intro ls hl
    refine lv_iload_n hx hb dX2_isSoundPair_41 rfl (lv_at hl 3 rfl) ?_
    refine lv_aload_n hx hb dX2_isSoundPair_42 rfl (lv_at hl 5 rfl) ?_
    refine lv_aload_n hx hb dX2_isSoundPair_43 rfl (lv_at hl 4 rfl) ?_
    refine lv_iconst (v := nI 0) hx hb dX2_isSoundPair_44 (by decide) ?_
    refine kV_i (A := A) (b := b) (As := [.ref a, .int (bI false)]) (rest := .int r_7 :: []) ⟨hx, hb, hml, hown, hts⟩ (mX0_orderTo (A := A) (ca := cb) (cb := ca) (b0 := false)) (cwV 2 hts (gV tw_2_98 tw_2_99 tw_2_100 tw_1_2 tw_2_101) rfl rfl rfl (by decide +kernel) ⟨Nat.le_of_ble_eq_true rfl, Nat.le_of_ble_eq_true rfl⟩) hC hS hA (hWb.recv hK) ⟨hWb, hWa⟩ rfl rfl hl.1 (Nat.le_of_ble_eq_true rfl) ⟨Nat.zero_le _, Nat.zero_le _⟩ dX2_isSoundPair_45 (fun r_17 hr_17 => ?_)
    refine lv_ineg hx hb dX2_isSoundPair_48 ?_
    refine lv_icmp_ne (tgt := 97) hx hb dX2_isSoundPair_49 (by decide) (fun c_18 => ?_) (fun c_18 => ?_)
    · refine lv_iconst (v := nI 0) hx hb dX2_isSoundPair_97 (by decide) ?_
      exact p_z (b := false) hx hb hr hlocks dX2_isSoundPair_98 ⟨_, rfl⟩
    · refine lv_iload_n hx hb dX2_isSoundPair_52 rfl (lv_at hl 2 rfl) ?_
      refine f_eq (tgt := 67) hx hb dX2_isSoundPair_53 (by decide) (fun c_19 => ?_) (fun c_19 => ?_)
      · exact k67 ls hl
      · refine lv_aload_n hx hb dX2_isSoundPair_56 rfl (lv_at hl 4 rfl) ?_
        refine kV_i (A := A) (b := a) (As := []) (rest := []) ⟨hx, hb, hml, hown, hts⟩ (mX0_hashOfSigns (A := A) (ca := ca)) (cwV 0 hts (gV tw_2_110 tw_2_111 tw_2_112 tw_1_2 tw_2_113) rfl rfl rfl (by decide +kernel) ⟨Nat.le_of_ble_eq_true rfl, Nat.le_of_ble_eq_true rfl⟩) hC hS hA (hWa.recv hK) hWa rfl rfl hl.1 (Nat.le_of_ble_eq_true rfl) ⟨Nat.zero_le _, Nat.zero_le _⟩ dX2_isSoundPair_57 (fun r9 h9 => lv_cv h9 ?_)
        refine lv_aload_n hx hb dX2_isSoundPair_60 rfl (lv_at hl 5 rfl) ?_
        refine kV_i (A := A) (b := b) (As := []) (rest := .int (hashL t) :: []) ⟨hx, hb, hml, hown, hts⟩ (mX0_hashOfSigns (A := A) (ca := cb)) (cwV 0 hts (gV tw_2_110 tw_2_111 tw_2_112 tw_1_2 tw_2_113) rfl rfl rfl (by decide +kernel) ⟨Nat.le_of_ble_eq_true rfl, Nat.le_of_ble_eq_true rfl⟩) hC hS hA (hWb.recv hK) hWb rfl rfl hl.1 (Nat.le_of_ble_eq_true rfl) ⟨Nat.zero_le _, Nat.zero_le _⟩ dX2_isSoundPair_61 (fun r9 h9 => lv_cv h9 ?_)
        refine lv_icmp_ne (tgt := 97) hx hb dX2_isSoundPair_64 (by decide) (fun c_20 => ?_) (fun c_20 => ?_)
        · refine lv_iconst (v := nI 0) hx hb dX2_isSoundPair_97 (by decide) ?_
          exact p_z (b := false) hx hb hr hlocks dX2_isSoundPair_98 ⟨_, rfl⟩
        · exact k67 ls hl
  refine lv_iload_n hx hb dX2_isSoundPair_28 rfl (lv_at hl 2 rfl) ?_
  refine lv_iload_n hx hb dX2_isSoundPair_29 rfl (lv_at hl 3 rfl) ?_
  refine lv_if_ne (tgt := 37) hx hb dX2_isSoundPair_30 (by decide) (fun c_21 => ?_) (fun c_21 => ?_)
  · refine lv_iconst (v := nI 0) hx hb dX2_isSoundPair_37 (by decide) ?_
    refine lv_icmp_ne (tgt := 97) hx hb dX2_isSoundPair_38 (by decide) (fun c_22 => ?_) (fun c_22 => ?_)
    · refine lv_iconst (v := nI 0) hx hb dX2_isSoundPair_97 (by decide) ?_
      exact p_z (b := false) hx hb hr hlocks dX2_isSoundPair_98 ⟨_, rfl⟩
    · exact k41 ls hl
  · refine lv_iconst (v := nI 1) hx hb dX2_isSoundPair_33 (by decide) ?_
    refine lv_goto (tgt := 38) hx hb dX2_isSoundPair_34 (by decide) ?_
    refine lv_icmp_ne (tgt := 97) hx hb dX2_isSoundPair_38 (by decide) (fun c_23 => ?_) (fun c_23 => ?_)
    · refine lv_iconst (v := nI 0) hx hb dX2_isSoundPair_97 (by decide) ?_
      exact p_z (b := false) hx hb hr hlocks dX2_isSoundPair_98 ⟨_, rfl⟩
    · exact k41 ls hl

abbrev rmX2_isSameTakenAgain : Room := { frames := 4, cells := 0, slots := 0, locals := 87 }
theorem mX2_isSameTakenAgain {l : Launch} {G : Cx} {A : Nat → Prop} {SA : Nat → Nat} {X : Nat → List Nat} {es : List Nat} {k : Int32} {i : Nat} (hi : i < 4) (hAS : ∀ i : Nat, i < 39 → A (SA i)) : Met l yX2_isSameTakenAgain (.code yX2_isSameTakenAgain cX2_isSameTakenAgain 2 (some .boolean) :: GW) rmX2_isSameTakenAgain (PC G A [.ref (SA 0), .ref (SA (7 + 2 * i))] (SS G SA X es k)) (qI A (fun r H => (∃ v : Bool, r = bI v) ∧ SS G SA X es k H)) 0 0 (A) := by
  refine mstart "Signtext" (by decide +kernel) rfl (Nat.le_of_ble_eq_true rfl) ?_
  intro p e s m below meth c ls hx hb hr hts hown hml hlocks hname hC hA hW hl
  have hl : lv_has ls 2 [(0, .ref (SA 0)), (1, .ref (SA (7 + 2 * i)))] := hl
  have hK := hC.1
  have hS : va_S A s.heap s.heap [] := va_S.rf
  obtain ⟨T, es2, hW, hF⟩ := hW
  have hO := hW.2.1
  have hR1 := hW.2.2.1
  have hR2 := hW.2.2.2.1
  refine lv_aload_n hx hb dX2_isSameTakenAgain_0 rfl (lv_at hl 0 rfl) ?_
  refine va_get (D := G.1) (ci := 6) (C := RX2) (T := TX2) (N := 8) hx hb hts inX2 hown hK (at_P hO) 0 rfl rfl 5 (by decide) (hts _ tw_1_142) (fun _ h9 => h9) rfl dX2_isSameTakenAgain_1 ?_
  refine lv_aload_n hx hb dX2_isSameTakenAgain_4 rfl (lv_at hl 1 rfl) ?_
  refine qV_V (A := A) (A1 := ow (SA (7 + 2 * 12)) (SA (8 + 2 * 12)) s.heap.size) (b := (SA 31)) (As := [.ref (SA (7 + 2 * i))]) (rest := []) ⟨hx, hb, hml, hown, hts⟩ (mX0_become (A := ow (SA (7 + 2 * 12)) (SA (8 + 2 * 12)) s.heap.size) (ca := SA (8 + 2 * 12)) (cb := SA (8 + 2 * i)) (t := T 12) (u := T i) (Or.inl rfl) (Or.inr (Or.inl rfl)) ⟨hW.ne (i := 7 + 2 * i) (j := 7 + 2 * 12) (by omega) (by omega) (by omega), hW.ne (i := 7 + 2 * i) (j := 8 + 2 * 12) (by omega) (by omega) (by omega), hW.ne (i := 8 + 2 * i) (j := 7 + 2 * 12) (by omega) (by omega) (by omega), hW.ne (i := 8 + 2 * i) (j := 8 + 2 * 12) (by omega) (by omega) (by omega)⟩) (cwV 1 hts (gV tw_2_3 tw_2_4 tw_2_5 tw_1_2 tw_2_6) rfl rfl rfl (by decide +kernel) ⟨Nat.le_of_ble_eq_true rfl, Nat.le_of_ble_eq_true rfl⟩) hC hS (ow_in (hAS _ (by omega)) (hAS _ (by omega)) hA (Nat.le_refl _)) ow_n ((hW.line (i := 12) (by omega)).recv hK) ⟨(hW.line (i := 12) (by omega)), (hW.line (i := i) (by omega))⟩ rfl rfl hl.1 (Nat.le_of_ble_eq_true rfl) ⟨Nat.zero_le _, Nat.zero_le _⟩ dX2_isSameTakenAgain_5 (fun H24 L24 hP24 hk24 hS => ?_)
  have hZ24 := hS.1
  have hW := hW.put (q := 12) (t := T i) (by omega) hk24 hP24.1
  have hO := hW.2.1
  have hR1 := hW.2.2.1
  have hR2 := hW.2.2.2.1
  refine lv_aload_n hx hb dX2_isSameTakenAgain_8 rfl (lv_at hl 0 rfl) ?_
  refine va_get (D := G.1) (ci := 6) (C := RX2) (T := TX2) (N := 8) hx hb hts inX2 hown hK (at_P hO) 0 rfl rfl 6 (by decide) (hts _ tw_1_143) (fun _ h9 => h9) rfl dX2_isSameTakenAgain_9 ?_
  refine lv_aload_n hx hb dX2_isSameTakenAgain_12 rfl (lv_at hl 0 rfl) ?_
  refine va_get (D := G.1) (ci := 6) (C := RX2) (T := TX2) (N := 8) hx hb hts inX2 hown hK (at_P hO) 0 rfl rfl 5 (by decide) (hts _ tw_1_142) (fun _ h9 => h9) rfl dX2_isSameTakenAgain_13 ?_
  refine qV_V (A := A) (A1 := ow (SA (7 + 2 * 13)) (SA (8 + 2 * 13)) H24.size) (b := (SA 33)) (As := [.ref (SA 31)]) (rest := []) ⟨hx, hb, hml, hown, hts⟩ (mX0_become (A := ow (SA (7 + 2 * 13)) (SA (8 + 2 * 13)) H24.size) (ca := SA (8 + 2 * 13)) (cb := SA (8 + 2 * 12)) (t := _) (u := _) (Or.inl rfl) (Or.inr (Or.inl rfl)) ⟨hW.ne (i := 7 + 2 * 12) (j := 7 + 2 * 13) (by omega) (by omega) (by omega), hW.ne (i := 7 + 2 * 12) (j := 8 + 2 * 13) (by omega) (by omega) (by omega), hW.ne (i := 8 + 2 * 12) (j := 7 + 2 * 13) (by omega) (by omega) (by omega), hW.ne (i := 8 + 2 * 12) (j := 8 + 2 * 13) (by omega) (by omega) (by omega)⟩) (cwV 1 hts (gV tw_2_3 tw_2_4 tw_2_5 tw_1_2 tw_2_6) rfl rfl rfl (by decide +kernel) ⟨Nat.le_of_ble_eq_true rfl, Nat.le_of_ble_eq_true rfl⟩) hC hS (ow_in (hAS _ (by omega)) (hAS _ (by omega)) hA hS.1) ow_n ((hW.line (i := 13) (by omega)).recv hK) ⟨(hW.line (i := 13) (by omega)), (hW.line (i := 12) (by omega))⟩ rfl rfl hl.1 (Nat.le_of_ble_eq_true rfl) ⟨Nat.zero_le _, Nat.zero_le _⟩ dX2_isSameTakenAgain_16 (fun H25 L25 hP25 hk25 hS => ?_)
  have hZ25 := hS.1
  have hW := hW.put (q := 13) (t := _) (by omega) hk25 hP25.1
  have hO := hW.2.1
  have hR1 := hW.2.2.1
  have hR2 := hW.2.2.2.1
  refine lv_aload_n hx hb dX2_isSameTakenAgain_19 rfl (lv_at hl 0 rfl) ?_
  refine va_get (D := G.1) (ci := 6) (C := RX2) (T := TX2) (N := 8) hx hb hts inX2 hown hK (at_P hO) 0 rfl rfl 6 (by decide) (hts _ tw_1_143) (fun _ h9 => h9) rfl dX2_isSameTakenAgain_20 ?_
  refine lv_aload_n hx hb dX2_isSameTakenAgain_23 rfl (lv_at hl 1 rfl) ?_
  refine lv_iconst (v := nI 0) hx hb dX2_isSameTakenAgain_24 (by decide) ?_
  refine kV_i (A := A) (b := (SA 33)) (As := [.ref (SA (7 + 2 * i)), .int (bI false)]) (rest := []) ⟨hx, hb, hml, hown, hts⟩ (mX0_isSameAs (A := A) (ca := SA (8 + 2 * 13)) (cb := SA (8 + 2 * i)) (b0 := false)) (cwV 2 hts (gV tw_2_7 tw_2_8 tw_2_9 tw_1_2 tw_2_10) rfl rfl rfl (by decide +kernel) ⟨Nat.le_of_ble_eq_true rfl, Nat.le_of_ble_eq_true rfl⟩) hC hS hA ((hW.line (i := 13) (by omega)).recv hK) ⟨(hW.line (i := 13) (by omega)), (hW.line (i := i) (by omega))⟩ rfl rfl hl.1 (Nat.le_of_ble_eq_true rfl) ⟨Nat.zero_le _, Nat.zero_le _⟩ dX2_isSameTakenAgain_25 (fun r_26 hr_26 => ?_)
  obtain ⟨r_26v, -, rfl⟩ := hr_26
  exact q_z (b9 := r_26v) hx hb hr hlocks dX2_isSameTakenAgain_28 hS (Nat.le_refl _) (Nat.le_refl _) ⟨⟨_, rfl⟩, _, _, hW, (FR.s13 (FR.s12 hF))⟩

abbrev rmX2_isSameInTwoParts : Room := { frames := 4, cells := 0, slots := 0, locals := 87 }
theorem mX2_isSameInTwoParts {l : Launch} {G : Cx} {A : Nat → Prop} {SA : Nat → Nat} {X : Nat → List Nat} {es : List Nat} {k : Int32} {i : Nat} (hi : i < 4) (hAS : ∀ i : Nat, i < 39 → A (SA i)) : Met l yX2_isSameInTwoParts (.code yX2_isSameInTwoParts cX2_isSameInTwoParts 3 (some .boolean) :: GW) rmX2_isSameInTwoParts (PC G A [.ref (SA 0), .ref (SA (7 + 2 * i))] (SS G SA X es k)) (qI A (fun r H => (∃ v : Bool, r = bI v) ∧ SS G SA X es k H)) 0 0 (A) := by
  refine mstart "Signtext" (by decide +kernel) rfl (Nat.le_of_ble_eq_true rfl) ?_
  intro p e s m below meth c ls hx hb hr hts hown hml hlocks hname hC hA hW hl
  have hl : lv_has ls 3 [(0, .ref (SA 0)), (1, .ref (SA (7 + 2 * i)))] := hl
  have hK := hC.1
  have hS : va_S A s.heap s.heap [] := va_S.rf
  obtain ⟨T, es2, hW, hF⟩ := hW
  have hO := hW.2.1
  have hR1 := hW.2.2.1
  have hR2 := hW.2.2.2.1
  have i60 := (hW.line (i := i) (by omega)).1
  generalize hTi : T i = ti at i60
  refine lv_iconst (v := nI 0) hx hb dX2_isSameInTwoParts_0 (by decide) ?_
  refine lv_istore_n (lv' := [(2, .int (nI 0)), (0, .ref (SA 0)), (1, .ref (SA (7 + 2 * i)))]) hx hb dX2_isSameInTwoParts_1 rfl hl (by decide) rfl (fun ls hl => ?_)
  refine nloop (P := fun j => ∀ (ls : Array Slot) (H : Heap) (L : List Loc) (T : Nat → List Nat) (es2 : List Nat), lv_has ls 3 [(2, .int (nI j)), (0, .ref (SA 0)), (1, .ref (SA (7 + 2 * i)))] → va_S A s.heap H L → SW G SA T es es2 k H → (∀ i : Nat, i < 4 ∨ i = 11 ∨ i = 14 → T i = X i) → T i = ti → W p l e rmX2_isSameInTwoParts s m [.ref (SA 0), .ref (SA (7 + 2 * i))].toArray below meth c H L 0 0 (MQ below (qI A (fun r H => (∃ v : Bool, r = bI v) ∧ SS G SA X es k H)) [.ref (SA 0), .ref (SA (7 + 2 * i))].toArray s 0 0 (A)) (F0 m 2 ls [])) 61 ?_ 0 (Nat.zero_le _) ls s.heap [] T es2 hl hS hW hF hTi
  clear hl
  intro j hj ih ls H L T es2 hl
  clear hS hW hF hTi hO hR1 hR2
  intro hS hW hF hTi
  have hO := hW.2.1
  have hR1 := hW.2.2.1
  have hR2 := hW.2.2.2.1
  refine lv_iload_n hx hb dX2_isSameInTwoParts_2 rfl (lv_at hl 0 rfl) ?_
  refine lv_aload_n hx hb dX2_isSameInTwoParts_3 rfl (lv_at hl 2 rfl) ?_
  refine kV_i (A := A) (b := (SA (7 + 2 * i))) (As := []) (rest := .int (nI j) :: []) ⟨hx, hb, hml, hown, hts⟩ (mX0_size (A := A) (ca := SA (8 + 2 * i))) (cwV 0 hts (gV tw_2_30 tw_2_12 tw_2_13 tw_1_2 tw_2_14) rfl rfl rfl (by decide +kernel) ⟨Nat.le_of_ble_eq_true rfl, Nat.le_of_ble_eq_true rfl⟩) hC hS hA ((hW.line (i := i) (by omega)).recv hK) (hW.line (i := i) (by omega)) rfl rfl hl.1 (Nat.le_of_ble_eq_true rfl) ⟨Nat.zero_le _, Nat.zero_le _⟩ dX2_isSameInTwoParts_4 (fun r9 h9 => lv_cv h9 ?_)
  rw [hTi]
  refine b_gt (tgt := 60) hx hb dX2_isSameInTwoParts_7 (by decide) (by omega) (by omega) (fun c_27 => ?_) (fun c_27 => ?_)
  · refine lv_iconst (v := nI 1) hx hb dX2_isSameInTwoParts_60 (by decide) ?_
    exact q_z (b9 := true) hx hb hr hlocks dX2_isSameInTwoParts_61 hS (Nat.le_refl _) (Nat.le_refl _) ⟨⟨_, rfl⟩, _, _, hW, hF⟩
  · refine lv_aload_n hx hb dX2_isSameInTwoParts_10 rfl (lv_at hl 1 rfl) ?_
    refine va_get (D := G.1) (ci := 6) (C := RX2) (T := TX2) (N := 8) hx hb hts inX2 hown hK (at_P hO) 0 rfl rfl 6 (by decide) (hts _ tw_1_143) (fun _ h9 => h9) rfl dX2_isSameInTwoParts_11 ?_
    refine qV_V (A := A) (A1 := ow (SA (7 + 2 * 13)) (SA (8 + 2 * 13)) H.size) (b := (SA 33)) (As := []) (rest := []) ⟨hx, hb, hml, hown, hts⟩ (mX0_empty (A := ow (SA (7 + 2 * 13)) (SA (8 + 2 * 13)) H.size) (ca := SA (8 + 2 * 13)) (hAa := Or.inl rfl)) (cwV 0 hts (gV tw_2_31 tw_2_32 tw_2_33 tw_1_2 tw_2_34) rfl rfl rfl (by decide +kernel) ⟨Nat.le_of_ble_eq_true rfl, Nat.le_of_ble_eq_true rfl⟩) hC hS (ow_in (hAS _ (by omega)) (hAS _ (by omega)) hA hS.1) ow_n ((hW.line (i := 13) (by omega)).recv hK) (hW.line (i := 13) (by omega)) rfl rfl hl.1 (Nat.le_of_ble_eq_true rfl) ⟨Nat.zero_le _, Nat.zero_le _⟩ dX2_isSameInTwoParts_14 (fun H28 L28 hP28 hk28 hS => ?_)
    have hZ28 := hS.1
    have hW := hW.put (q := 13) (t := []) (by omega) hk28 hP28
    have hO := hW.2.1
    have hR1 := hW.2.2.1
    have hR2 := hW.2.2.2.1
    refine lv_aload_n hx hb dX2_isSameInTwoParts_17 rfl (lv_at hl 1 rfl) ?_
    refine va_get (D := G.1) (ci := 6) (C := RX2) (T := TX2) (N := 8) hx hb hts inX2 hown hK (at_P hO) 0 rfl rfl 6 (by decide) (hts _ tw_1_143) (fun _ h9 => h9) rfl dX2_isSameInTwoParts_18 ?_
    refine lv_aload_n hx hb dX2_isSameInTwoParts_21 rfl (lv_at hl 2 rfl) ?_
    refine lv_iconst (v := nI 0) hx hb dX2_isSameInTwoParts_22 (by decide) ?_
    refine lv_iload_n hx hb dX2_isSameInTwoParts_23 rfl (lv_at hl 0 rfl) ?_
    have e1 : updT T 13 [] i = ti := (updT_n (by omega)).trans hTi
    have hLi := hW.line (i := i) (by omega)
    rw [e1] at hLi
    have hL13 := hW.line (i := 13) (by omega)
    rw [updT_s] at hL13
    refine qV_V (A := A) (A1 := ow (SA (7 + 2 * 13)) (SA (8 + 2 * 13)) H28.size) (b := (SA 33)) (As := [.ref (SA (7 + 2 * i)), .int (nI 0), .int (nI j)]) (rest := []) ⟨hx, hb, hml, hown, hts⟩ (mX0_addPart (A := ow (SA (7 + 2 * 13)) (SA (8 + 2 * 13)) H28.size) (ca := SA (8 + 2 * 13)) (cb := SA (8 + 2 * i)) (t := []) (u := ti) (i := 0) (i2 := j) (Or.inl rfl) (Or.inr (Or.inl rfl)) ⟨hW.ne (i := 7 + 2 * i) (j := 7 + 2 * 13) (by omega) (by omega) (by omega), hW.ne (i := 7 + 2 * i) (j := 8 + 2 * 13) (by omega) (by omega) (by omega), hW.ne (i := 8 + 2 * i) (j := 7 + 2 * 13) (by omega) (by omega) (by omega), hW.ne (i := 8 + 2 * i) (j := 8 + 2 * 13) (by omega) (by omega) (by omega)⟩ (Nat.zero_le _) c_27) (cwV 3 hts (gV tw_2_35 tw_2_36 tw_2_37 tw_1_2 tw_2_38) rfl rfl rfl (by decide +kernel) ⟨Nat.le_of_ble_eq_true rfl, Nat.le_of_ble_eq_true rfl⟩) hC hS (ow_in (hAS _ (by omega)) (hAS _ (by omega)) hA hS.1) ow_n ((hW.line (i := 13) (by omega)).recv hK) ⟨hL13, hLi⟩ rfl rfl hl.1 (Nat.le_of_ble_eq_true rfl) ⟨Nat.zero_le _, Nat.zero_le _⟩ dX2_isSameInTwoParts_24 (fun H29 L29 hP29 hk29 hS => ?_)
    have hZ29 := hS.1
    have hW := hW.put (q := 13) (t := (([] : List Nat) ++ cutL ti 0 j).take 60) (by omega) hk29 hP29.1
    rw [updT_2] at hW
    have hO := hW.2.1
    have hR1 := hW.2.2.1
    have hR2 := hW.2.2.2.1
    refine lv_aload_n hx hb dX2_isSameInTwoParts_27 rfl (lv_at hl 1 rfl) ?_
    refine va_get (D := G.1) (ci := 6) (C := RX2) (T := TX2) (N := 8) hx hb hts inX2 hown hK (at_P hO) 0 rfl rfl 6 (by decide) (hts _ tw_1_143) (fun _ h9 => h9) rfl dX2_isSameInTwoParts_28 ?_
    refine lv_aload_n hx hb dX2_isSameInTwoParts_31 rfl (lv_at hl 2 rfl) ?_
    refine lv_iload_n hx hb dX2_isSameInTwoParts_32 rfl (lv_at hl 0 rfl) ?_
    refine lv_aload_n hx hb dX2_isSameInTwoParts_33 rfl (lv_at hl 2 rfl) ?_
    have e2 : updT T 13 ((([] : List Nat) ++ cutL ti 0 j).take 60) i = ti := (updT_n (by omega)).trans hTi
    have hLi := hW.line (i := i) (by omega)
    rw [e2] at hLi
    have hL13 := hW.line (i := 13) (by omega)
    rw [updT_s] at hL13
    refine kV_i (A := A) (b := (SA (7 + 2 * i))) (As := []) (rest := .int (nI j) :: .ref (SA (7 + 2 * i)) :: .ref (SA 33) :: []) ⟨hx, hb, hml, hown, hts⟩ (mX0_size (A := A) (ca := SA (8 + 2 * i))) (cwV 0 hts (gV tw_2_30 tw_2_12 tw_2_13 tw_1_2 tw_2_14) rfl rfl rfl (by decide +kernel) ⟨Nat.le_of_ble_eq_true rfl, Nat.le_of_ble_eq_true rfl⟩) hC hS hA (hLi.recv hK) hLi rfl rfl hl.1 (Nat.le_of_ble_eq_true rfl) ⟨Nat.zero_le _, Nat.zero_le _⟩ dX2_isSameInTwoParts_34 (fun r9 h9 => lv_cv h9 ?_)
    refine qV_V (A := A) (A1 := ow (SA (7 + 2 * 13)) (SA (8 + 2 * 13)) H29.size) (b := (SA 33)) (As := [.ref (SA (7 + 2 * i)), .int (nI j), .int (nI ti.length)]) (rest := []) ⟨hx, hb, hml, hown, hts⟩ (mX0_addPart (A := ow (SA (7 + 2 * 13)) (SA (8 + 2 * 13)) H29.size) (ca := SA (8 + 2 * 13)) (cb := SA (8 + 2 * i)) (t := (([] : List Nat) ++ cutL ti 0 j).take 60) (u := ti) (i := j) (i2 := ti.length) (Or.inl rfl) (Or.inr (Or.inl rfl)) ⟨hW.ne (i := 7 + 2 * i) (j := 7 + 2 * 13) (by omega) (by omega) (by omega), hW.ne (i := 7 + 2 * i) (j := 8 + 2 * 13) (by omega) (by omega) (by omega), hW.ne (i := 8 + 2 * i) (j := 7 + 2 * 13) (by omega) (by omega) (by omega), hW.ne (i := 8 + 2 * i) (j := 8 + 2 * 13) (by omega) (by omega) (by omega)⟩ c_27 (Nat.le_refl _)) (cwV 3 hts (gV tw_2_35 tw_2_36 tw_2_37 tw_1_2 tw_2_38) rfl rfl rfl (by decide +kernel) ⟨Nat.le_of_ble_eq_true rfl, Nat.le_of_ble_eq_true rfl⟩) hC hS (ow_in (hAS _ (by omega)) (hAS _ (by omega)) hA hS.1) ow_n ((hW.line (i := 13) (by omega)).recv hK) ⟨hL13, hLi⟩ rfl rfl hl.1 (Nat.le_of_ble_eq_true rfl) ⟨Nat.zero_le _, Nat.zero_le _⟩ dX2_isSameInTwoParts_37 (fun H30 L30 hP30 hk30 hS => ?_)
    have hZ30 := hS.1
    have hW := hW.put (q := 13) (t := ((([] : List Nat) ++ cutL ti 0 j).take 60 ++ cutL ti j ti.length).take 60) (by omega) hk30 hP30.1
    rw [updT_2] at hW
    have hO := hW.2.1
    have hR1 := hW.2.2.1
    have hR2 := hW.2.2.2.1
    refine lv_aload_n hx hb dX2_isSameInTwoParts_40 rfl (lv_at hl 1 rfl) ?_
    refine va_get (D := G.1) (ci := 6) (C := RX2) (T := TX2) (N := 8) hx hb hts inX2 hown hK (at_P hO) 0 rfl rfl 6 (by decide) (hts _ tw_1_143) (fun _ h9 => h9) rfl dX2_isSameInTwoParts_41 ?_
    refine lv_aload_n hx hb dX2_isSameInTwoParts_44 rfl (lv_at hl 2 rfl) ?_
    refine lv_iconst (v := nI 0) hx hb dX2_isSameInTwoParts_45 (by decide) ?_
    refine kV_i (A := A) (b := (SA 33)) (As := [.ref (SA (7 + 2 * i)), .int (bI false)]) (rest := []) ⟨hx, hb, hml, hown, hts⟩ (mX0_isSameAs (A := A) (ca := SA (8 + 2 * 13)) (cb := SA (8 + 2 * i)) (b0 := false)) (cwV 2 hts (gV tw_2_7 tw_2_8 tw_2_9 tw_1_2 tw_2_10) rfl rfl rfl (by decide +kernel) ⟨Nat.le_of_ble_eq_true rfl, Nat.le_of_ble_eq_true rfl⟩) hC hS hA ((hW.line (i := 13) (by omega)).recv hK) ⟨(hW.line (i := 13) (by omega)), (hW.line (i := i) (by omega))⟩ rfl rfl hl.1 (Nat.le_of_ble_eq_true rfl) ⟨Nat.zero_le _, Nat.zero_le _⟩ dX2_isSameInTwoParts_46 (fun r_31 hr_31 => ?_)
    obtain ⟨r_31v, -, rfl⟩ := hr_31
    refine f_ne (tgt := 54) hx hb dX2_isSameInTwoParts_49 (by decide) (fun c_32 => ?_) (fun c_32 => ?_)
    · refine lv_iinc (v := nI (j + 1)) (lv' := [(2, .int (nI (j + 1))), (0, .ref (SA 0)), (1, .ref (SA (7 + 2 * i)))]) hx hb dX2_isSameInTwoParts_54 hl (k := 0) rfl (nI_add j 1) (by decide) rfl (fun ls hl => ?_)
      refine lv_goto (tgt := 2) hx hb dX2_isSameInTwoParts_57 (by decide) ?_
      exact ih (j + 1) (by omega) (by omega) ls H30 L30 _ es2 (lv_sub hl [0, 1, 2] rfl) hS hW (FR.s13 hF) ((updT_n (by omega)).trans hTi)
    · refine lv_iconst (v := nI 0) hx hb dX2_isSameInTwoParts_52 (by decide) ?_
      exact q_z (b9 := false) hx hb hr hlocks dX2_isSameInTwoParts_53 hS (Nat.le_refl _) (Nat.le_refl _) ⟨⟨_, rfl⟩, _, _, hW, (FR.s13 hF)⟩

abbrev rmX2_isSameTrimmedAgain : Room := { frames := 4, cells := 0, slots := 0, locals := 89 }
theorem mX2_isSameTrimmedAgain {l : Launch} {G : Cx} {A : Nat → Prop} {SA : Nat → Nat} {X : Nat → List Nat} {es : List Nat} {k : Int32} {i : Nat} (hi : i < 4) {b : Bool} (hAS : ∀ i : Nat, i < 39 → A (SA i)) : Met l yX2_isSameTrimmedAgain (.code yX2_isSameTrimmedAgain cX2_isSameTrimmedAgain 3 (some .boolean) :: GW) rmX2_isSameTrimmedAgain (PC G A [.ref (SA 0), .ref (SA (7 + 2 * i)), .int (bI b)] (SS G SA X es k)) (qI A (fun r H => (∃ v : Bool, r = bI v) ∧ SS G SA X es k H)) 0 0 (A) := by
  refine mstart "Signtext" (by decide +kernel) rfl (Nat.le_of_ble_eq_true rfl) ?_
  intro p e s m below meth c ls hx hb hr hts hown hml hlocks hname hC hA hW hl
  have hl : lv_has ls 3 [(0, .ref (SA 0)), (1, .ref (SA (7 + 2 * i))), (2, .int (bI b))] := hl
  have hK := hC.1
  have hS : va_S A s.heap s.heap [] := va_S.rf
  obtain ⟨T, es2, hW, hF⟩ := hW
  have hO := hW.2.1
  have hR1 := hW.2.2.1
  have hR2 := hW.2.2.2.1
  refine lv_aload_n hx hb dX2_isSameTrimmedAgain_0 rfl (lv_at hl 0 rfl) ?_
  refine lv_aload_n hx hb dX2_isSameTrimmedAgain_1 rfl (lv_at hl 1 rfl) ?_
  refine lv_aload_n hx hb dX2_isSameTrimmedAgain_2 rfl (lv_at hl 1 rfl) ?_
  refine lv_iload_n hx hb dX2_isSameTrimmedAgain_3 rfl (lv_at hl 2 rfl) ?_
  have tbi := tbL_le b (T i)
  have t60e8 := (hW.line (i := i) (by omega)).1
  refine kV_i (A := A) (b := (SA (7 + 2 * i))) (As := [.int (bI b)]) (rest := .ref (SA (7 + 2 * i)) :: .ref (SA 0) :: []) ⟨hx, hb, hml, hown, hts⟩ (mX0_trimmedBegin (A := A) (ca := SA (8 + 2 * i)) (b := b)) (cwV 1 hts (gV tw_2_43 tw_2_44 tw_2_45 tw_1_2 tw_2_46) rfl rfl rfl (by decide +kernel) ⟨Nat.le_of_ble_eq_true rfl, Nat.le_of_ble_eq_true rfl⟩) hC hS hA ((hW.line (i := i) (by omega)).recv hK) (hW.line (i := i) (by omega)) rfl rfl hl.1 (Nat.le_of_ble_eq_true rfl) ⟨Nat.zero_le _, Nat.zero_le _⟩ dX2_isSameTrimmedAgain_4 (fun r9 h9 => lv_cv h9 ?_)
  refine lv_aload_n hx hb dX2_isSameTrimmedAgain_7 rfl (lv_at hl 1 rfl) ?_
  refine lv_iload_n hx hb dX2_isSameTrimmedAgain_8 rfl (lv_at hl 2 rfl) ?_
  refine kV_i (A := A) (b := (SA (7 + 2 * i))) (As := [.int (bI b)]) (rest := .int (nI (tbL b (T i))) :: .ref (SA (7 + 2 * i)) :: .ref (SA 0) :: []) ⟨hx, hb, hml, hown, hts⟩ (mX0_trimmedEnd (A := A) (ca := SA (8 + 2 * i)) (b := b)) (cwV 1 hts (gV tw_2_50 tw_2_51 tw_2_52 tw_1_2 tw_2_53) rfl rfl rfl (by decide +kernel) ⟨Nat.le_of_ble_eq_true rfl, Nat.le_of_ble_eq_true rfl⟩) hC hS hA ((hW.line (i := i) (by omega)).recv hK) (hW.line (i := i) (by omega)) rfl rfl hl.1 (Nat.le_of_ble_eq_true rfl) ⟨Nat.zero_le _, Nat.zero_le _⟩ dX2_isSameTrimmedAgain_9 (fun r_33 hr_33 => ?_)
  obtain ⟨e8, he8, rfl⟩ := hr_33
  refine lv_aload_n hx hb dX2_isSameTrimmedAgain_12 rfl (lv_at hl 0 rfl) ?_
  refine va_get (D := G.1) (ci := 6) (C := RX2) (T := TX2) (N := 8) hx hb hts inX2 hown hK (at_P hO) 0 rfl rfl 5 (by decide) (hts _ tw_1_142) (fun _ h9 => h9) rfl dX2_isSameTrimmedAgain_13 ?_
  have ge8 := he8.1
  have g2e8 := he8.2.1
  refine qI_V (A := A) (A1 := A) (b := (SA 0)) (As := [.ref (SA (7 + 2 * i)), .int (nI (tbL b (T i))), .int (nI e8), .ref (SA 31)]) (rest := []) ⟨hx, hb, hml, hown, hts⟩ (mX2_partInto (A := A) (i := i) (q := 12) (a9 := tbL b (T i)) (b9 := e8) hAS (by omega) (by omega) (by omega) he8.1 he8.2.1) (cwV 4 hts (gV tw_2_55 tw_2_57 sel_X2_partInto tw_1_1 tw_2_58) rfl rfl rfl (by decide +kernel) ⟨Nat.le_of_ble_eq_true rfl, Nat.le_of_ble_eq_true rfl⟩) hC hS (fun _ h => h) (fun q h => hA q (Nat.le_trans hS.1 h)) (hW.recv hK) hW rfl rfl hl.1 (Nat.le_of_ble_eq_true rfl) ⟨Nat.zero_le _, Nat.zero_le _⟩ dX2_isSameTrimmedAgain_16 (fun rv34 H34 L34 hP34 hk34 hS => ?_)
  have hZ34 := hS.1
  have hW := hP34.2
  have hO := hW.2.1
  have hR1 := hW.2.2.1
  have hR2 := hW.2.2.2.1
  generalize hT2 : updT (updT T 13 _) 12 _ = T2 at hW
  have hF2 : ∀ i : Nat, i < 4 ∨ i = 11 ∨ i = 14 → T2 i = X i := by rw [← hT2]; exact (FR.s12 (FR.s13 hF))
  refine lv_pop hx hb dX2_isSameTrimmedAgain_19 rfl ?_
  refine lv_aload_n hx hb dX2_isSameTrimmedAgain_20 rfl (lv_at hl 0 rfl) ?_
  refine lv_aload_n hx hb dX2_isSameTrimmedAgain_21 rfl (lv_at hl 0 rfl) ?_
  refine va_get (D := G.1) (ci := 6) (C := RX2) (T := TX2) (N := 8) hx hb hts inX2 hown hK (at_P hO) 0 rfl rfl 5 (by decide) (hts _ tw_1_142) (fun _ h9 => h9) rfl dX2_isSameTrimmedAgain_22 ?_
  refine lv_aload_n hx hb dX2_isSameTrimmedAgain_25 rfl (lv_at hl 0 rfl) ?_
  refine va_get (D := G.1) (ci := 6) (C := RX2) (T := TX2) (N := 8) hx hb hts inX2 hown hK (at_P hO) 0 rfl rfl 5 (by decide) (hts _ tw_1_142) (fun _ h9 => h9) rfl dX2_isSameTrimmedAgain_26 ?_
  refine lv_iload_n hx hb dX2_isSameTrimmedAgain_29 rfl (lv_at hl 2 rfl) ?_
  have tb12 := tbL_le b (T2 12)
  have t60e7 := (hW.line (i := 12) (by omega)).1
  refine kV_i (A := A) (b := (SA 31)) (As := [.int (bI b)]) (rest := .ref (SA 31) :: .ref (SA 0) :: []) ⟨hx, hb, hml, hown, hts⟩ (mX0_trimmedBegin (A := A) (ca := SA (8 + 2 * 12)) (b := b)) (cwV 1 hts (gV tw_2_43 tw_2_44 tw_2_45 tw_1_2 tw_2_46) rfl rfl rfl (by decide +kernel) ⟨Nat.le_of_ble_eq_true rfl, Nat.le_of_ble_eq_true rfl⟩) hC hS hA ((hW.line (i := 12) (by omega)).recv hK) (hW.line (i := 12) (by omega)) rfl rfl hl.1 (Nat.le_of_ble_eq_true rfl) ⟨Nat.zero_le _, Nat.zero_le _⟩ dX2_isSameTrimmedAgain_30 (fun r9 h9 => lv_cv h9 ?_)
  refine lv_aload_n hx hb dX2_isSameTrimmedAgain_33 rfl (lv_at hl 0 rfl) ?_
  refine va_get (D := G.1) (ci := 6) (C := RX2) (T := TX2) (N := 8) hx hb hts inX2 hown hK (at_P hO) 0 rfl rfl 5 (by decide) (hts _ tw_1_142) (fun _ h9 => h9) rfl dX2_isSameTrimmedAgain_34 ?_
  refine lv_iload_n hx hb dX2_isSameTrimmedAgain_37 rfl (lv_at hl 2 rfl) ?_
  refine kV_i (A := A) (b := (SA 31)) (As := [.int (bI b)]) (rest := .int (nI (tbL b (T2 12))) :: .ref (SA 31) :: .ref (SA 0) :: []) ⟨hx, hb, hml, hown, hts⟩ (mX0_trimmedEnd (A := A) (ca := SA (8 + 2 * 12)) (b := b)) (cwV 1 hts (gV tw_2_50 tw_2_51 tw_2_52 tw_1_2 tw_2_53) rfl rfl rfl (by decide +kernel) ⟨Nat.le_of_ble_eq_true rfl, Nat.le_of_ble_eq_true rfl⟩) hC hS hA ((hW.line (i := 12) (by omega)).recv hK) (hW.line (i := 12) (by omega)) rfl rfl hl.1 (Nat.le_of_ble_eq_true rfl) ⟨Nat.zero_le _, Nat.zero_le _⟩ dX2_isSameTrimmedAgain_38 (fun r_35 hr_35 => ?_)
  obtain ⟨e7, he7, rfl⟩ := hr_35
  refine lv_aload_n hx hb dX2_isSameTrimmedAgain_41 rfl (lv_at hl 0 rfl) ?_
  refine va_get (D := G.1) (ci := 6) (C := RX2) (T := TX2) (N := 8) hx hb hts inX2 hown hK (at_P hO) 0 rfl rfl 6 (by decide) (hts _ tw_1_143) (fun _ h9 => h9) rfl dX2_isSameTrimmedAgain_42 ?_
  have ge7 := he7.1
  have g2e7 := he7.2.1
  -- into the draft
  refine qI_V (A := A) (A1 := A) (b := (SA 0)) (As := [.ref (SA 31), .int (nI (tbL b (T2 12))), .int (nI e7), .ref (SA 33)]) (rest := []) ⟨hx, hb, hml, hown, hts⟩ (mX2_partInto_d (A := A) (i := 12) (a9 := tbL b (T2 12)) (b9 := e7) hAS (by omega) (by omega) he7.1 he7.2.1) (cwV 4 hts (gV tw_2_55 tw_2_57 sel_X2_partInto tw_1_1 tw_2_58) rfl rfl rfl (by decide +kernel) ⟨Nat.le_of_ble_eq_true rfl, Nat.le_of_ble_eq_true rfl⟩) hC hS (fun _ h => h) (fun q h => hA q (Nat.le_trans hS.1 h)) (hW.recv hK) hW rfl rfl hl.1 (Nat.le_of_ble_eq_true rfl) ⟨Nat.zero_le _, Nat.zero_le _⟩ dX2_isSameTrimmedAgain_45 (fun rv36 H36 L36 hP36 hk36 hS => ?_)
  have hZ36 := hS.1
  have hW := hP36.2
  have hO := hW.2.1
  have hR1 := hW.2.2.1
  have hR2 := hW.2.2.2.1
  refine lv_pop hx hb dX2_isSameTrimmedAgain_48 rfl ?_
  refine lv_aload_n hx hb dX2_isSameTrimmedAgain_49 rfl (lv_at hl 0 rfl) ?_
  refine va_get (D := G.1) (ci := 6) (C := RX2) (T := TX2) (N := 8) hx hb hts inX2 hown hK (at_P hO) 0 rfl rfl 6 (by decide) (hts _ tw_1_143) (fun _ h9 => h9) rfl dX2_isSameTrimmedAgain_50 ?_
  refine lv_aload_n hx hb dX2_isSameTrimmedAgain_53 rfl (lv_at hl 0 rfl) ?_
  refine va_get (D := G.1) (ci := 6) (C := RX2) (T := TX2) (N := 8) hx hb hts inX2 hown hK (at_P hO) 0 rfl rfl 5 (by decide) (hts _ tw_1_142) (fun _ h9 => h9) rfl dX2_isSameTrimmedAgain_54 ?_
  refine lv_iconst (v := nI 0) hx hb dX2_isSameTrimmedAgain_57 (by decide) ?_
  refine kV_i (A := A) (b := (SA 33)) (As := [.ref (SA 31), .int (bI false)]) (rest := []) ⟨hx, hb, hml, hown, hts⟩ (mX0_isSameAs (A := A) (ca := SA (8 + 2 * 13)) (cb := SA (8 + 2 * 12)) (b0 := false)) (cwV 2 hts (gV tw_2_7 tw_2_8 tw_2_9 tw_1_2 tw_2_10) rfl rfl rfl (by decide +kernel) ⟨Nat.le_of_ble_eq_true rfl, Nat.le_of_ble_eq_true rfl⟩) hC hS hA ((hW.line (i := 13) (by omega)).recv hK) ⟨(hW.line (i := 13) (by omega)), (hW.line (i := 12) (by omega))⟩ rfl rfl hl.1 (Nat.le_of_ble_eq_true rfl) ⟨Nat.zero_le _, Nat.zero_le _⟩ dX2_isSameTrimmedAgain_58 (fun r_37 hr_37 => ?_)
  obtain ⟨r_37v, -, rfl⟩ := hr_37
  exact q_z (b9 := r_37v) hx hb hr hlocks dX2_isSameTrimmedAgain_61 hS (Nat.le_refl _) (Nat.le_refl _) ⟨⟨_, rfl⟩, _, _, hW, FR.s13 hF2⟩
end
/-! 29.cls8 -/
section
/-! The class, 8: whether all is sound, the whole (any answer) -/
theorem FR.s15 {T X : Nat → List Nat} {w : List Nat} (h : ∀ i : Nat, i < 4 ∨ i = 11 ∨ i = 14 → T i = X i) : ∀ i : Nat, i < 4 ∨ i = 11 ∨ i = 14 → updT T 15 w i = X i := fun i hi => (updT_n (by omega)).trans (h i hi)
theorem dX2_isSound_0 : decode cX2_isSound 0 = .ok (.iconst 0, 1) := by decide +kernel
theorem dX2_isSound_1 : decode cX2_isSound 1 = .ok (.istore_n 1, 1) := by decide +kernel
theorem dX2_isSound_2 : decode cX2_isSound 2 = .ok (.iload_n 1, 1) := by decide +kernel
theorem dX2_isSound_3 : decode cX2_isSound 3 = .ok (.iconst 4, 1) := by decide +kernel
theorem dX2_isSound_4 : decode cX2_isSound 4 = .ok (.if_icmp .ge 57, 3) := by decide +kernel
theorem dX2_isSound_7 : decode cX2_isSound 7 = .ok (.aload_n 0, 1) := by decide +kernel
theorem dX2_isSound_8 : decode cX2_isSound 8 = .ok (.aload_n 0, 1) := by decide +kernel
theorem dX2_isSound_9 : decode cX2_isSound 9 = .ok (.getfield 11, 3) := by decide +kernel
theorem dX2_isSound_12 : decode cX2_isSound 12 = .ok (.iload_n 1, 1) := by decide +kernel
theorem dX2_isSound_13 : decode cX2_isSound 13 = .ok (.aaload, 1) := by decide +kernel
theorem dX2_isSound_14 : decode cX2_isSound 14 = .ok (.invokevirtual 195, 3) := by decide +kernel
theorem dX2_isSound_17 : decode cX2_isSound 17 = .ok (.ifCond .ne 5, 3) := by decide +kernel
theorem dX2_isSound_20 : decode cX2_isSound 20 = .ok (.iconst 0, 1) := by decide +kernel
theorem dX2_isSound_21 : decode cX2_isSound 21 = .ok (.ireturn, 1) := by decide +kernel
theorem dX2_isSound_22 : decode cX2_isSound 22 = .ok (.iconst 0, 1) := by decide +kernel
theorem dX2_isSound_23 : decode cX2_isSound 23 = .ok (.istore_n 2, 1) := by decide +kernel
theorem dX2_isSound_24 : decode cX2_isSound 24 = .ok (.iload_n 2, 1) := by decide +kernel
theorem dX2_isSound_25 : decode cX2_isSound 25 = .ok (.iconst 4, 1) := by decide +kernel
theorem dX2_isSound_26 : decode cX2_isSound 26 = .ok (.if_icmp .ge 29, 3) := by decide +kernel
theorem dX2_isSound_29 : decode cX2_isSound 29 = .ok (.aload_n 0, 1) := by decide +kernel
theorem dX2_isSound_30 : decode cX2_isSound 30 = .ok (.getfield 11, 3) := by decide +kernel
theorem dX2_isSound_33 : decode cX2_isSound 33 = .ok (.iload_n 1, 1) := by decide +kernel
theorem dX2_isSound_34 : decode cX2_isSound 34 = .ok (.aaload, 1) := by decide +kernel
theorem dX2_isSound_35 : decode cX2_isSound 35 = .ok (.aload_n 0, 1) := by decide +kernel
theorem dX2_isSound_36 : decode cX2_isSound 36 = .ok (.getfield 11, 3) := by decide +kernel
theorem dX2_isSound_39 : decode cX2_isSound 39 = .ok (.iload_n 2, 1) := by decide +kernel
theorem dX2_isSound_40 : decode cX2_isSound 40 = .ok (.aaload, 1) := by decide +kernel
theorem dX2_isSound_41 : decode cX2_isSound 41 = .ok (.invokestatic 198, 3) := by decide +kernel
theorem dX2_isSound_44 : decode cX2_isSound 44 = .ok (.ifCond .ne 5, 3) := by decide +kernel
theorem dX2_isSound_47 : decode cX2_isSound 47 = .ok (.iconst 0, 1) := by decide +kernel
theorem dX2_isSound_48 : decode cX2_isSound 48 = .ok (.ireturn, 1) := by decide +kernel
theorem dX2_isSound_49 : decode cX2_isSound 49 = .ok (.iinc 2 1, 3) := by decide +kernel
theorem dX2_isSound_52 : decode cX2_isSound 52 = .ok (.goto (-28), 3) := by decide +kernel
theorem dX2_isSound_55 : decode cX2_isSound 55 = .ok (.iinc 1 1, 3) := by decide +kernel
theorem dX2_isSound_58 : decode cX2_isSound 58 = .ok (.goto (-56), 3) := by decide +kernel
theorem dX2_isSound_61 : decode cX2_isSound 61 = .ok (.iconst 1, 1) := by decide +kernel
theorem dX2_isSound_62 : decode cX2_isSound 62 = .ok (.ireturn, 1) := by decide +kernel
theorem dX2_isSoundAlone_0 : decode cX2_isSoundAlone 0 = .ok (.aload_n 0, 1) := by decide +kernel
theorem dX2_isSoundAlone_1 : decode cX2_isSoundAlone 1 = .ok (.aload_n 1, 1) := by decide +kernel
theorem dX2_isSoundAlone_2 : decode cX2_isSoundAlone 2 = .ok (.invokevirtual 264, 3) := by decide +kernel
theorem dX2_isSoundAlone_5 : decode cX2_isSoundAlone 5 = .ok (.ifCond .eq 41, 3) := by decide +kernel
theorem dX2_isSoundAlone_8 : decode cX2_isSoundAlone 8 = .ok (.aload_n 0, 1) := by decide +kernel
theorem dX2_isSoundAlone_9 : decode cX2_isSoundAlone 9 = .ok (.aload_n 1, 1) := by decide +kernel
theorem dX2_isSoundAlone_10 : decode cX2_isSoundAlone 10 = .ok (.invokevirtual 267, 3) := by decide +kernel
theorem dX2_isSoundAlone_13 : decode cX2_isSoundAlone 13 = .ok (.ifCond .eq 33, 3) := by decide +kernel
theorem dX2_isSoundAlone_16 : decode cX2_isSoundAlone 16 = .ok (.aload_n 0, 1) := by decide +kernel
theorem dX2_isSoundAlone_17 : decode cX2_isSoundAlone 17 = .ok (.aload_n 1, 1) := by decide +kernel
theorem dX2_isSoundAlone_18 : decode cX2_isSoundAlone 18 = .ok (.iconst 0, 1) := by decide +kernel
theorem dX2_isSoundAlone_19 : decode cX2_isSoundAlone 19 = .ok (.invokevirtual 270, 3) := by decide +kernel
theorem dX2_isSoundAlone_22 : decode cX2_isSoundAlone 22 = .ok (.ifCond .eq 24, 3) := by decide +kernel
theorem dX2_isSoundAlone_25 : decode cX2_isSoundAlone 25 = .ok (.aload_n 0, 1) := by decide +kernel
theorem dX2_isSoundAlone_26 : decode cX2_isSoundAlone 26 = .ok (.aload_n 1, 1) := by decide +kernel
theorem dX2_isSoundAlone_27 : decode cX2_isSoundAlone 27 = .ok (.iconst 1, 1) := by decide +kernel
theorem dX2_isSoundAlone_28 : decode cX2_isSoundAlone 28 = .ok (.invokevirtual 270, 3) := by decide +kernel
theorem dX2_isSoundAlone_31 : decode cX2_isSoundAlone 31 = .ok (.ifCond .eq 15, 3) := by decide +kernel
theorem dX2_isSoundAlone_34 : decode cX2_isSoundAlone 34 = .ok (.aload_n 0, 1) := by decide +kernel
theorem dX2_isSoundAlone_35 : decode cX2_isSoundAlone 35 = .ok (.aload_n 1, 1) := by decide +kernel
theorem dX2_isSoundAlone_36 : decode cX2_isSoundAlone 36 = .ok (.invokevirtual 273, 3) := by decide +kernel
theorem dX2_isSoundAlone_39 : decode cX2_isSoundAlone 39 = .ok (.ifCond .eq 7, 3) := by decide +kernel
theorem dX2_isSoundAlone_42 : decode cX2_isSoundAlone 42 = .ok (.iconst 1, 1) := by decide +kernel
theorem dX2_isSoundAlone_43 : decode cX2_isSoundAlone 43 = .ok (.goto 4, 3) := by decide +kernel
theorem dX2_isSoundAlone_46 : decode cX2_isSoundAlone 46 = .ok (.iconst 0, 1) := by decide +kernel
theorem dX2_isSoundAlone_47 : decode cX2_isSoundAlone 47 = .ok (.ireturn, 1) := by decide +kernel
theorem dX2_isSameOfPieces_0 : decode cX2_isSameOfPieces 0 = .ok (.aload_n 0, 1) := by decide +kernel
theorem dX2_isSameOfPieces_1 : decode cX2_isSameOfPieces 1 = .ok (.getfield 40, 3) := by decide +kernel
theorem dX2_isSameOfPieces_4 : decode cX2_isSameOfPieces 4 = .ok (.aload_n 1, 1) := by decide +kernel
theorem dX2_isSameOfPieces_5 : decode cX2_isSameOfPieces 5 = .ok (.invokevirtual 135, 3) := by decide +kernel
theorem dX2_isSameOfPieces_8 : decode cX2_isSameOfPieces 8 = .ok (.aload_n 0, 1) := by decide +kernel
theorem dX2_isSameOfPieces_9 : decode cX2_isSameOfPieces 9 = .ok (.getfield 37, 3) := by decide +kernel
theorem dX2_isSameOfPieces_12 : decode cX2_isSameOfPieces 12 = .ok (.invokevirtual 55, 3) := by decide +kernel
theorem dX2_isSameOfPieces_15 : decode cX2_isSameOfPieces 15 = .ok (.iconst 0, 1) := by decide +kernel
theorem dX2_isSameOfPieces_16 : decode cX2_isSameOfPieces 16 = .ok (.istore_n 2, 1) := by decide +kernel
theorem dX2_isSameOfPieces_17 : decode cX2_isSameOfPieces 17 = .ok (.iload_n 2, 1) := by decide +kernel
theorem dX2_isSameOfPieces_18 : decode cX2_isSameOfPieces 18 = .ok (.aload_n 0, 1) := by decide +kernel
theorem dX2_isSameOfPieces_19 : decode cX2_isSameOfPieces 19 = .ok (.getfield 40, 3) := by decide +kernel
theorem dX2_isSameOfPieces_22 : decode cX2_isSameOfPieces 22 = .ok (.invokevirtual 138, 3) := by decide +kernel
theorem dX2_isSameOfPieces_25 : decode cX2_isSameOfPieces 25 = .ok (.if_icmp .ge 52, 3) := by decide +kernel
theorem dX2_isSameOfPieces_28 : decode cX2_isSameOfPieces 28 = .ok (.iload_n 2, 1) := by decide +kernel
theorem dX2_isSameOfPieces_29 : decode cX2_isSameOfPieces 29 = .ok (.ifCond .le 12, 3) := by decide +kernel
theorem dX2_isSameOfPieces_32 : decode cX2_isSameOfPieces 32 = .ok (.aload_n 0, 1) := by decide +kernel
theorem dX2_isSameOfPieces_33 : decode cX2_isSameOfPieces 33 = .ok (.getfield 37, 3) := by decide +kernel
theorem dX2_isSameOfPieces_36 : decode cX2_isSameOfPieces 36 = .ok (.bipush 44, 2) := by decide +kernel
theorem dX2_isSameOfPieces_38 : decode cX2_isSameOfPieces 38 = .ok (.invokevirtual 119, 3) := by decide +kernel
theorem dX2_isSameOfPieces_41 : decode cX2_isSameOfPieces 41 = .ok (.aload_n 0, 1) := by decide +kernel
theorem dX2_isSameOfPieces_42 : decode cX2_isSameOfPieces 42 = .ok (.getfield 37, 3) := by decide +kernel
theorem dX2_isSameOfPieces_45 : decode cX2_isSameOfPieces 45 = .ok (.aload_n 0, 1) := by decide +kernel
theorem dX2_isSameOfPieces_46 : decode cX2_isSameOfPieces 46 = .ok (.getfield 40, 3) := by decide +kernel
theorem dX2_isSameOfPieces_49 : decode cX2_isSameOfPieces 49 = .ok (.invokevirtual 239, 3) := by decide +kernel
theorem dX2_isSameOfPieces_52 : decode cX2_isSameOfPieces 52 = .ok (.aload_n 0, 1) := by decide +kernel
theorem dX2_isSameOfPieces_53 : decode cX2_isSameOfPieces 53 = .ok (.getfield 40, 3) := by decide +kernel
theorem dX2_isSameOfPieces_56 : decode cX2_isSameOfPieces 56 = .ok (.iload_n 2, 1) := by decide +kernel
theorem dX2_isSameOfPieces_57 : decode cX2_isSameOfPieces 57 = .ok (.invokevirtual 222, 3) := by decide +kernel
theorem dX2_isSameOfPieces_60 : decode cX2_isSameOfPieces 60 = .ok (.aload_n 0, 1) := by decide +kernel
theorem dX2_isSameOfPieces_61 : decode cX2_isSameOfPieces 61 = .ok (.getfield 40, 3) := by decide +kernel
theorem dX2_isSameOfPieces_64 : decode cX2_isSameOfPieces 64 = .ok (.iload_n 2, 1) := by decide +kernel
theorem dX2_isSameOfPieces_65 : decode cX2_isSameOfPieces 65 = .ok (.invokevirtual 219, 3) := by decide +kernel
theorem dX2_isSameOfPieces_68 : decode cX2_isSameOfPieces 68 = .ok (.invokevirtual 235, 3) := by decide +kernel
theorem dX2_isSameOfPieces_71 : decode cX2_isSameOfPieces 71 = .ok (.iinc 2 1, 3) := by decide +kernel
theorem dX2_isSameOfPieces_74 : decode cX2_isSameOfPieces 74 = .ok (.goto (-57), 3) := by decide +kernel
theorem dX2_isSameOfPieces_77 : decode cX2_isSameOfPieces 77 = .ok (.aload_n 0, 1) := by decide +kernel
theorem dX2_isSameOfPieces_78 : decode cX2_isSameOfPieces 78 = .ok (.getfield 37, 3) := by decide +kernel
theorem dX2_isSameOfPieces_81 : decode cX2_isSameOfPieces 81 = .ok (.invokevirtual 66, 3) := by decide +kernel
theorem dX2_isSameOfPieces_84 : decode cX2_isSameOfPieces 84 = .ok (.istore_n 2, 1) := by decide +kernel
theorem dX2_isSameOfPieces_85 : decode cX2_isSameOfPieces 85 = .ok (.iload_n 2, 1) := by decide +kernel
theorem dX2_isSameOfPieces_86 : decode cX2_isSameOfPieces 86 = .ok (.aload_n 1, 1) := by decide +kernel
theorem dX2_isSameOfPieces_87 : decode cX2_isSameOfPieces 87 = .ok (.invokevirtual 66, 3) := by decide +kernel
theorem dX2_isSameOfPieces_90 : decode cX2_isSameOfPieces 90 = .ok (.if_icmp .ge 21, 3) := by decide +kernel
theorem dX2_isSameOfPieces_93 : decode cX2_isSameOfPieces 93 = .ok (.aload_n 1, 1) := by decide +kernel
theorem dX2_isSameOfPieces_94 : decode cX2_isSameOfPieces 94 = .ok (.iload_n 2, 1) := by decide +kernel
theorem dX2_isSameOfPieces_95 : decode cX2_isSameOfPieces 95 = .ok (.invokevirtual 128, 3) := by decide +kernel
theorem dX2_isSameOfPieces_98 : decode cX2_isSameOfPieces 98 = .ok (.bipush 44, 2) := by decide +kernel
theorem dX2_isSameOfPieces_100 : decode cX2_isSameOfPieces 100 = .ok (.if_icmp .eq 5, 3) := by decide +kernel
theorem dX2_isSameOfPieces_103 : decode cX2_isSameOfPieces 103 = .ok (.iconst 0, 1) := by decide +kernel
theorem dX2_isSameOfPieces_104 : decode cX2_isSameOfPieces 104 = .ok (.ireturn, 1) := by decide +kernel
theorem dX2_isSameOfPieces_105 : decode cX2_isSameOfPieces 105 = .ok (.iinc 2 1, 3) := by decide +kernel
theorem dX2_isSameOfPieces_108 : decode cX2_isSameOfPieces 108 = .ok (.goto (-23), 3) := by decide +kernel
theorem dX2_isSameOfPieces_111 : decode cX2_isSameOfPieces 111 = .ok (.aload_n 1, 1) := by decide +kernel
theorem dX2_isSameOfPieces_112 : decode cX2_isSameOfPieces 112 = .ok (.aload_n 0, 1) := by decide +kernel
theorem dX2_isSameOfPieces_113 : decode cX2_isSameOfPieces 113 = .ok (.getfield 37, 3) := by decide +kernel
theorem dX2_isSameOfPieces_116 : decode cX2_isSameOfPieces 116 = .ok (.iconst 0, 1) := by decide +kernel
theorem dX2_isSameOfPieces_117 : decode cX2_isSameOfPieces 117 = .ok (.iconst 0, 1) := by decide +kernel
theorem dX2_isSameOfPieces_118 : decode cX2_isSameOfPieces 118 = .ok (.invokevirtual 164, 3) := by decide +kernel
theorem dX2_isSameOfPieces_121 : decode cX2_isSameOfPieces 121 = .ok (.ireturn, 1) := by decide +kernel
abbrev rmX2_isSameOfPieces : Room := { frames := 4, cells := 0, slots := 0, locals := 84 }
theorem mX2_isSameOfPieces {l : Launch} {G : Cx} {A : Nat → Prop} {SA : Nat → Nat} {X : Nat → List Nat} {es : List Nat} {k : Int32} {i : Nat} (hi : i < 4) (hAS : ∀ i : Nat, i < 39 → A (SA i)) : Met l yX2_isSameOfPieces (.code yX2_isSameOfPieces cX2_isSameOfPieces 3 (some .boolean) :: GW) rmX2_isSameOfPieces (PC G A [.ref (SA 0), .ref (SA (7 + 2 * i))] (SS G SA X es k)) (qI A (fun r H => (∃ v : Bool, r = bI v) ∧ SS G SA X es k H)) 0 0 (A) := by
  refine mstart "Signtext" (by decide +kernel) rfl (Nat.le_of_ble_eq_true rfl) ?_
  intro p e s m below meth c ls hx hb hr hts hown hml hlocks hname hC hA hW hl
  have hl : lv_has ls 3 [(0, .ref (SA 0)), (1, .ref (SA (7 + 2 * i)))] := hl
  have hK := hC.1
  have hS : va_S A s.heap s.heap [] := va_S.rf
  obtain ⟨T, es2, hW, hF⟩ := hW
  have hO := hW.2.1
  have hR1 := hW.2.2.1
  have hR2 := hW.2.2.2.1
  refine lv_aload_n hx hb dX2_isSameOfPieces_0 rfl (lv_at hl 0 rfl) ?_
  refine va_get (D := G.1) (ci := 6) (C := RX2) (T := TX2) (N := 8) hx hb hts inX2 hown hK (at_P hO) 0 rfl rfl 7 (by decide) (hts _ tw_1_144) (fun _ h9 => h9) rfl dX2_isSameOfPieces_1 ?_
  refine lv_aload_n hx hb dX2_isSameOfPieces_4 rfl (lv_at hl 1 rfl) ?_
  refine qV_V (A := A) (A1 := oP SA 5 37 38 6 s.heap.size) (b := (SA 5)) (As := [.ref (SA (7 + 2 * i))]) (rest := []) ⟨hx, hb, hml, hown, hts⟩ (mX1_cutOf (A := oP SA 5 37 38 6 s.heap.size) (la := SA 37) (lca := SA 38) (ea := SA 6) (cb := SA (8 + 2 * i)) (t := T 15) (u := T i) (es := es2) (Or.inl rfl) (Or.inr (Or.inl rfl)) (Or.inr (Or.inr (Or.inl rfl))) (Or.inr (Or.inr (Or.inr (Or.inl rfl)))) ⟨hW.ne (i := 7 + 2 * i) (j := 5) (by omega) (by omega) (by omega), hW.ne (i := 7 + 2 * i) (j := 37) (by omega) (by omega) (by omega), hW.ne (i := 7 + 2 * i) (j := 38) (by omega) (by omega) (by omega), hW.ne (i := 7 + 2 * i) (j := 6) (by omega) (by omega) (by omega)⟩ ⟨hW.ne (i := 8 + 2 * i) (j := 5) (by omega) (by omega) (by omega), hW.ne (i := 8 + 2 * i) (j := 37) (by omega) (by omega) (by omega), hW.ne (i := 8 + 2 * i) (j := 38) (by omega) (by omega) (by omega), hW.ne (i := 8 + 2 * i) (j := 6) (by omega) (by omega) (by omega)⟩) (cwV 1 hts (gV tw_2_63 tw_2_64 tw_2_65 tw_1_3 tw_2_66) rfl rfl rfl (by decide +kernel) ⟨Nat.le_of_ble_eq_true rfl, Nat.le_of_ble_eq_true rfl⟩) hC hS (oP_in (hAS 5 (by decide)) (hAS 37 (by decide)) (hAS 38 (by decide)) (hAS 6 (by decide)) hA hS.1) oP_n (hW.trd.1.recv hK) ⟨hW.trd, hW.line (i := i) (by omega)⟩ rfl rfl hl.1 (Nat.le_of_ble_eq_true rfl) ⟨Nat.zero_le _, Nat.zero_le _⟩ dX2_isSameOfPieces_5 (fun H1 L1 hP1 hk1 hS => ?_)
  have hZ1 := hS.1
  obtain ⟨⟨es1, hcut, hPA⟩, -⟩ := hP1
  have hW := hW.putTr hk1 hPA
  generalize hT2 : updT T 15 (T i) = T2 at hW
  have hF2 : ∀ i : Nat, i < 4 ∨ i = 11 ∨ i = 14 → T2 i = X i := by rw [← hT2]; exact FR.s15 hF
  have hO := hW.2.1
  have hR1 := hW.2.2.1
  have hR2 := hW.2.2.2.1
  refine lv_aload_n hx hb dX2_isSameOfPieces_8 rfl (lv_at hl 0 rfl) ?_
  refine va_get (D := G.1) (ci := 6) (C := RX2) (T := TX2) (N := 8) hx hb hts inX2 hown hK (at_P hO) 0 rfl rfl 6 (by decide) (hts _ tw_1_143) (fun _ h9 => h9) rfl dX2_isSameOfPieces_9 ?_
  refine qV_V (A := A) (A1 := ow (SA (7 + 2 * 13)) (SA (8 + 2 * 13)) H1.size) (b := (SA 33)) (As := []) (rest := []) ⟨hx, hb, hml, hown, hts⟩ (mX0_empty (A := ow (SA (7 + 2 * 13)) (SA (8 + 2 * 13)) H1.size) (ca := SA (8 + 2 * 13)) (hAa := Or.inl rfl)) (cwV 0 hts (gV tw_2_31 tw_2_32 tw_2_33 tw_1_2 tw_2_34) rfl rfl rfl (by decide +kernel) ⟨Nat.le_of_ble_eq_true rfl, Nat.le_of_ble_eq_true rfl⟩) hC hS (ow_in (hAS _ (by omega)) (hAS _ (by omega)) hA hS.1) ow_n ((hW.line (i := 13) (by omega)).recv hK) (hW.line (i := 13) (by omega)) rfl rfl hl.1 (Nat.le_of_ble_eq_true rfl) ⟨Nat.zero_le _, Nat.zero_le _⟩ dX2_isSameOfPieces_12 (fun H2 L2 hP2 hk2 hS => ?_)
  have hZ2 := hS.1
  have hW := hW.put (q := 13) (t := []) (by omega) hk2 hP2
  have hO := hW.2.1
  have hR1 := hW.2.2.1
  have hR2 := hW.2.2.2.1
  refine lv_iconst (v := nI 0) hx hb dX2_isSameOfPieces_15 (by decide) ?_
  refine lv_istore_n (lv' := [(2, .int (nI 0)), (0, .ref (SA 0)), (1, .ref (SA (7 + 2 * i)))]) hx hb dX2_isSameOfPieces_16 rfl hl (by decide) rfl (fun ls hl => ?_)
  have e61 := hW.trd.1.1
  have i60 := (hW.line (i := i) (by omega)).1
  have k77 : ∀ (ls : Array Slot) (H : Heap) (L : List Loc) (w : List Nat), lv_has ls 3 [(0, .ref (SA 0)), (1, .ref (SA (7 + 2 * i)))] → va_S A s.heap H L → SW G SA (updT T2 13 w) es es1 k H → W p l e rmX2_isSameOfPieces s m [.ref (SA 0), .ref (SA (7 + 2 * i))].toArray below meth c H L 0 0 (MQ below (qI A (fun r H => (∃ v : Bool, r = bI v) ∧ SS G SA X es k H)) [.ref (SA 0), .ref (SA (7 + 2 * i))].toArray s 0 0 (A)) (F0 m 77 ls []) := by
    clear hl hS hW hO hR1 hR2
    intro ls H L w hl hS hW
    have hO := hW.2.1
    have hR1 := hW.2.2.1
    have hR2 := hW.2.2.2.1
    refine lv_aload_n hx hb dX2_isSameOfPieces_77 rfl (lv_at hl 0 rfl) ?_
    refine va_get (D := G.1) (ci := 6) (C := RX2) (T := TX2) (N := 8) hx hb hts inX2 hown hK (at_P hO) 0 rfl rfl 6 (by decide) (hts _ tw_1_143) (fun _ h9 => h9) rfl dX2_isSameOfPieces_78 ?_
    have i60 := (hW.line (i := i) (by omega)).1
    have w60 := (hW.line (i := 13) (by omega)).1
    refine kV_i (A := A) (b := (SA 33)) (As := []) (rest := []) ⟨hx, hb, hml, hown, hts⟩ (mX0_size (A := A) (ca := SA (8 + 2 * 13))) (cwV 0 hts (gV tw_2_30 tw_2_12 tw_2_13 tw_1_2 tw_2_14) rfl rfl rfl (by decide +kernel) ⟨Nat.le_of_ble_eq_true rfl, Nat.le_of_ble_eq_true rfl⟩) hC hS hA ((hW.line (i := 13) (by omega)).recv hK) (hW.line (i := 13) (by omega)) rfl rfl hl.1 (Nat.le_of_ble_eq_true rfl) ⟨Nat.zero_le _, Nat.zero_le _⟩ dX2_isSameOfPieces_81 (fun r9 h9 => lv_cv h9 ?_)
    refine lv_istore_n (lv' := [(2, .int (nI ((updT T2 13 w 13).length))), (0, .ref (SA 0)), (1, .ref (SA (7 + 2 * i)))]) hx hb dX2_isSameOfPieces_84 rfl hl (by decide) rfl (fun ls hl => ?_)
    refine nloop (P := fun j => ∀ (ls : Array Slot) , lv_has ls 3 [(2, .int (nI j)), (0, .ref (SA 0)), (1, .ref (SA (7 + 2 * i)))] → W p l e rmX2_isSameOfPieces s m [.ref (SA 0), .ref (SA (7 + 2 * i))].toArray below meth c H L 0 0 (MQ below (qI A (fun r H => (∃ v : Bool, r = bI v) ∧ SS G SA X es k H)) [.ref (SA 0), .ref (SA (7 + 2 * i))].toArray s 0 0 (A)) (F0 m 85 ls [])) 61 ?_ ((updT T2 13 w 13).length) (by omega) ls  hl 
    clear hl
    intro j hj ih ls  hl
    refine lv_iload_n hx hb dX2_isSameOfPieces_85 rfl (lv_at hl 0 rfl) ?_
    refine lv_aload_n hx hb dX2_isSameOfPieces_86 rfl (lv_at hl 2 rfl) ?_
    refine kV_i (A := A) (b := (SA (7 + 2 * i))) (As := []) (rest := .int (nI j) :: []) ⟨hx, hb, hml, hown, hts⟩ (mX0_size (A := A) (ca := SA (8 + 2 * i))) (cwV 0 hts (gV tw_2_30 tw_2_12 tw_2_13 tw_1_2 tw_2_14) rfl rfl rfl (by decide +kernel) ⟨Nat.le_of_ble_eq_true rfl, Nat.le_of_ble_eq_true rfl⟩) hC hS hA ((hW.line (i := i) (by omega)).recv hK) (hW.line (i := i) (by omega)) rfl rfl hl.1 (Nat.le_of_ble_eq_true rfl) ⟨Nat.zero_le _, Nat.zero_le _⟩ dX2_isSameOfPieces_87 (fun r9 h9 => lv_cv h9 ?_)
    refine b_ge (tgt := 111) hx hb dX2_isSameOfPieces_90 (by decide) (by omega) (by omega) (fun c_3 => ?_) (fun c_3 => ?_)
    · refine lv_aload_n hx hb dX2_isSameOfPieces_111 rfl (lv_at hl 2 rfl) ?_
      refine lv_aload_n hx hb dX2_isSameOfPieces_112 rfl (lv_at hl 1 rfl) ?_
      refine va_get (D := G.1) (ci := 6) (C := RX2) (T := TX2) (N := 8) hx hb hts inX2 hown hK (at_P hO) 0 rfl rfl 6 (by decide) (hts _ tw_1_143) (fun _ h9 => h9) rfl dX2_isSameOfPieces_113 ?_
      refine lv_iconst (v := nI 0) hx hb dX2_isSameOfPieces_116 (by decide) ?_
      refine lv_iconst (v := nI 0) hx hb dX2_isSameOfPieces_117 (by decide) ?_
      refine kV_i (A := A) (b := (SA (7 + 2 * i))) (As := [.ref (SA 33), .int (nI 0), .int (bI false)]) (rest := []) ⟨hx, hb, hml, hown, hts⟩ (mX0_standsAt (A := A) (ca := SA (8 + 2 * i)) (cb := SA (8 + 2 * 13)) (i := 0) (b0 := false) (by omega)) (cwV 3 hts (gV tw_2_94 tw_2_16 tw_2_17 tw_1_2 tw_2_18) rfl rfl rfl (by decide +kernel) ⟨Nat.le_of_ble_eq_true rfl, Nat.le_of_ble_eq_true rfl⟩) hC hS hA ((hW.line (i := i) (by omega)).recv hK) ⟨(hW.line (i := i) (by omega)), (hW.line (i := 13) (by omega))⟩ rfl rfl hl.1 (Nat.le_of_ble_eq_true rfl) ⟨Nat.zero_le _, Nat.zero_le _⟩ dX2_isSameOfPieces_118 (fun r_4 hr_4 => ?_)
      obtain ⟨r_4v, -, rfl⟩ := hr_4
      exact q_z (b9 := r_4v) hx hb hr hlocks dX2_isSameOfPieces_121 hS (Nat.le_refl _) (Nat.le_refl _) ⟨⟨_, rfl⟩, _, _, hW, FR.s13 hF2⟩
    · refine lv_aload_n hx hb dX2_isSameOfPieces_93 rfl (lv_at hl 2 rfl) ?_
      refine lv_iload_n hx hb dX2_isSameOfPieces_94 rfl (lv_at hl 0 rfl) ?_
      have tokj := (hW.line (i := i) (by omega)).2.1 j
      refine kV_i (A := A) (b := (SA (7 + 2 * i))) (As := [.int (nI j)]) (rest := []) ⟨hx, hb, hml, hown, hts⟩ (mX0_codeAt (A := A) (ca := SA (8 + 2 * i)) (i := j) (by omega)) (cwV 1 hts (gV tw_2_93 tw_2_20 tw_2_21 tw_1_2 tw_2_22) rfl rfl rfl (by decide +kernel) ⟨Nat.le_of_ble_eq_true rfl, Nat.le_of_ble_eq_true rfl⟩) hC hS hA ((hW.line (i := i) (by omega)).recv hK) (hW.line (i := i) (by omega)) rfl rfl hl.1 (Nat.le_of_ble_eq_true rfl) ⟨Nat.zero_le _, Nat.zero_le _⟩ dX2_isSameOfPieces_95 (fun r9 h9 => lv_cv h9 ?_)
      refine lv_bipush (v := nI 44) hx hb dX2_isSameOfPieces_98 (by decide) ?_
      refine b_eq (tgt := 105) hx hb dX2_isSameOfPieces_100 (by decide) (by omega) (by omega) (fun c_5 => ?_) (fun c_5 => ?_)
      · refine lv_iinc (v := nI (j + 1)) (lv' := [(2, .int (nI (j + 1))), (0, .ref (SA 0)), (1, .ref (SA (7 + 2 * i)))]) hx hb dX2_isSameOfPieces_105 hl (k := 0) rfl (nI_add j 1) (by decide) rfl (fun ls hl => ?_)
        refine lv_goto (tgt := 85) hx hb dX2_isSameOfPieces_108 (by decide) ?_
        exact ih (j + 1) (by omega) (by omega) ls (lv_sub hl [0, 1, 2] rfl)
      · refine lv_iconst (v := nI 0) hx hb dX2_isSameOfPieces_103 (by decide) ?_
        exact q_z (b9 := false) hx hb hr hlocks dX2_isSameOfPieces_104 hS (Nat.le_refl _) (Nat.le_refl _) ⟨⟨_, rfl⟩, _, _, hW, FR.s13 hF2⟩
  refine nloop (P := fun j => ∀ (ls : Array Slot) (H : Heap) (L : List Loc) (w : List Nat), lv_has ls 3 [(2, .int (nI j)), (0, .ref (SA 0)), (1, .ref (SA (7 + 2 * i)))] → va_S A s.heap H L → SW G SA (updT T2 13 w) es es1 k H → W p l e rmX2_isSameOfPieces s m [.ref (SA 0), .ref (SA (7 + 2 * i))].toArray below meth c H L 0 0 (MQ below (qI A (fun r H => (∃ v : Bool, r = bI v) ∧ SS G SA X es k H)) [.ref (SA 0), .ref (SA (7 + 2 * i))].toArray s 0 0 (A)) (F0 m 17 ls [])) es1.length ?_ 0 (Nat.zero_le _) ls H2 L2 [] hl hS hW
  clear hl
  intro j hj ih ls H L w hl
  clear hS hW hO hR1 hR2
  intro hS hW
  have hO := hW.2.1
  have hR1 := hW.2.2.1
  have hR2 := hW.2.2.2.1
  refine lv_iload_n hx hb dX2_isSameOfPieces_17 rfl (lv_at hl 0 rfl) ?_
  refine lv_aload_n hx hb dX2_isSameOfPieces_18 rfl (lv_at hl 1 rfl) ?_
  refine va_get (D := G.1) (ci := 6) (C := RX2) (T := TX2) (N := 8) hx hb hts inX2 hown hK (at_P hO) 0 rfl rfl 7 (by decide) (hts _ tw_1_144) (fun _ h9 => h9) rfl dX2_isSameOfPieces_19 ?_
  refine kV_i (A := A) (b := (SA 5)) (As := []) (rest := .int (nI j) :: []) ⟨hx, hb, hml, hown, hts⟩ (mX1_size (A := A) (la := SA 37) (ea := SA 6) (es := es1)) (cwV 0 hts (gV tw_2_82 tw_2_83 tw_2_84 tw_1_3 tw_2_85) rfl rfl rfl (by decide +kernel) ⟨Nat.le_of_ble_eq_true rfl, Nat.le_of_ble_eq_true rfl⟩) hC hS hA (hW.trd.1.recv hK) hW.trd.1 rfl rfl hl.1 (Nat.le_of_ble_eq_true rfl) ⟨Nat.zero_le _, Nat.zero_le _⟩ dX2_isSameOfPieces_22 (fun r9 h9 => lv_cv h9 ?_)
  refine b_ge (tgt := 77) hx hb dX2_isSameOfPieces_25 (by decide) (by omega) (by omega) (fun c_6 => ?_) (fun c_6 => ?_)
  · exact k77 ls H L w (lv_sub hl [1, 2] rfl) hS hW
  · have k41 : ∀ (ls : Array Slot) (H : Heap) (L : List Loc) (w : List Nat), lv_has ls 3 [(2, .int (nI j)), (0, .ref (SA 0)), (1, .ref (SA (7 + 2 * i)))] → va_S A s.heap H L → SW G SA (updT T2 13 w) es es1 k H → W p l e rmX2_isSameOfPieces s m [.ref (SA 0), .ref (SA (7 + 2 * i))].toArray below meth c H L 0 0 (MQ below (qI A (fun r H => (∃ v : Bool, r = bI v) ∧ SS G SA X es k H)) [.ref (SA 0), .ref (SA (7 + 2 * i))].toArray s 0 0 (A)) (F0 m 41 ls []) := by
      clear hl hS hW hO hR1 hR2
      intro ls H L w hl hS hW
      have hO := hW.2.1
      have hR1 := hW.2.2.1
      have hR2 := hW.2.2.2.1
      refine lv_aload_n hx hb dX2_isSameOfPieces_41 rfl (lv_at hl 1 rfl) ?_
      refine va_get (D := G.1) (ci := 6) (C := RX2) (T := TX2) (N := 8) hx hb hts inX2 hown hK (at_P hO) 0 rfl rfl 6 (by decide) (hts _ tw_1_143) (fun _ h9 => h9) rfl dX2_isSameOfPieces_42 ?_
      refine lv_aload_n hx hb dX2_isSameOfPieces_45 rfl (lv_at hl 1 rfl) ?_
      refine va_get (D := G.1) (ci := 6) (C := RX2) (T := TX2) (N := 8) hx hb hts inX2 hown hK (at_P hO) 0 rfl rfl 7 (by decide) (hts _ tw_1_144) (fun _ h9 => h9) rfl dX2_isSameOfPieces_46 ?_
      have hPB := hW.trd.1
      have hok := hW.trd.2.2.1 j (by omega)
      refine kV_a (A := A) (b := (SA 5)) (As := []) (rest := .ref (SA 33) :: []) ⟨hx, hb, hml, hown, hts⟩ (mX1_line (A := A) (la := SA 37) (ea := SA 6)) (cwV 0 hts (gV tw_2_87 tw_2_88 tw_2_89 tw_1_3 tw_2_90) rfl rfl rfl (by decide +kernel) ⟨Nat.le_of_ble_eq_true rfl, Nat.le_of_ble_eq_true rfl⟩) hC hS hA (hPB.recv hK) hPB rfl rfl hl.1 (Nat.le_of_ble_eq_true rfl) ⟨Nat.zero_le _, Nat.zero_le _⟩ dX2_isSameOfPieces_49 (fun a_7 ha_7 => ?_)
      obtain rfl : a_7 = SA 37 := ha_7
      refine lv_aload_n hx hb dX2_isSameOfPieces_52 rfl (lv_at hl 1 rfl) ?_
      refine va_get (D := G.1) (ci := 6) (C := RX2) (T := TX2) (N := 8) hx hb hts inX2 hown hK (at_P hO) 0 rfl rfl 7 (by decide) (hts _ tw_1_144) (fun _ h9 => h9) rfl dX2_isSameOfPieces_53 ?_
      refine lv_iload_n hx hb dX2_isSameOfPieces_56 rfl (lv_at hl 0 rfl) ?_
      refine kV_i (A := A) (b := (SA 5)) (As := [.int (nI j)]) (rest := .ref (SA 37) :: .ref (SA 33) :: []) ⟨hx, hb, hml, hown, hts⟩ (mX1_beginOf (A := A) (la := SA 37) (ea := SA 6) (es := es1) (k := j) (by omega)) (cwV 1 hts (gV tw_2_91 tw_2_75 tw_2_76 tw_1_3 tw_2_77) rfl rfl rfl (by decide +kernel) ⟨Nat.le_of_ble_eq_true rfl, Nat.le_of_ble_eq_true rfl⟩) hC hS hA (hPB.recv hK) hPB rfl rfl hl.1 (Nat.le_of_ble_eq_true rfl) ⟨Nat.zero_le _, Nat.zero_le _⟩ dX2_isSameOfPieces_57 (fun r9 h9 => lv_cv h9 ?_)
      refine lv_aload_n hx hb dX2_isSameOfPieces_60 rfl (lv_at hl 1 rfl) ?_
      refine va_get (D := G.1) (ci := 6) (C := RX2) (T := TX2) (N := 8) hx hb hts inX2 hown hK (at_P hO) 0 rfl rfl 7 (by decide) (hts _ tw_1_144) (fun _ h9 => h9) rfl dX2_isSameOfPieces_61 ?_
      refine lv_iload_n hx hb dX2_isSameOfPieces_64 rfl (lv_at hl 0 rfl) ?_
      refine kV_i (A := A) (b := (SA 5)) (As := [.int (nI j)]) (rest := .int (nI (bgE es1 j)) :: .ref (SA 37) :: .ref (SA 33) :: []) ⟨hx, hb, hml, hown, hts⟩ (mX1_endOf (A := A) (la := SA 37) (ea := SA 6) (es := es1) (k := j) (by omega)) (cwV 1 hts (gV tw_2_92 tw_2_79 tw_2_80 tw_1_3 tw_2_81) rfl rfl rfl (by decide +kernel) ⟨Nat.le_of_ble_eq_true rfl, Nat.le_of_ble_eq_true rfl⟩) hC hS hA (hPB.recv hK) hPB rfl rfl hl.1 (Nat.le_of_ble_eq_true rfl) ⟨Nat.zero_le _, Nat.zero_le _⟩ dX2_isSameOfPieces_65 (fun r9 h9 => lv_cv h9 ?_)
      refine qV_V (A := A) (A1 := ow (SA (7 + 2 * 13)) (SA (8 + 2 * 13)) H.size) (b := (SA 33)) (As := [.ref (SA 37), .int (nI (bgE es1 j)), .int (nI (es1.getD j 0))]) (rest := []) ⟨hx, hb, hml, hown, hts⟩ (mX0_addPart (A := ow (SA (7 + 2 * 13)) (SA (8 + 2 * 13)) H.size) (ca := SA (8 + 2 * 13)) (cb := SA (8 + 2 * 15)) (i := bgE es1 j) (i2 := es1.getD j 0) (Or.inl rfl) (Or.inr (Or.inl rfl)) ⟨hW.ne (i := 7 + 2 * 15) (j := 7 + 2 * 13) (by omega) (by omega) (by omega), hW.ne (i := 7 + 2 * 15) (j := 8 + 2 * 13) (by omega) (by omega) (by omega), hW.ne (i := 8 + 2 * 15) (j := 7 + 2 * 13) (by omega) (by omega) (by omega), hW.ne (i := 8 + 2 * 15) (j := 8 + 2 * 13) (by omega) (by omega) (by omega)⟩ hok.1 hok.2) (cwV 3 hts (gV tw_2_35 tw_2_36 tw_2_37 tw_1_2 tw_2_38) rfl rfl rfl (by decide +kernel) ⟨Nat.le_of_ble_eq_true rfl, Nat.le_of_ble_eq_true rfl⟩) hC hS (ow_in (hAS _ (by omega)) (hAS _ (by omega)) hA hS.1) ow_n ((hW.line (i := 13) (by omega)).recv hK) ⟨(hW.line (i := 13) (by omega)), (hW.line (i := 15) (by omega))⟩ rfl rfl hl.1 (Nat.le_of_ble_eq_true rfl) ⟨Nat.zero_le _, Nat.zero_le _⟩ dX2_isSameOfPieces_68 (fun H8 L8 hP8 hk8 hS => ?_)
      have hZ8 := hS.1
      have hW := hW.put (q := 13) (t := _) (by omega) hk8 hP8.1
      rw [updT_2] at hW
      refine lv_iinc (v := nI (j + 1)) (lv' := [(2, .int (nI (j + 1))), (0, .ref (SA 0)), (1, .ref (SA (7 + 2 * i)))]) hx hb dX2_isSameOfPieces_71 hl (k := 0) rfl (nI_add j 1) (by decide) rfl (fun ls hl => ?_)
      refine lv_goto (tgt := 17) hx hb dX2_isSameOfPieces_74 (by decide) ?_
      exact ih (j + 1) (by omega) (by omega) ls H8 L8 _ (lv_sub hl [0, 1, 2] rfl) hS hW
    refine lv_iload_n hx hb dX2_isSameOfPieces_28 rfl (lv_at hl 0 rfl) ?_
    rcases Nat.eq_zero_or_pos j with hj0 | hjp
    · refine lv_if_le (tgt := 41) hx hb dX2_isSameOfPieces_29 (by decide) (fun _ => ?_) (fun q => absurd (by rw [hj0]; decide) q)
      exact k41 ls H L w (lv_sub hl [0, 1, 2] rfl) hS hW
    · refine lv_if_le (tgt := 41) hx hb dX2_isSameOfPieces_29 (by decide) (fun q => absurd q (nI_nle hjp (by omega))) (fun _ => ?_)
      refine lv_aload_n hx hb dX2_isSameOfPieces_32 rfl (lv_at hl 1 rfl) ?_
      refine va_get (D := G.1) (ci := 6) (C := RX2) (T := TX2) (N := 8) hx hb hts inX2 hown hK (at_P hO) 0 rfl rfl 6 (by decide) (hts _ tw_1_143) (fun _ h9 => h9) rfl dX2_isSameOfPieces_33 ?_
      refine lv_bipush (v := nI 44) hx hb dX2_isSameOfPieces_36 (by decide) ?_
      refine qV_V (A := A) (A1 := ow (SA (7 + 2 * 13)) (SA (8 + 2 * 13)) H.size) (b := (SA 33)) (As := [.int (nI 44)]) (rest := []) ⟨hx, hb, hml, hown, hts⟩ (mX0_addCode (A := ow (SA (7 + 2 * 13)) (SA (8 + 2 * 13)) H.size) (ca := SA (8 + 2 * 13)) (k0 := 44) (Or.inl rfl) (Or.inr (Or.inl rfl)) (by decide)) (cwV 1 hts (gV tw_2_86 tw_1_134 tw_1_135 tw_1_2 tw_1_136) rfl rfl rfl (by decide +kernel) ⟨Nat.le_of_ble_eq_true rfl, Nat.le_of_ble_eq_true rfl⟩) hC hS (ow_in (hAS _ (by omega)) (hAS _ (by omega)) hA hS.1) ow_n ((hW.line (i := 13) (by omega)).recv hK) (hW.line (i := 13) (by omega)) rfl rfl hl.1 (Nat.le_of_ble_eq_true rfl) ⟨Nat.zero_le _, Nat.zero_le _⟩ dX2_isSameOfPieces_38 (fun H9 L9 hP9 hk9 hS => ?_)
      have hZ9 := hS.1
      have hW := hW.put (q := 13) (t := _) (by omega) hk9 hP9
      rw [updT_2] at hW
      exact k41 ls H9 L9 _ (lv_sub hl [0, 1, 2] rfl) hS hW

abbrev rmX2_isSoundAlone : Room := { frames := 5, cells := 0, slots := 0, locals := 111 }
theorem mX2_isSoundAlone {l : Launch} {G : Cx} {A : Nat → Prop} {SA : Nat → Nat} {X : Nat → List Nat} {es : List Nat} {k : Int32} {i : Nat} (hi : i < 4) (hAS : ∀ i : Nat, i < 39 → A (SA i)) : Met l yX2_isSoundAlone (.code yX2_isSoundAlone cX2_isSoundAlone 2 (some .boolean) :: GW) rmX2_isSoundAlone (PC G A [.ref (SA 0), .ref (SA (7 + 2 * i))] (SS G SA X es k)) (qI A (fun r H => (∃ v : Bool, r = bI v) ∧ SS G SA X es k H)) 0 0 (A) := by
  refine mstart "Signtext" (by decide +kernel) rfl (Nat.le_of_ble_eq_true rfl) ?_
  intro p e s m below meth c ls hx hb hr hts hown hml hlocks hname hC hA hW hl
  have hl : lv_has ls 2 [(0, .ref (SA 0)), (1, .ref (SA (7 + 2 * i)))] := hl
  have hK := hC.1
  have hS : va_S A s.heap s.heap [] := va_S.rf
  have hSS := hW
  refine lv_aload_n hx hb dX2_isSoundAlone_0 rfl (lv_at hl 0 rfl) ?_
  refine lv_aload_n hx hb dX2_isSoundAlone_1 rfl (lv_at hl 1 rfl) ?_
  refine qI_V (A := A) (A1 := A) (b := (SA 0)) (As := [.ref (SA (7 + 2 * i))]) (rest := []) ⟨hx, hb, hml, hown, hts⟩ (mX2_isSameTakenAgain (A := A) (i := i) hi hAS) (cwV 1 hts (gV tw_1_239 tw_2_1 sel_X2_isSameTakenAgain tw_1_1 tw_2_2) rfl rfl rfl (by decide +kernel) ⟨Nat.le_of_ble_eq_true rfl, Nat.le_of_ble_eq_true rfl⟩) hC hS (fun _ h => h) (fun q h => hA q (Nat.le_trans hS.1 h)) (by obtain ⟨T, es2, hW, hF⟩ := hSS; exact hW.recv hK) hSS rfl rfl hl.1 (Nat.le_of_ble_eq_true rfl) ⟨Nat.zero_le _, Nat.zero_le _⟩ dX2_isSoundAlone_2 (fun rv10 H10 L10 hP10 hk10 hS => ?_)
  have hZ10 := hS.1
  obtain ⟨⟨v10, hv10⟩, hSS⟩ := hP10
  subst hv10
  refine f_eq (tgt := 46) hx hb dX2_isSoundAlone_5 (by decide) (fun c_11 => ?_) (fun c_11 => ?_)
  · refine lv_iconst (v := nI 0) hx hb dX2_isSoundAlone_46 (by decide) ?_
    exact q_z (b9 := false) hx hb hr hlocks dX2_isSoundAlone_47 hS (Nat.le_refl _) (Nat.le_refl _) ⟨⟨_, rfl⟩, hSS⟩
  · refine lv_aload_n hx hb dX2_isSoundAlone_8 rfl (lv_at hl 0 rfl) ?_
    refine lv_aload_n hx hb dX2_isSoundAlone_9 rfl (lv_at hl 1 rfl) ?_
    refine qI_V (A := A) (A1 := A) (b := (SA 0)) (As := [.ref (SA (7 + 2 * i))]) (rest := []) ⟨hx, hb, hml, hown, hts⟩ (mX2_isSameInTwoParts (A := A) (i := i) hi hAS) (cwV 1 hts (gV tw_2_26 tw_2_28 sel_X2_isSameInTwoParts tw_1_1 tw_2_29) rfl rfl rfl (by decide +kernel) ⟨Nat.le_of_ble_eq_true rfl, Nat.le_of_ble_eq_true rfl⟩) hC hS (fun _ h => h) (fun q h => hA q (Nat.le_trans hS.1 h)) (by obtain ⟨T, es2, hW, hF⟩ := hSS; exact hW.recv hK) hSS rfl rfl hl.1 (Nat.le_of_ble_eq_true rfl) ⟨Nat.zero_le _, Nat.zero_le _⟩ dX2_isSoundAlone_10 (fun rv12 H12 L12 hP12 hk12 hS => ?_)
    have hZ12 := hS.1
    obtain ⟨⟨v12, hv12⟩, hSS⟩ := hP12
    subst hv12
    refine f_eq (tgt := 46) hx hb dX2_isSoundAlone_13 (by decide) (fun c_13 => ?_) (fun c_13 => ?_)
    · refine lv_iconst (v := nI 0) hx hb dX2_isSoundAlone_46 (by decide) ?_
      exact q_z (b9 := false) hx hb hr hlocks dX2_isSoundAlone_47 hS (Nat.le_refl _) (Nat.le_refl _) ⟨⟨_, rfl⟩, hSS⟩
    · refine lv_aload_n hx hb dX2_isSoundAlone_16 rfl (lv_at hl 0 rfl) ?_
      refine lv_aload_n hx hb dX2_isSoundAlone_17 rfl (lv_at hl 1 rfl) ?_
      refine lv_iconst (v := nI 0) hx hb dX2_isSoundAlone_18 (by decide) ?_
      refine qI_V (A := A) (A1 := A) (b := (SA 0)) (As := [.ref (SA (7 + 2 * i)), .int (bI false)]) (rest := []) ⟨hx, hb, hml, hown, hts⟩ (mX2_isSameTrimmedAgain (A := A) (i := i) (b := false) hi hAS) (cwV 2 hts (gV tw_2_39 tw_2_41 sel_X2_isSameTrimmedAgain tw_1_1 tw_2_42) rfl rfl rfl (by decide +kernel) ⟨Nat.le_of_ble_eq_true rfl, Nat.le_of_ble_eq_true rfl⟩) hC hS (fun _ h => h) (fun q h => hA q (Nat.le_trans hS.1 h)) (by obtain ⟨T, es2, hW, hF⟩ := hSS; exact hW.recv hK) hSS rfl rfl hl.1 (Nat.le_of_ble_eq_true rfl) ⟨Nat.zero_le _, Nat.zero_le _⟩ dX2_isSoundAlone_19 (fun rv14 H14 L14 hP14 hk14 hS => ?_)
      have hZ14 := hS.1
      obtain ⟨⟨v14, hv14⟩, hSS⟩ := hP14
      subst hv14
      refine f_eq (tgt := 46) hx hb dX2_isSoundAlone_22 (by decide) (fun c_15 => ?_) (fun c_15 => ?_)
      · refine lv_iconst (v := nI 0) hx hb dX2_isSoundAlone_46 (by decide) ?_
        exact q_z (b9 := false) hx hb hr hlocks dX2_isSoundAlone_47 hS (Nat.le_refl _) (Nat.le_refl _) ⟨⟨_, rfl⟩, hSS⟩
      · refine lv_aload_n hx hb dX2_isSoundAlone_25 rfl (lv_at hl 0 rfl) ?_
        refine lv_aload_n hx hb dX2_isSoundAlone_26 rfl (lv_at hl 1 rfl) ?_
        refine lv_iconst (v := nI 1) hx hb dX2_isSoundAlone_27 (by decide) ?_
        refine qI_V (A := A) (A1 := A) (b := (SA 0)) (As := [.ref (SA (7 + 2 * i)), .int (bI true)]) (rest := []) ⟨hx, hb, hml, hown, hts⟩ (mX2_isSameTrimmedAgain (A := A) (i := i) (b := true) hi hAS) (cwV 2 hts (gV tw_2_39 tw_2_41 sel_X2_isSameTrimmedAgain tw_1_1 tw_2_42) rfl rfl rfl (by decide +kernel) ⟨Nat.le_of_ble_eq_true rfl, Nat.le_of_ble_eq_true rfl⟩) hC hS (fun _ h => h) (fun q h => hA q (Nat.le_trans hS.1 h)) (by obtain ⟨T, es2, hW, hF⟩ := hSS; exact hW.recv hK) hSS rfl rfl hl.1 (Nat.le_of_ble_eq_true rfl) ⟨Nat.zero_le _, Nat.zero_le _⟩ dX2_isSoundAlone_28 (fun rv16 H16 L16 hP16 hk16 hS => ?_)
        have hZ16 := hS.1
        obtain ⟨⟨v16, hv16⟩, hSS⟩ := hP16
        subst hv16
        refine f_eq (tgt := 46) hx hb dX2_isSoundAlone_31 (by decide) (fun c_17 => ?_) (fun c_17 => ?_)
        · refine lv_iconst (v := nI 0) hx hb dX2_isSoundAlone_46 (by decide) ?_
          exact q_z (b9 := false) hx hb hr hlocks dX2_isSoundAlone_47 hS (Nat.le_refl _) (Nat.le_refl _) ⟨⟨_, rfl⟩, hSS⟩
        · refine lv_aload_n hx hb dX2_isSoundAlone_34 rfl (lv_at hl 0 rfl) ?_
          refine lv_aload_n hx hb dX2_isSoundAlone_35 rfl (lv_at hl 1 rfl) ?_
          refine qI_V (A := A) (A1 := A) (b := (SA 0)) (As := [.ref (SA (7 + 2 * i))]) (rest := []) ⟨hx, hb, hml, hown, hts⟩ (mX2_isSameOfPieces (A := A) (i := i) hi hAS) (cwV 1 hts (gV tw_2_59 tw_2_61 sel_X2_isSameOfPieces tw_1_1 tw_2_62) rfl rfl rfl (by decide +kernel) ⟨Nat.le_of_ble_eq_true rfl, Nat.le_of_ble_eq_true rfl⟩) hC hS (fun _ h => h) (fun q h => hA q (Nat.le_trans hS.1 h)) (by obtain ⟨T, es2, hW, hF⟩ := hSS; exact hW.recv hK) hSS rfl rfl hl.1 (Nat.le_of_ble_eq_true rfl) ⟨Nat.zero_le _, Nat.zero_le _⟩ dX2_isSoundAlone_36 (fun rv18 H18 L18 hP18 hk18 hS => ?_)
          have hZ18 := hS.1
          obtain ⟨⟨v18, hv18⟩, hSS⟩ := hP18
          subst hv18
          refine f_eq (tgt := 46) hx hb dX2_isSoundAlone_39 (by decide) (fun c_19 => ?_) (fun c_19 => ?_)
          · refine lv_iconst (v := nI 0) hx hb dX2_isSoundAlone_46 (by decide) ?_
            exact q_z (b9 := false) hx hb hr hlocks dX2_isSoundAlone_47 hS (Nat.le_refl _) (Nat.le_refl _) ⟨⟨_, rfl⟩, hSS⟩
          · refine lv_iconst (v := nI 1) hx hb dX2_isSoundAlone_42 (by decide) ?_
            refine lv_goto (tgt := 47) hx hb dX2_isSoundAlone_43 (by decide) ?_
            exact q_z (b9 := true) hx hb hr hlocks dX2_isSoundAlone_47 hS (Nat.le_refl _) (Nat.le_refl _) ⟨⟨_, rfl⟩, hSS⟩

abbrev rmX2_isSound : Room := { frames := 6, cells := 0, slots := 0, locals := 133 }
theorem mX2_isSound {l : Launch} {G : Cx} {A : Nat → Prop} {SA : Nat → Nat} {X : Nat → List Nat} {es : List Nat} {k : Int32} (hAS : ∀ i : Nat, i < 39 → A (SA i)) : Met l yX2_isSound (.code yX2_isSound cX2_isSound 3 (some .boolean) :: GW) rmX2_isSound (PC G A [.ref (SA 0)] (SS G SA X es k)) (qI A (fun r H => (∃ v : Bool, r = bI v) ∧ SS G SA X es k H)) 0 0 (A) := by
  refine mstart "Signtext" (by decide +kernel) rfl (Nat.le_of_ble_eq_true rfl) ?_
  intro p e s m below meth c ls hx hb hr hts hown hml hlocks hname hC hA hW hl
  have hl : lv_has ls 3 [(0, .ref (SA 0))] := hl
  have hK := hC.1
  have hS : va_S A s.heap s.heap [] := va_S.rf
  have hSS := hW
  refine lv_iconst (v := nI 0) hx hb dX2_isSound_0 (by decide) ?_
  refine lv_istore_n (lv' := [(1, .int (nI 0)), (0, .ref (SA 0))]) hx hb dX2_isSound_1 rfl hl (by decide) rfl (fun ls hl => ?_)
  refine nloop (P := fun j => ∀ (ls : Array Slot) (H : Heap) (L : List Loc), lv_has ls 3 [(1, .int (nI j)), (0, .ref (SA 0))] → va_S A s.heap H L → SS G SA X es k H → W p l e rmX2_isSound s m [.ref (SA 0)].toArray below meth c H L 0 0 (MQ below (qI A (fun r H => (∃ v : Bool, r = bI v) ∧ SS G SA X es k H)) [.ref (SA 0)].toArray s 0 0 (A)) (F0 m 2 ls [])) 4 ?_ 0 (Nat.zero_le _) ls s.heap [] hl hS hSS
  clear hl
  intro j hj ih ls H L hl
  clear hS hSS hW
  intro hS hSS
  have hs9 := hSS
  obtain ⟨T, es2, hW, hF⟩ := hs9
  have hO := hW.2.1
  have hR1 := hW.2.2.1
  have hR2 := hW.2.2.2.1
  refine lv_iload_n hx hb dX2_isSound_2 rfl (lv_at hl 0 rfl) ?_
  refine lv_iconst (v := nI 4) hx hb dX2_isSound_3 (by decide) ?_
  refine b_ge (tgt := 61) hx hb dX2_isSound_4 (by decide) (by omega) (by omega) (fun c_20 => ?_) (fun c_20 => ?_)
  · refine lv_iconst (v := nI 1) hx hb dX2_isSound_61 (by decide) ?_
    exact q_z (b9 := true) hx hb hr hlocks dX2_isSound_62 hS (Nat.le_refl _) (Nat.le_refl _) ⟨⟨_, rfl⟩, hSS⟩
  · refine lv_aload_n hx hb dX2_isSound_7 rfl (lv_at hl 1 rfl) ?_
    refine lv_aload_n hx hb dX2_isSound_8 rfl (lv_at hl 1 rfl) ?_
    refine va_get (D := G.1) (ci := 6) (C := RX2) (T := TX2) (N := 8) hx hb hts inX2 hown hK (at_P hO) 0 rfl rfl 0 (by decide) (hts _ tw_1_137) (fun _ h9 => h9) rfl dX2_isSound_9 ?_
    refine lv_iload_n hx hb dX2_isSound_12 rfl (lv_at hl 0 rfl) ?_
    refine va_aldq (D := G.1) hx hb hK (at_P hR1) 0 3 rfl rfl (vp_in_nI (n := j) (N := 4) (by omega) (by omega)) dX2_isSound_13 ?_
    refine v_cv (show va_rf _ = .ref (SA (7 + 2 * j)) from by rw [nI_clamp (n := j) (by omega)]; rfl) ?_
    refine qI_V (A := A) (A1 := A) (b := (SA 0)) (As := [.ref (SA (7 + 2 * j))]) (rest := []) ⟨hx, hb, hml, hown, hts⟩ (mX2_isSoundAlone (A := A) (i := j) (by omega) hAS) (cwV 1 hts (gV tw_1_235 tw_1_237 sel_X2_isSoundAlone tw_1_1 tw_1_238) rfl rfl rfl (by decide +kernel) ⟨Nat.le_of_ble_eq_true rfl, Nat.le_of_ble_eq_true rfl⟩) hC hS (fun _ h => h) (fun q h => hA q (Nat.le_trans hS.1 h)) (hW.recv hK) hSS rfl rfl hl.1 (Nat.le_of_ble_eq_true rfl) ⟨Nat.zero_le _, Nat.zero_le _⟩ dX2_isSound_14 (fun rv21 H21 L21 hP21 hk21 hS => ?_)
    have hZ21 := hS.1
    obtain ⟨⟨v21, hv21⟩, hSS⟩ := hP21
    subst hv21
    refine f_ne (tgt := 22) hx hb dX2_isSound_17 (by decide) (fun c_22 => ?_) (fun c_22 => ?_)
    · refine lv_iconst (v := nI 0) hx hb dX2_isSound_22 (by decide) ?_
      refine lv_istore_n (lv' := [(2, .int (nI 0)), (1, .int (nI j)), (0, .ref (SA 0))]) hx hb dX2_isSound_23 rfl hl (by decide) rfl (fun ls hl => ?_)
      have ih1 := ih
      have hs9 := hSS
      obtain ⟨T, es2, hW, hF⟩ := hs9
      have hO := hW.2.1
      have hR1 := hW.2.2.1
      have hR2 := hW.2.2.2.1
      refine nloop (P := fun q => ∀ (ls : Array Slot) , lv_has ls 3 [(2, .int (nI q)), (1, .int (nI j)), (0, .ref (SA 0))] → W p l e rmX2_isSound s m [.ref (SA 0)].toArray below meth c H21 L21 0 0 (MQ below (qI A (fun r H => (∃ v : Bool, r = bI v) ∧ SS G SA X es k H)) [.ref (SA 0)].toArray s 0 0 (A)) (F0 m 24 ls [])) 4 ?_ 0 (Nat.zero_le _) ls  hl 
      clear hl
      intro q hq ih ls  hl
      have hs9 := hSS
      obtain ⟨T, es2, hW, hF⟩ := hs9
      have hO := hW.2.1
      have hR1 := hW.2.2.1
      have hR2 := hW.2.2.2.1
      refine lv_iload_n hx hb dX2_isSound_24 rfl (lv_at hl 0 rfl) ?_
      refine lv_iconst (v := nI 4) hx hb dX2_isSound_25 (by decide) ?_
      refine b_ge (tgt := 55) hx hb dX2_isSound_26 (by decide) (by omega) (by omega) (fun c_23 => ?_) (fun c_23 => ?_)
      · refine lv_iinc (v := nI (j + 1)) (lv' := [(1, .int (nI (j + 1))), (2, .int (nI q)), (0, .ref (SA 0))]) hx hb dX2_isSound_55 hl (k := 1) rfl (nI_add j 1) (by decide) rfl (fun ls hl => ?_)
        refine lv_goto (tgt := 2) hx hb dX2_isSound_58 (by decide) ?_
        exact ih1 (j + 1) (by omega) (by omega) ls H21 L21 (lv_sub hl [0, 2] rfl) hS hSS
      · refine lv_aload_n hx hb dX2_isSound_29 rfl (lv_at hl 2 rfl) ?_
        refine va_get (D := G.1) (ci := 6) (C := RX2) (T := TX2) (N := 8) hx hb hts inX2 hown hK (at_P hO) 0 rfl rfl 0 (by decide) (hts _ tw_1_137) (fun _ h9 => h9) rfl dX2_isSound_30 ?_
        refine lv_iload_n hx hb dX2_isSound_33 rfl (lv_at hl 1 rfl) ?_
        refine va_aldq (D := G.1) hx hb hK (at_P hR1) 0 3 rfl rfl (vp_in_nI (n := j) (N := 4) (by omega) (by omega)) dX2_isSound_34 ?_
        refine v_cv (show va_rf _ = .ref (SA (7 + 2 * j)) from by rw [nI_clamp (n := j) (by omega)]; rfl) ?_
        refine lv_aload_n hx hb dX2_isSound_35 rfl (lv_at hl 2 rfl) ?_
        refine va_get (D := G.1) (ci := 6) (C := RX2) (T := TX2) (N := 8) hx hb hts inX2 hown hK (at_P hO) 0 rfl rfl 0 (by decide) (hts _ tw_1_137) (fun _ h9 => h9) rfl dX2_isSound_36 ?_
        refine lv_iload_n hx hb dX2_isSound_39 rfl (lv_at hl 0 rfl) ?_
        refine va_aldq (D := G.1) hx hb hK (at_P hR1) 0 3 rfl rfl (vp_in_nI (n := q) (N := 4) (by omega) (by omega)) dX2_isSound_40 ?_
        refine v_cv (show va_rf _ = .ref (SA (7 + 2 * q)) from by rw [nI_clamp (n := q) (by omega)]; rfl) ?_
        refine kS_i (A := A) (As := [.ref (SA (7 + 2 * j)), .ref (SA (7 + 2 * q))]) (rest := []) ⟨hx, hb, hml, hown, hts⟩ (mX2_isSoundPair (A := A) (ca := SA (8 + 2 * j)) (cb := SA (8 + 2 * q))) (va_cwS 2 hts (gS tw_2_95 tw_2_96 tw_1_1 tw_2_97) rfl rfl rfl (by decide +kernel) ⟨Nat.le_of_ble_eq_true rfl, Nat.le_of_ble_eq_true rfl⟩) hC hS hA  ⟨(hW.line (i := j) (by omega)), (hW.line (i := q) (by omega))⟩ rfl rfl hl.1 (Nat.le_of_ble_eq_true rfl) ⟨Nat.zero_le _, Nat.zero_le _⟩ dX2_isSound_41 (fun r_24 hr_24 => ?_)
        obtain ⟨r_24v, rfl⟩ := hr_24
        refine f_ne (tgt := 49) hx hb dX2_isSound_44 (by decide) (fun c_25 => ?_) (fun c_25 => ?_)
        · refine lv_iinc (v := nI (q + 1)) (lv' := [(2, .int (nI (q + 1))), (1, .int (nI j)), (0, .ref (SA 0))]) hx hb dX2_isSound_49 hl (k := 0) rfl (nI_add q 1) (by decide) rfl (fun ls hl => ?_)
          refine lv_goto (tgt := 24) hx hb dX2_isSound_52 (by decide) ?_
          exact ih (q + 1) (by omega) (by omega) ls (lv_sub hl [0, 1, 2] rfl)
        · refine lv_iconst (v := nI 0) hx hb dX2_isSound_47 (by decide) ?_
          exact q_z (b9 := false) hx hb hr hlocks dX2_isSound_48 hS (Nat.le_refl _) (Nat.le_refl _) ⟨⟨_, rfl⟩, hSS⟩
    · refine lv_iconst (v := nI 0) hx hb dX2_isSound_20 (by decide) ?_
      exact q_z (b9 := false) hx hb hr hlocks dX2_isSound_21 hS (Nat.le_refl _) (Nat.le_refl _) ⟨⟨_, rfl⟩, hSS⟩
end
/-! 30.cls9 -/
section
/-! The class, 9: the digest (any answer) -/
theorem dX2_digest_0 : decode cX2_digest 0 = .ok (.ldc2_w 202, 3) := by decide +kernel
theorem dX2_digest_3 : decode cX2_digest 3 = .ok (.lstore_n 1, 1) := by decide +kernel
theorem dX2_digest_4 : decode cX2_digest 4 = .ok (.iconst 0, 1) := by decide +kernel
theorem dX2_digest_5 : decode cX2_digest 5 = .ok (.istore_n 3, 1) := by decide +kernel
theorem dX2_digest_6 : decode cX2_digest 6 = .ok (.iload_n 3, 1) := by decide +kernel
theorem dX2_digest_7 : decode cX2_digest 7 = .ok (.iconst 4, 1) := by decide +kernel
theorem dX2_digest_8 : decode cX2_digest 8 = .ok (.if_icmp .gt 20, 3) := by decide +kernel
theorem dX2_digest_11 : decode cX2_digest 11 = .ok (.lload_n 1, 1) := by decide +kernel
theorem dX2_digest_12 : decode cX2_digest 12 = .ok (.aload_n 0, 1) := by decide +kernel
theorem dX2_digest_13 : decode cX2_digest 13 = .ok (.iload_n 3, 1) := by decide +kernel
theorem dX2_digest_14 : decode cX2_digest 14 = .ok (.invokevirtual 204, 3) := by decide +kernel
theorem dX2_digest_17 : decode cX2_digest 17 = .ok (.i2l, 1) := by decide +kernel
theorem dX2_digest_18 : decode cX2_digest 18 = .ok (.invokestatic 207, 3) := by decide +kernel
theorem dX2_digest_21 : decode cX2_digest 21 = .ok (.lstore_n 1, 1) := by decide +kernel
theorem dX2_digest_22 : decode cX2_digest 22 = .ok (.iinc 3 1, 3) := by decide +kernel
theorem dX2_digest_25 : decode cX2_digest 25 = .ok (.goto (-19), 3) := by decide +kernel
theorem dX2_digest_28 : decode cX2_digest 28 = .ok (.iconst 0, 1) := by decide +kernel
theorem dX2_digest_29 : decode cX2_digest 29 = .ok (.istore_n 3, 1) := by decide +kernel
theorem dX2_digest_30 : decode cX2_digest 30 = .ok (.iload_n 3, 1) := by decide +kernel
theorem dX2_digest_31 : decode cX2_digest 31 = .ok (.iconst 4, 1) := by decide +kernel
theorem dX2_digest_32 : decode cX2_digest 32 = .ok (.if_icmp .ge 20, 3) := by decide +kernel
theorem dX2_digest_35 : decode cX2_digest 35 = .ok (.lload_n 1, 1) := by decide +kernel
theorem dX2_digest_36 : decode cX2_digest 36 = .ok (.aload_n 0, 1) := by decide +kernel
theorem dX2_digest_37 : decode cX2_digest 37 = .ok (.getfield 11, 3) := by decide +kernel
theorem dX2_digest_40 : decode cX2_digest 40 = .ok (.iload_n 3, 1) := by decide +kernel
theorem dX2_digest_41 : decode cX2_digest 41 = .ok (.aaload, 1) := by decide +kernel
theorem dX2_digest_42 : decode cX2_digest 42 = .ok (.invokestatic 211, 3) := by decide +kernel
theorem dX2_digest_45 : decode cX2_digest 45 = .ok (.lstore_n 1, 1) := by decide +kernel
theorem dX2_digest_46 : decode cX2_digest 46 = .ok (.iinc 3 1, 3) := by decide +kernel
theorem dX2_digest_49 : decode cX2_digest 49 = .ok (.goto (-19), 3) := by decide +kernel
theorem dX2_digest_52 : decode cX2_digest 52 = .ok (.iconst 0, 1) := by decide +kernel
theorem dX2_digest_53 : decode cX2_digest 53 = .ok (.istore_n 3, 1) := by decide +kernel
theorem dX2_digest_54 : decode cX2_digest 54 = .ok (.iload_n 3, 1) := by decide +kernel
theorem dX2_digest_55 : decode cX2_digest 55 = .ok (.iconst 4, 1) := by decide +kernel
theorem dX2_digest_56 : decode cX2_digest 56 = .ok (.if_icmp .ge 42, 3) := by decide +kernel
theorem dX2_digest_59 : decode cX2_digest 59 = .ok (.iconst 0, 1) := by decide +kernel
theorem dX2_digest_60 : decode cX2_digest 60 = .ok (.istore 4, 2) := by decide +kernel
theorem dX2_digest_62 : decode cX2_digest 62 = .ok (.iload 4, 2) := by decide +kernel
theorem dX2_digest_64 : decode cX2_digest 64 = .ok (.iconst 4, 1) := by decide +kernel
theorem dX2_digest_65 : decode cX2_digest 65 = .ok (.if_icmp .ge 27, 3) := by decide +kernel
theorem dX2_digest_68 : decode cX2_digest 68 = .ok (.lload_n 1, 1) := by decide +kernel
theorem dX2_digest_69 : decode cX2_digest 69 = .ok (.aload_n 0, 1) := by decide +kernel
theorem dX2_digest_70 : decode cX2_digest 70 = .ok (.getfield 11, 3) := by decide +kernel
theorem dX2_digest_73 : decode cX2_digest 73 = .ok (.iload_n 3, 1) := by decide +kernel
theorem dX2_digest_74 : decode cX2_digest 74 = .ok (.aaload, 1) := by decide +kernel
theorem dX2_digest_75 : decode cX2_digest 75 = .ok (.aload_n 0, 1) := by decide +kernel
theorem dX2_digest_76 : decode cX2_digest 76 = .ok (.getfield 11, 3) := by decide +kernel
theorem dX2_digest_79 : decode cX2_digest 79 = .ok (.iload 4, 2) := by decide +kernel
theorem dX2_digest_81 : decode cX2_digest 81 = .ok (.aaload, 1) := by decide +kernel
theorem dX2_digest_82 : decode cX2_digest 82 = .ok (.invokestatic 215, 3) := by decide +kernel
theorem dX2_digest_85 : decode cX2_digest 85 = .ok (.lstore_n 1, 1) := by decide +kernel
theorem dX2_digest_86 : decode cX2_digest 86 = .ok (.iinc 4 1, 3) := by decide +kernel
theorem dX2_digest_89 : decode cX2_digest 89 = .ok (.goto (-27), 3) := by decide +kernel
theorem dX2_digest_92 : decode cX2_digest 92 = .ok (.iinc 3 1, 3) := by decide +kernel
theorem dX2_digest_95 : decode cX2_digest 95 = .ok (.goto (-41), 3) := by decide +kernel
theorem dX2_digest_98 : decode cX2_digest 98 = .ok (.iconst 0, 1) := by decide +kernel
theorem dX2_digest_99 : decode cX2_digest 99 = .ok (.istore_n 3, 1) := by decide +kernel
theorem dX2_digest_100 : decode cX2_digest 100 = .ok (.iload_n 3, 1) := by decide +kernel
theorem dX2_digest_101 : decode cX2_digest 101 = .ok (.aload_n 0, 1) := by decide +kernel
theorem dX2_digest_102 : decode cX2_digest 102 = .ok (.getfield 19, 3) := by decide +kernel
theorem dX2_digest_105 : decode cX2_digest 105 = .ok (.invokevirtual 66, 3) := by decide +kernel
theorem dX2_digest_108 : decode cX2_digest 108 = .ok (.if_icmp .ge 23, 3) := by decide +kernel
theorem dX2_digest_111 : decode cX2_digest 111 = .ok (.lload_n 1, 1) := by decide +kernel
theorem dX2_digest_112 : decode cX2_digest 112 = .ok (.aload_n 0, 1) := by decide +kernel
theorem dX2_digest_113 : decode cX2_digest 113 = .ok (.getfield 19, 3) := by decide +kernel
theorem dX2_digest_116 : decode cX2_digest 116 = .ok (.iload_n 3, 1) := by decide +kernel
theorem dX2_digest_117 : decode cX2_digest 117 = .ok (.invokevirtual 128, 3) := by decide +kernel
theorem dX2_digest_120 : decode cX2_digest 120 = .ok (.i2l, 1) := by decide +kernel
theorem dX2_digest_121 : decode cX2_digest 121 = .ok (.invokestatic 207, 3) := by decide +kernel
theorem dX2_digest_124 : decode cX2_digest 124 = .ok (.lstore_n 1, 1) := by decide +kernel
theorem dX2_digest_125 : decode cX2_digest 125 = .ok (.iinc 3 1, 3) := by decide +kernel
theorem dX2_digest_128 : decode cX2_digest 128 = .ok (.goto (-28), 3) := by decide +kernel
theorem dX2_digest_131 : decode cX2_digest 131 = .ok (.iconst 0, 1) := by decide +kernel
theorem dX2_digest_132 : decode cX2_digest 132 = .ok (.istore_n 3, 1) := by decide +kernel
theorem dX2_digest_133 : decode cX2_digest 133 = .ok (.iload_n 3, 1) := by decide +kernel
theorem dX2_digest_134 : decode cX2_digest 134 = .ok (.aload_n 0, 1) := by decide +kernel
theorem dX2_digest_135 : decode cX2_digest 135 = .ok (.getfield 26, 3) := by decide +kernel
theorem dX2_digest_138 : decode cX2_digest 138 = .ok (.invokevirtual 138, 3) := by decide +kernel
theorem dX2_digest_141 : decode cX2_digest 141 = .ok (.if_icmp .ge 32, 3) := by decide +kernel
theorem dX2_digest_144 : decode cX2_digest 144 = .ok (.lload_n 1, 1) := by decide +kernel
theorem dX2_digest_145 : decode cX2_digest 145 = .ok (.aload_n 0, 1) := by decide +kernel
theorem dX2_digest_146 : decode cX2_digest 146 = .ok (.getfield 26, 3) := by decide +kernel
theorem dX2_digest_149 : decode cX2_digest 149 = .ok (.iload_n 3, 1) := by decide +kernel
theorem dX2_digest_150 : decode cX2_digest 150 = .ok (.invokevirtual 219, 3) := by decide +kernel
theorem dX2_digest_153 : decode cX2_digest 153 = .ok (.aload_n 0, 1) := by decide +kernel
theorem dX2_digest_154 : decode cX2_digest 154 = .ok (.getfield 26, 3) := by decide +kernel
theorem dX2_digest_157 : decode cX2_digest 157 = .ok (.iload_n 3, 1) := by decide +kernel
theorem dX2_digest_158 : decode cX2_digest 158 = .ok (.invokevirtual 222, 3) := by decide +kernel
theorem dX2_digest_161 : decode cX2_digest 161 = .ok (.isub, 1) := by decide +kernel
theorem dX2_digest_162 : decode cX2_digest 162 = .ok (.i2l, 1) := by decide +kernel
theorem dX2_digest_163 : decode cX2_digest 163 = .ok (.invokestatic 207, 3) := by decide +kernel
theorem dX2_digest_166 : decode cX2_digest 166 = .ok (.lstore_n 1, 1) := by decide +kernel
theorem dX2_digest_167 : decode cX2_digest 167 = .ok (.iinc 3 1, 3) := by decide +kernel
theorem dX2_digest_170 : decode cX2_digest 170 = .ok (.goto (-37), 3) := by decide +kernel
theorem dX2_digest_173 : decode cX2_digest 173 = .ok (.lload_n 1, 1) := by decide +kernel
theorem dX2_digest_174 : decode cX2_digest 174 = .ok (.aload_n 0, 1) := by decide +kernel
theorem dX2_digest_175 : decode cX2_digest 175 = .ok (.invokevirtual 225, 3) := by decide +kernel
theorem dX2_digest_178 : decode cX2_digest 178 = .ok (.ifCond .eq 7, 3) := by decide +kernel
theorem dX2_digest_181 : decode cX2_digest 181 = .ok (.lconst 1, 1) := by decide +kernel
theorem dX2_digest_182 : decode cX2_digest 182 = .ok (.goto 4, 3) := by decide +kernel
theorem dX2_digest_185 : decode cX2_digest 185 = .ok (.lconst 0, 1) := by decide +kernel
theorem dX2_digest_186 : decode cX2_digest 186 = .ok (.invokestatic 207, 3) := by decide +kernel
theorem dX2_digest_189 : decode cX2_digest 189 = .ok (.lreturn, 1) := by decide +kernel
theorem dX2_summed_0 : decode cX2_summed 0 = .ok (.lload_n 0, 1) := by decide +kernel
theorem dX2_summed_1 : decode cX2_summed 1 = .ok (.ldc2_w 257, 3) := by decide +kernel
theorem dX2_summed_4 : decode cX2_summed 4 = .ok (.lmul, 1) := by decide +kernel
theorem dX2_summed_5 : decode cX2_summed 5 = .ok (.lload_n 2, 1) := by decide +kernel
theorem dX2_summed_6 : decode cX2_summed 6 = .ok (.ladd, 1) := by decide +kernel
theorem dX2_summed_7 : decode cX2_summed 7 = .ok (.lreturn, 1) := by decide +kernel
theorem dX2_summedText_0 : decode cX2_summedText 0 = .ok (.lload_n 0, 1) := by decide +kernel
theorem dX2_summedText_1 : decode cX2_summedText 1 = .ok (.aload_n 2, 1) := by decide +kernel
theorem dX2_summedText_2 : decode cX2_summedText 2 = .ok (.invokevirtual 154, 3) := by decide +kernel
theorem dX2_summedText_5 : decode cX2_summedText 5 = .ok (.i2l, 1) := by decide +kernel
theorem dX2_summedText_6 : decode cX2_summedText 6 = .ok (.invokestatic 207, 3) := by decide +kernel
theorem dX2_summedText_9 : decode cX2_summedText 9 = .ok (.lstore_n 3, 1) := by decide +kernel
theorem dX2_summedText_10 : decode cX2_summedText 10 = .ok (.lload_n 3, 1) := by decide +kernel
theorem dX2_summedText_11 : decode cX2_summedText 11 = .ok (.aload_n 2, 1) := by decide +kernel
theorem dX2_summedText_12 : decode cX2_summedText 12 = .ok (.invokevirtual 66, 3) := by decide +kernel
theorem dX2_summedText_15 : decode cX2_summedText 15 = .ok (.i2l, 1) := by decide +kernel
theorem dX2_summedText_16 : decode cX2_summedText 16 = .ok (.invokestatic 207, 3) := by decide +kernel
theorem dX2_summedText_19 : decode cX2_summedText 19 = .ok (.lstore_n 3, 1) := by decide +kernel
theorem dX2_summedText_20 : decode cX2_summedText 20 = .ok (.lload_n 3, 1) := by decide +kernel
theorem dX2_summedText_21 : decode cX2_summedText 21 = .ok (.aload_n 2, 1) := by decide +kernel
theorem dX2_summedText_22 : decode cX2_summedText 22 = .ok (.invokevirtual 150, 3) := by decide +kernel
theorem dX2_summedText_25 : decode cX2_summedText 25 = .ok (.ifCond .eq 7, 3) := by decide +kernel
theorem dX2_summedText_28 : decode cX2_summedText 28 = .ok (.lconst 1, 1) := by decide +kernel
theorem dX2_summedText_29 : decode cX2_summedText 29 = .ok (.goto 4, 3) := by decide +kernel
theorem dX2_summedText_32 : decode cX2_summedText 32 = .ok (.lconst 0, 1) := by decide +kernel
theorem dX2_summedText_33 : decode cX2_summedText 33 = .ok (.invokestatic 207, 3) := by decide +kernel
theorem dX2_summedText_36 : decode cX2_summedText 36 = .ok (.lstore_n 3, 1) := by decide +kernel
theorem dX2_summedText_37 : decode cX2_summedText 37 = .ok (.lload_n 3, 1) := by decide +kernel
theorem dX2_summedText_38 : decode cX2_summedText 38 = .ok (.aload_n 2, 1) := by decide +kernel
theorem dX2_summedText_39 : decode cX2_summedText 39 = .ok (.iconst 0, 1) := by decide +kernel
theorem dX2_summedText_40 : decode cX2_summedText 40 = .ok (.invokevirtual 98, 3) := by decide +kernel
theorem dX2_summedText_43 : decode cX2_summedText 43 = .ok (.aload_n 2, 1) := by decide +kernel
theorem dX2_summedText_44 : decode cX2_summedText 44 = .ok (.iconst 0, 1) := by decide +kernel
theorem dX2_summedText_45 : decode cX2_summedText 45 = .ok (.invokevirtual 94, 3) := by decide +kernel
theorem dX2_summedText_48 : decode cX2_summedText 48 = .ok (.isub, 1) := by decide +kernel
theorem dX2_summedText_49 : decode cX2_summedText 49 = .ok (.i2l, 1) := by decide +kernel
theorem dX2_summedText_50 : decode cX2_summedText 50 = .ok (.invokestatic 207, 3) := by decide +kernel
theorem dX2_summedText_53 : decode cX2_summedText 53 = .ok (.lstore_n 3, 1) := by decide +kernel
theorem dX2_summedText_54 : decode cX2_summedText 54 = .ok (.lload_n 3, 1) := by decide +kernel
theorem dX2_summedText_55 : decode cX2_summedText 55 = .ok (.aload_n 2, 1) := by decide +kernel
theorem dX2_summedText_56 : decode cX2_summedText 56 = .ok (.iconst 1, 1) := by decide +kernel
theorem dX2_summedText_57 : decode cX2_summedText 57 = .ok (.invokevirtual 98, 3) := by decide +kernel
theorem dX2_summedText_60 : decode cX2_summedText 60 = .ok (.aload_n 2, 1) := by decide +kernel
theorem dX2_summedText_61 : decode cX2_summedText 61 = .ok (.iconst 1, 1) := by decide +kernel
theorem dX2_summedText_62 : decode cX2_summedText 62 = .ok (.invokevirtual 94, 3) := by decide +kernel
theorem dX2_summedText_65 : decode cX2_summedText 65 = .ok (.isub, 1) := by decide +kernel
theorem dX2_summedText_66 : decode cX2_summedText 66 = .ok (.i2l, 1) := by decide +kernel
theorem dX2_summedText_67 : decode cX2_summedText 67 = .ok (.invokestatic 207, 3) := by decide +kernel
theorem dX2_summedText_70 : decode cX2_summedText 70 = .ok (.lreturn, 1) := by decide +kernel
theorem dX2_summedPair_0 : decode cX2_summedPair 0 = .ok (.lload_n 0, 1) := by decide +kernel
theorem dX2_summedPair_1 : decode cX2_summedPair 1 = .ok (.aload_n 2, 1) := by decide +kernel
theorem dX2_summedPair_2 : decode cX2_summedPair 2 = .ok (.aload_n 3, 1) := by decide +kernel
theorem dX2_summedPair_3 : decode cX2_summedPair 3 = .ok (.invokevirtual 168, 3) := by decide +kernel
theorem dX2_summedPair_6 : decode cX2_summedPair 6 = .ok (.i2l, 1) := by decide +kernel
theorem dX2_summedPair_7 : decode cX2_summedPair 7 = .ok (.invokestatic 207, 3) := by decide +kernel
theorem dX2_summedPair_10 : decode cX2_summedPair 10 = .ok (.lstore 4, 2) := by decide +kernel
theorem dX2_summedPair_12 : decode cX2_summedPair 12 = .ok (.lload 4, 2) := by decide +kernel
theorem dX2_summedPair_14 : decode cX2_summedPair 14 = .ok (.aload_n 2, 1) := by decide +kernel
theorem dX2_summedPair_15 : decode cX2_summedPair 15 = .ok (.aload_n 3, 1) := by decide +kernel
theorem dX2_summedPair_16 : decode cX2_summedPair 16 = .ok (.invokevirtual 172, 3) := by decide +kernel
theorem dX2_summedPair_19 : decode cX2_summedPair 19 = .ok (.i2l, 1) := by decide +kernel
theorem dX2_summedPair_20 : decode cX2_summedPair 20 = .ok (.invokestatic 207, 3) := by decide +kernel
theorem dX2_summedPair_23 : decode cX2_summedPair 23 = .ok (.lstore 4, 2) := by decide +kernel
theorem dX2_summedPair_25 : decode cX2_summedPair 25 = .ok (.lload 4, 2) := by decide +kernel
theorem dX2_summedPair_27 : decode cX2_summedPair 27 = .ok (.aload_n 2, 1) := by decide +kernel
theorem dX2_summedPair_28 : decode cX2_summedPair 28 = .ok (.aload_n 3, 1) := by decide +kernel
theorem dX2_summedPair_29 : decode cX2_summedPair 29 = .ok (.iconst 0, 1) := by decide +kernel
theorem dX2_summedPair_30 : decode cX2_summedPair 30 = .ok (.invokevirtual 183, 3) := by decide +kernel
theorem dX2_summedPair_33 : decode cX2_summedPair 33 = .ok (.i2l, 1) := by decide +kernel
theorem dX2_summedPair_34 : decode cX2_summedPair 34 = .ok (.invokestatic 207, 3) := by decide +kernel
theorem dX2_summedPair_37 : decode cX2_summedPair 37 = .ok (.lstore 4, 2) := by decide +kernel
theorem dX2_summedPair_39 : decode cX2_summedPair 39 = .ok (.lload 4, 2) := by decide +kernel
theorem dX2_summedPair_41 : decode cX2_summedPair 41 = .ok (.aload_n 2, 1) := by decide +kernel
theorem dX2_summedPair_42 : decode cX2_summedPair 42 = .ok (.aload_n 3, 1) := by decide +kernel
theorem dX2_summedPair_43 : decode cX2_summedPair 43 = .ok (.iconst 1, 1) := by decide +kernel
theorem dX2_summedPair_44 : decode cX2_summedPair 44 = .ok (.invokevirtual 183, 3) := by decide +kernel
theorem dX2_summedPair_47 : decode cX2_summedPair 47 = .ok (.invokestatic 186, 3) := by decide +kernel
theorem dX2_summedPair_50 : decode cX2_summedPair 50 = .ok (.i2l, 1) := by decide +kernel
theorem dX2_summedPair_51 : decode cX2_summedPair 51 = .ok (.invokestatic 207, 3) := by decide +kernel
theorem dX2_summedPair_54 : decode cX2_summedPair 54 = .ok (.lstore 4, 2) := by decide +kernel
theorem dX2_summedPair_56 : decode cX2_summedPair 56 = .ok (.lload 4, 2) := by decide +kernel
theorem dX2_summedPair_58 : decode cX2_summedPair 58 = .ok (.aload_n 2, 1) := by decide +kernel
theorem dX2_summedPair_59 : decode cX2_summedPair 59 = .ok (.aload_n 3, 1) := by decide +kernel
theorem dX2_summedPair_60 : decode cX2_summedPair 60 = .ok (.iconst 1, 1) := by decide +kernel
theorem dX2_summedPair_61 : decode cX2_summedPair 61 = .ok (.invokevirtual 179, 3) := by decide +kernel
theorem dX2_summedPair_64 : decode cX2_summedPair 64 = .ok (.ifCond .eq 7, 3) := by decide +kernel
theorem dX2_summedPair_67 : decode cX2_summedPair 67 = .ok (.lconst 1, 1) := by decide +kernel
theorem dX2_summedPair_68 : decode cX2_summedPair 68 = .ok (.goto 4, 3) := by decide +kernel
theorem dX2_summedPair_71 : decode cX2_summedPair 71 = .ok (.lconst 0, 1) := by decide +kernel
theorem dX2_summedPair_72 : decode cX2_summedPair 72 = .ok (.invokestatic 207, 3) := by decide +kernel
theorem dX2_summedPair_75 : decode cX2_summedPair 75 = .ok (.lreturn, 1) := by decide +kernel
abbrev rmX2_summed : Room := { frames := 0, cells := 0, slots := 0, locals := 0 }
theorem mX2_summed {l : Launch} {G : Cx} {A : Nat → Prop} {x y : Int64} : Met l yX2_summed (.code yX2_summed cX2_summed 4 (some .long) :: GW) rmX2_summed (PC G A [.long x, .long y] (fun _ => True)) (vp_Sl (fun r => r = x * 31 + y)) 0 0 (fun _ => False) := by
  refine mstart "Signtext" (by decide +kernel) rfl (Nat.le_of_ble_eq_true rfl) ?_
  intro p e s m below meth c ls hx hb hr hts hown hml hlocks hname hC hA hW hl
  have hl : lv_has ls 4 [(0, .long x), (2, .long y)] := hl
  have hK := hC.1
  have hS : va_S A s.heap s.heap [] := va_S.rf
  refine lv_lload_n hx hb dX2_summed_0 rfl (lv_at hl 0 rfl) ?_
  refine lv_ldc2 (v := 31) hx hb hown (hts _ tw_2_203) dX2_summed_1 ?_
  refine lv_lmul hx hb dX2_summed_4 ?_
  refine lv_lload_n hx hb dX2_summed_5 rfl (lv_at hl 1 rfl) ?_
  refine lv_ladd hx hb dX2_summed_6 ?_
  exact p_l hx hb hr hlocks dX2_summed_7 rfl

abbrev rmX2_summedText : Room := { frames := 3, cells := 0, slots := 0, locals := 66 }
theorem mX2_summedText {l : Launch} {G : Cx} {A : Nat → Prop} {x : Int64} {a ca : Nat} {t : List Nat} : Met l yX2_summedText (.code yX2_summedText cX2_summedText 5 (some .long) :: GW) rmX2_summedText (PC G A [.long x, .ref a] (LA G a ca t)) (vp_Sl (fun _ => True)) 0 0 (fun _ => False) := by
  refine mstart "Signtext" (by decide +kernel) rfl (Nat.le_of_ble_eq_true rfl) ?_
  intro p e s m below meth c ls hx hb hr hts hown hml hlocks hname hC hA hW hl
  have hl : lv_has ls 5 [(0, .long x), (2, .ref a)] := hl
  have hK := hC.1
  have hS : va_S A s.heap s.heap [] := va_S.rf
  have t60 := hW.1
  refine lv_lload_n hx hb dX2_summedText_0 rfl (lv_at hl 0 rfl) ?_
  refine lv_aload_n hx hb dX2_summedText_1 rfl (lv_at hl 1 rfl) ?_
  refine kV_i (A := A) (b := a) (As := []) (rest := .long x :: []) ⟨hx, hb, hml, hown, hts⟩ (mX0_hashOfSigns (A := A) (ca := ca)) (cwV 0 hts (gV tw_2_110 tw_2_111 tw_2_112 tw_1_2 tw_2_113) rfl rfl rfl (by decide +kernel) ⟨Nat.le_of_ble_eq_true rfl, Nat.le_of_ble_eq_true rfl⟩) hC hS hA (hW.recv hK) hW rfl rfl hl.1 (Nat.le_of_ble_eq_true rfl) ⟨Nat.zero_le _, Nat.zero_le _⟩ dX2_summedText_2 (fun r9 h9 => lv_cv h9 ?_)
  refine lv_i2l hx hb dX2_summedText_5 rfl ?_
  refine kS_l (A := A) (As := [.long x, .long ((hashL t).toInt64)]) (rest := []) ⟨hx, hb, hml, hown, hts⟩ (mX2_summed (A := A) ) (va_cwS 2 hts (gS tw_2_200 tw_2_201 tw_1_1 tw_2_202) rfl rfl rfl (by decide +kernel) ⟨Nat.le_of_ble_eq_true rfl, Nat.le_of_ble_eq_true rfl⟩) hC hS hA trivial rfl rfl hl.1 (Nat.le_of_ble_eq_true rfl) ⟨Nat.zero_le _, Nat.zero_le _⟩ dX2_summedText_6 (fun y_1 _ => ?_)
  refine lv_lstore_n (lv' := [(3, .long y_1), (0, .long x), (2, .ref a)]) hx hb dX2_summedText_9 rfl hl (by decide) rfl (fun ls hl => ?_)
  refine lv_lload_n hx hb dX2_summedText_10 rfl (lv_at hl 0 rfl) ?_
  refine lv_aload_n hx hb dX2_summedText_11 rfl (lv_at hl 2 rfl) ?_
  refine kV_i (A := A) (b := a) (As := []) (rest := .long y_1 :: []) ⟨hx, hb, hml, hown, hts⟩ (mX0_size (A := A) (ca := ca)) (cwV 0 hts (gV tw_2_30 tw_2_12 tw_2_13 tw_1_2 tw_2_14) rfl rfl rfl (by decide +kernel) ⟨Nat.le_of_ble_eq_true rfl, Nat.le_of_ble_eq_true rfl⟩) hC hS hA (hW.recv hK) hW rfl rfl hl.1 (Nat.le_of_ble_eq_true rfl) ⟨Nat.zero_le _, Nat.zero_le _⟩ dX2_summedText_12 (fun r9 h9 => lv_cv h9 ?_)
  refine lv_i2l hx hb dX2_summedText_15 rfl ?_
  refine kS_l (A := A) (As := [.long y_1, .long ((nI t.length).toInt64)]) (rest := []) ⟨hx, hb, hml, hown, hts⟩ (mX2_summed (A := A) ) (va_cwS 2 hts (gS tw_2_200 tw_2_201 tw_1_1 tw_2_202) rfl rfl rfl (by decide +kernel) ⟨Nat.le_of_ble_eq_true rfl, Nat.le_of_ble_eq_true rfl⟩) hC hS hA trivial rfl rfl hl.1 (Nat.le_of_ble_eq_true rfl) ⟨Nat.zero_le _, Nat.zero_le _⟩ dX2_summedText_16 (fun y_2 _ => ?_)
  refine lv_lstore_n (lv' := [(3, .long y_2), (0, .long x), (2, .ref a)]) hx hb dX2_summedText_19 rfl hl (by decide) rfl (fun ls hl => ?_)
  refine lv_lload_n hx hb dX2_summedText_20 rfl (lv_at hl 0 rfl) ?_
  refine lv_aload_n hx hb dX2_summedText_21 rfl (lv_at hl 2 rfl) ?_
  refine kV_i (A := A) (b := a) (As := []) (rest := .long y_2 :: []) ⟨hx, hb, hml, hown, hts⟩ (mX0_isAllWhite (A := A) (ca := ca)) (cwV 0 hts (gV tw_2_207 tw_2_208 tw_2_209 tw_1_2 tw_2_210) rfl rfl rfl (by decide +kernel) ⟨Nat.le_of_ble_eq_true rfl, Nat.le_of_ble_eq_true rfl⟩) hC hS hA (hW.recv hK) hW rfl rfl hl.1 (Nat.le_of_ble_eq_true rfl) ⟨Nat.zero_le _, Nat.zero_le _⟩ dX2_summedText_22 (fun r9 h9 => lv_cv h9 ?_)
  refine f_eq (tgt := 32) hx hb dX2_summedText_25 (by decide) (fun c_3 => ?_) (fun c_3 => ?_)
  · refine lv_lconst (v := 0) hx hb dX2_summedText_32 (by decide) ?_
    refine kS_l (A := A) (As := [.long y_2, .long 0]) (rest := []) ⟨hx, hb, hml, hown, hts⟩ (mX2_summed (A := A) ) (va_cwS 2 hts (gS tw_2_200 tw_2_201 tw_1_1 tw_2_202) rfl rfl rfl (by decide +kernel) ⟨Nat.le_of_ble_eq_true rfl, Nat.le_of_ble_eq_true rfl⟩) hC hS hA trivial rfl rfl hl.1 (Nat.le_of_ble_eq_true rfl) ⟨Nat.zero_le _, Nat.zero_le _⟩ dX2_summedText_33 (fun y_4 _ => ?_)
    refine lv_lstore_n (lv' := [(3, .long y_4), (0, .long x), (2, .ref a)]) hx hb dX2_summedText_36 rfl hl (by decide) rfl (fun ls hl => ?_)
    refine lv_lload_n hx hb dX2_summedText_37 rfl (lv_at hl 0 rfl) ?_
    refine lv_aload_n hx hb dX2_summedText_38 rfl (lv_at hl 2 rfl) ?_
    refine lv_iconst (v := nI 0) hx hb dX2_summedText_39 (by decide) ?_
    refine kV_i (A := A) (b := a) (As := [.int (bI false)]) (rest := .long y_4 :: []) ⟨hx, hb, hml, hown, hts⟩ (mX0_trimmedEnd (A := A) (ca := ca) (b := false)) (cwV 1 hts (gV tw_2_50 tw_2_51 tw_2_52 tw_1_2 tw_2_53) rfl rfl rfl (by decide +kernel) ⟨Nat.le_of_ble_eq_true rfl, Nat.le_of_ble_eq_true rfl⟩) hC hS hA (hW.recv hK) hW rfl rfl hl.1 (Nat.le_of_ble_eq_true rfl) ⟨Nat.zero_le _, Nat.zero_le _⟩ dX2_summedText_40 (fun r_5 hr_5 => ?_)
    obtain ⟨r_5e, -, rfl⟩ := hr_5
    refine lv_aload_n hx hb dX2_summedText_43 rfl (lv_at hl 2 rfl) ?_
    refine lv_iconst (v := nI 0) hx hb dX2_summedText_44 (by decide) ?_
    refine kV_i (A := A) (b := a) (As := [.int (bI false)]) (rest := .int (nI r_5e) :: .long y_4 :: []) ⟨hx, hb, hml, hown, hts⟩ (mX0_trimmedBegin (A := A) (ca := ca) (b := false)) (cwV 1 hts (gV tw_2_43 tw_2_44 tw_2_45 tw_1_2 tw_2_46) rfl rfl rfl (by decide +kernel) ⟨Nat.le_of_ble_eq_true rfl, Nat.le_of_ble_eq_true rfl⟩) hC hS hA (hW.recv hK) hW rfl rfl hl.1 (Nat.le_of_ble_eq_true rfl) ⟨Nat.zero_le _, Nat.zero_le _⟩ dX2_summedText_45 (fun r9 h9 => lv_cv h9 ?_)
    refine lv_isub hx hb dX2_summedText_48 ?_
    refine lv_i2l hx hb dX2_summedText_49 rfl ?_
    refine kS_l (A := A) (As := [.long y_4, .long ((nI r_5e - nI (tbL false t)).toInt64)]) (rest := []) ⟨hx, hb, hml, hown, hts⟩ (mX2_summed (A := A) ) (va_cwS 2 hts (gS tw_2_200 tw_2_201 tw_1_1 tw_2_202) rfl rfl rfl (by decide +kernel) ⟨Nat.le_of_ble_eq_true rfl, Nat.le_of_ble_eq_true rfl⟩) hC hS hA trivial rfl rfl hl.1 (Nat.le_of_ble_eq_true rfl) ⟨Nat.zero_le _, Nat.zero_le _⟩ dX2_summedText_50 (fun y_6 _ => ?_)
    refine lv_lstore_n (lv' := [(3, .long y_6), (0, .long x), (2, .ref a)]) hx hb dX2_summedText_53 rfl hl (by decide) rfl (fun ls hl => ?_)
    refine lv_lload_n hx hb dX2_summedText_54 rfl (lv_at hl 0 rfl) ?_
    refine lv_aload_n hx hb dX2_summedText_55 rfl (lv_at hl 2 rfl) ?_
    refine lv_iconst (v := nI 1) hx hb dX2_summedText_56 (by decide) ?_
    refine kV_i (A := A) (b := a) (As := [.int (bI true)]) (rest := .long y_6 :: []) ⟨hx, hb, hml, hown, hts⟩ (mX0_trimmedEnd (A := A) (ca := ca) (b := true)) (cwV 1 hts (gV tw_2_50 tw_2_51 tw_2_52 tw_1_2 tw_2_53) rfl rfl rfl (by decide +kernel) ⟨Nat.le_of_ble_eq_true rfl, Nat.le_of_ble_eq_true rfl⟩) hC hS hA (hW.recv hK) hW rfl rfl hl.1 (Nat.le_of_ble_eq_true rfl) ⟨Nat.zero_le _, Nat.zero_le _⟩ dX2_summedText_57 (fun r_7 hr_7 => ?_)
    obtain ⟨r_7e, -, rfl⟩ := hr_7
    refine lv_aload_n hx hb dX2_summedText_60 rfl (lv_at hl 2 rfl) ?_
    refine lv_iconst (v := nI 1) hx hb dX2_summedText_61 (by decide) ?_
    refine kV_i (A := A) (b := a) (As := [.int (bI true)]) (rest := .int (nI r_7e) :: .long y_6 :: []) ⟨hx, hb, hml, hown, hts⟩ (mX0_trimmedBegin (A := A) (ca := ca) (b := true)) (cwV 1 hts (gV tw_2_43 tw_2_44 tw_2_45 tw_1_2 tw_2_46) rfl rfl rfl (by decide +kernel) ⟨Nat.le_of_ble_eq_true rfl, Nat.le_of_ble_eq_true rfl⟩) hC hS hA (hW.recv hK) hW rfl rfl hl.1 (Nat.le_of_ble_eq_true rfl) ⟨Nat.zero_le _, Nat.zero_le _⟩ dX2_summedText_62 (fun r9 h9 => lv_cv h9 ?_)
    refine lv_isub hx hb dX2_summedText_65 ?_
    refine lv_i2l hx hb dX2_summedText_66 rfl ?_
    refine kS_l (A := A) (As := [.long y_6, .long ((nI r_7e - nI (tbL true t)).toInt64)]) (rest := []) ⟨hx, hb, hml, hown, hts⟩ (mX2_summed (A := A) ) (va_cwS 2 hts (gS tw_2_200 tw_2_201 tw_1_1 tw_2_202) rfl rfl rfl (by decide +kernel) ⟨Nat.le_of_ble_eq_true rfl, Nat.le_of_ble_eq_true rfl⟩) hC hS hA trivial rfl rfl hl.1 (Nat.le_of_ble_eq_true rfl) ⟨Nat.zero_le _, Nat.zero_le _⟩ dX2_summedText_67 (fun y_8 _ => ?_)
    exact p_l hx hb hr hlocks dX2_summedText_70 trivial
  · refine lv_lconst (v := 1) hx hb dX2_summedText_28 (by decide) ?_
    refine lv_goto (tgt := 33) hx hb dX2_summedText_29 (by decide) ?_
    refine kS_l (A := A) (As := [.long y_2, .long 1]) (rest := []) ⟨hx, hb, hml, hown, hts⟩ (mX2_summed (A := A) ) (va_cwS 2 hts (gS tw_2_200 tw_2_201 tw_1_1 tw_2_202) rfl rfl rfl (by decide +kernel) ⟨Nat.le_of_ble_eq_true rfl, Nat.le_of_ble_eq_true rfl⟩) hC hS hA trivial rfl rfl hl.1 (Nat.le_of_ble_eq_true rfl) ⟨Nat.zero_le _, Nat.zero_le _⟩ dX2_summedText_33 (fun y_9 _ => ?_)
    refine lv_lstore_n (lv' := [(3, .long y_9), (0, .long x), (2, .ref a)]) hx hb dX2_summedText_36 rfl hl (by decide) rfl (fun ls hl => ?_)
    refine lv_lload_n hx hb dX2_summedText_37 rfl (lv_at hl 0 rfl) ?_
    refine lv_aload_n hx hb dX2_summedText_38 rfl (lv_at hl 2 rfl) ?_
    refine lv_iconst (v := nI 0) hx hb dX2_summedText_39 (by decide) ?_
    refine kV_i (A := A) (b := a) (As := [.int (bI false)]) (rest := .long y_9 :: []) ⟨hx, hb, hml, hown, hts⟩ (mX0_trimmedEnd (A := A) (ca := ca) (b := false)) (cwV 1 hts (gV tw_2_50 tw_2_51 tw_2_52 tw_1_2 tw_2_53) rfl rfl rfl (by decide +kernel) ⟨Nat.le_of_ble_eq_true rfl, Nat.le_of_ble_eq_true rfl⟩) hC hS hA (hW.recv hK) hW rfl rfl hl.1 (Nat.le_of_ble_eq_true rfl) ⟨Nat.zero_le _, Nat.zero_le _⟩ dX2_summedText_40 (fun r_10 hr_10 => ?_)
    obtain ⟨r_10e, -, rfl⟩ := hr_10
    refine lv_aload_n hx hb dX2_summedText_43 rfl (lv_at hl 2 rfl) ?_
    refine lv_iconst (v := nI 0) hx hb dX2_summedText_44 (by decide) ?_
    refine kV_i (A := A) (b := a) (As := [.int (bI false)]) (rest := .int (nI r_10e) :: .long y_9 :: []) ⟨hx, hb, hml, hown, hts⟩ (mX0_trimmedBegin (A := A) (ca := ca) (b := false)) (cwV 1 hts (gV tw_2_43 tw_2_44 tw_2_45 tw_1_2 tw_2_46) rfl rfl rfl (by decide +kernel) ⟨Nat.le_of_ble_eq_true rfl, Nat.le_of_ble_eq_true rfl⟩) hC hS hA (hW.recv hK) hW rfl rfl hl.1 (Nat.le_of_ble_eq_true rfl) ⟨Nat.zero_le _, Nat.zero_le _⟩ dX2_summedText_45 (fun r9 h9 => lv_cv h9 ?_)
    refine lv_isub hx hb dX2_summedText_48 ?_
    refine lv_i2l hx hb dX2_summedText_49 rfl ?_
    refine kS_l (A := A) (As := [.long y_9, .long ((nI r_10e - nI (tbL false t)).toInt64)]) (rest := []) ⟨hx, hb, hml, hown, hts⟩ (mX2_summed (A := A) ) (va_cwS 2 hts (gS tw_2_200 tw_2_201 tw_1_1 tw_2_202) rfl rfl rfl (by decide +kernel) ⟨Nat.le_of_ble_eq_true rfl, Nat.le_of_ble_eq_true rfl⟩) hC hS hA trivial rfl rfl hl.1 (Nat.le_of_ble_eq_true rfl) ⟨Nat.zero_le _, Nat.zero_le _⟩ dX2_summedText_50 (fun y_11 _ => ?_)
    refine lv_lstore_n (lv' := [(3, .long y_11), (0, .long x), (2, .ref a)]) hx hb dX2_summedText_53 rfl hl (by decide) rfl (fun ls hl => ?_)
    refine lv_lload_n hx hb dX2_summedText_54 rfl (lv_at hl 0 rfl) ?_
    refine lv_aload_n hx hb dX2_summedText_55 rfl (lv_at hl 2 rfl) ?_
    refine lv_iconst (v := nI 1) hx hb dX2_summedText_56 (by decide) ?_
    refine kV_i (A := A) (b := a) (As := [.int (bI true)]) (rest := .long y_11 :: []) ⟨hx, hb, hml, hown, hts⟩ (mX0_trimmedEnd (A := A) (ca := ca) (b := true)) (cwV 1 hts (gV tw_2_50 tw_2_51 tw_2_52 tw_1_2 tw_2_53) rfl rfl rfl (by decide +kernel) ⟨Nat.le_of_ble_eq_true rfl, Nat.le_of_ble_eq_true rfl⟩) hC hS hA (hW.recv hK) hW rfl rfl hl.1 (Nat.le_of_ble_eq_true rfl) ⟨Nat.zero_le _, Nat.zero_le _⟩ dX2_summedText_57 (fun r_12 hr_12 => ?_)
    obtain ⟨r_12e, -, rfl⟩ := hr_12
    refine lv_aload_n hx hb dX2_summedText_60 rfl (lv_at hl 2 rfl) ?_
    refine lv_iconst (v := nI 1) hx hb dX2_summedText_61 (by decide) ?_
    refine kV_i (A := A) (b := a) (As := [.int (bI true)]) (rest := .int (nI r_12e) :: .long y_11 :: []) ⟨hx, hb, hml, hown, hts⟩ (mX0_trimmedBegin (A := A) (ca := ca) (b := true)) (cwV 1 hts (gV tw_2_43 tw_2_44 tw_2_45 tw_1_2 tw_2_46) rfl rfl rfl (by decide +kernel) ⟨Nat.le_of_ble_eq_true rfl, Nat.le_of_ble_eq_true rfl⟩) hC hS hA (hW.recv hK) hW rfl rfl hl.1 (Nat.le_of_ble_eq_true rfl) ⟨Nat.zero_le _, Nat.zero_le _⟩ dX2_summedText_62 (fun r9 h9 => lv_cv h9 ?_)
    refine lv_isub hx hb dX2_summedText_65 ?_
    refine lv_i2l hx hb dX2_summedText_66 rfl ?_
    refine kS_l (A := A) (As := [.long y_11, .long ((nI r_12e - nI (tbL true t)).toInt64)]) (rest := []) ⟨hx, hb, hml, hown, hts⟩ (mX2_summed (A := A) ) (va_cwS 2 hts (gS tw_2_200 tw_2_201 tw_1_1 tw_2_202) rfl rfl rfl (by decide +kernel) ⟨Nat.le_of_ble_eq_true rfl, Nat.le_of_ble_eq_true rfl⟩) hC hS hA trivial rfl rfl hl.1 (Nat.le_of_ble_eq_true rfl) ⟨Nat.zero_le _, Nat.zero_le _⟩ dX2_summedText_67 (fun y_13 _ => ?_)
    exact p_l hx hb hr hlocks dX2_summedText_70 trivial

abbrev rmX2_summedPair : Room := { frames := 4, cells := 0, slots := 0, locals := 87 }
theorem mX2_summedPair {l : Launch} {G : Cx} {A : Nat → Prop} {x : Int64} {a ca b cb : Nat} {t u : List Nat} : Met l yX2_summedPair (.code yX2_summedPair cX2_summedPair 6 (some .long) :: GW) rmX2_summedPair (PC G A [.long x, .ref a, .ref b] (fun H => LA G a ca t H ∧ LA G b cb u H)) (vp_Sl (fun _ => True)) 0 0 (fun _ => False) := by
  refine mstart "Signtext" (by decide +kernel) rfl (Nat.le_of_ble_eq_true rfl) ?_
  intro p e s m below meth c ls hx hb hr hts hown hml hlocks hname hC hA hW hl
  have hl : lv_has ls 6 [(0, .long x), (2, .ref a), (3, .ref b)] := hl
  have hK := hC.1
  have hS : va_S A s.heap s.heap [] := va_S.rf
  obtain ⟨hWa, hWb⟩ := hW
  refine lv_lload_n hx hb dX2_summedPair_0 rfl (lv_at hl 0 rfl) ?_
  refine lv_aload_n hx hb dX2_summedPair_1 rfl (lv_at hl 1 rfl) ?_
  refine lv_aload_n hx hb dX2_summedPair_2 rfl (lv_at hl 2 rfl) ?_
  refine kV_i (A := A) (b := a) (As := [.ref b]) (rest := .long x :: []) ⟨hx, hb, hml, hown, hts⟩ (mX0_firstPlaceOf (A := A) (ca := ca) (cb := cb)) (cwV 1 hts (gV tw_2_102 tw_2_103 tw_2_104 tw_1_2 tw_2_105) rfl rfl rfl (by decide +kernel) ⟨Nat.le_of_ble_eq_true rfl, Nat.le_of_ble_eq_true rfl⟩) hC hS hA (hWa.recv hK) ⟨hWa, hWb⟩ rfl rfl hl.1 (Nat.le_of_ble_eq_true rfl) ⟨Nat.zero_le _, Nat.zero_le _⟩ dX2_summedPair_3 (fun r_14 hr_14 => ?_)
  refine lv_i2l hx hb dX2_summedPair_6 rfl ?_
  refine kS_l (A := A) (As := [.long x, .long r_14.toInt64]) (rest := []) ⟨hx, hb, hml, hown, hts⟩ (mX2_summed (A := A) ) (va_cwS 2 hts (gS tw_2_200 tw_2_201 tw_1_1 tw_2_202) rfl rfl rfl (by decide +kernel) ⟨Nat.le_of_ble_eq_true rfl, Nat.le_of_ble_eq_true rfl⟩) hC hS hA trivial rfl rfl hl.1 (Nat.le_of_ble_eq_true rfl) ⟨Nat.zero_le _, Nat.zero_le _⟩ dX2_summedPair_7 (fun y_15 _ => ?_)
  refine lv_lstore (lv' := [(4, .long y_15), (0, .long x), (2, .ref a), (3, .ref b)]) hx hb dX2_summedPair_10 hl (by decide) rfl (fun ls hl => ?_)
  refine lv_lload hx hb dX2_summedPair_12 (lv_at hl 0 rfl) ?_
  refine lv_aload_n hx hb dX2_summedPair_14 rfl (lv_at hl 2 rfl) ?_
  refine lv_aload_n hx hb dX2_summedPair_15 rfl (lv_at hl 3 rfl) ?_
  refine kV_i (A := A) (b := a) (As := [.ref b]) (rest := .long y_15 :: []) ⟨hx, hb, hml, hown, hts⟩ (mX0_lastPlaceOf (A := A) (ca := ca) (cb := cb)) (cwV 1 hts (gV tw_2_106 tw_2_107 tw_2_108 tw_1_2 tw_2_109) rfl rfl rfl (by decide +kernel) ⟨Nat.le_of_ble_eq_true rfl, Nat.le_of_ble_eq_true rfl⟩) hC hS hA (hWa.recv hK) ⟨hWa, hWb⟩ rfl rfl hl.1 (Nat.le_of_ble_eq_true rfl) ⟨Nat.zero_le _, Nat.zero_le _⟩ dX2_summedPair_16 (fun r_16 hr_16 => ?_)
  refine lv_i2l hx hb dX2_summedPair_19 rfl ?_
  refine kS_l (A := A) (As := [.long y_15, .long r_16.toInt64]) (rest := []) ⟨hx, hb, hml, hown, hts⟩ (mX2_summed (A := A) ) (va_cwS 2 hts (gS tw_2_200 tw_2_201 tw_1_1 tw_2_202) rfl rfl rfl (by decide +kernel) ⟨Nat.le_of_ble_eq_true rfl, Nat.le_of_ble_eq_true rfl⟩) hC hS hA trivial rfl rfl hl.1 (Nat.le_of_ble_eq_true rfl) ⟨Nat.zero_le _, Nat.zero_le _⟩ dX2_summedPair_20 (fun y_17 _ => ?_)
  refine lv_lstore (lv' := [(4, .long y_17), (0, .long x), (2, .ref a), (3, .ref b)]) hx hb dX2_summedPair_23 hl (by decide) rfl (fun ls hl => ?_)
  refine lv_lload hx hb dX2_summedPair_25 (lv_at hl 0 rfl) ?_
  refine lv_aload_n hx hb dX2_summedPair_27 rfl (lv_at hl 2 rfl) ?_
  refine lv_aload_n hx hb dX2_summedPair_28 rfl (lv_at hl 3 rfl) ?_
  refine lv_iconst (v := nI 0) hx hb dX2_summedPair_29 (by decide) ?_
  refine kV_i (A := A) (b := a) (As := [.ref b, .int (bI false)]) (rest := .long y_17 :: []) ⟨hx, hb, hml, hown, hts⟩ (mX0_orderTo (A := A) (ca := ca) (cb := cb) (b0 := false)) (cwV 2 hts (gV tw_2_98 tw_2_99 tw_2_100 tw_1_2 tw_2_101) rfl rfl rfl (by decide +kernel) ⟨Nat.le_of_ble_eq_true rfl, Nat.le_of_ble_eq_true rfl⟩) hC hS hA (hWa.recv hK) ⟨hWa, hWb⟩ rfl rfl hl.1 (Nat.le_of_ble_eq_true rfl) ⟨Nat.zero_le _, Nat.zero_le _⟩ dX2_summedPair_30 (fun r_18 hr_18 => ?_)
  refine lv_i2l hx hb dX2_summedPair_33 rfl ?_
  refine kS_l (A := A) (As := [.long y_17, .long r_18.toInt64]) (rest := []) ⟨hx, hb, hml, hown, hts⟩ (mX2_summed (A := A) ) (va_cwS 2 hts (gS tw_2_200 tw_2_201 tw_1_1 tw_2_202) rfl rfl rfl (by decide +kernel) ⟨Nat.le_of_ble_eq_true rfl, Nat.le_of_ble_eq_true rfl⟩) hC hS hA trivial rfl rfl hl.1 (Nat.le_of_ble_eq_true rfl) ⟨Nat.zero_le _, Nat.zero_le _⟩ dX2_summedPair_34 (fun y_19 _ => ?_)
  refine lv_lstore (lv' := [(4, .long y_19), (0, .long x), (2, .ref a), (3, .ref b)]) hx hb dX2_summedPair_37 hl (by decide) rfl (fun ls hl => ?_)
  refine lv_lload hx hb dX2_summedPair_39 (lv_at hl 0 rfl) ?_
  refine lv_aload_n hx hb dX2_summedPair_41 rfl (lv_at hl 2 rfl) ?_
  refine lv_aload_n hx hb dX2_summedPair_42 rfl (lv_at hl 3 rfl) ?_
  refine lv_iconst (v := nI 1) hx hb dX2_summedPair_43 (by decide) ?_
  refine kV_i (A := A) (b := a) (As := [.ref b, .int (bI true)]) (rest := .long y_19 :: []) ⟨hx, hb, hml, hown, hts⟩ (mX0_orderTo (A := A) (ca := ca) (cb := cb) (b0 := true)) (cwV 2 hts (gV tw_2_98 tw_2_99 tw_2_100 tw_1_2 tw_2_101) rfl rfl rfl (by decide +kernel) ⟨Nat.le_of_ble_eq_true rfl, Nat.le_of_ble_eq_true rfl⟩) hC hS hA (hWa.recv hK) ⟨hWa, hWb⟩ rfl rfl hl.1 (Nat.le_of_ble_eq_true rfl) ⟨Nat.zero_le _, Nat.zero_le _⟩ dX2_summedPair_44 (fun r_20 hr_20 => ?_)
  refine kS_i (A := A) (As := [.int r_20]) (rest := .long y_19 :: []) ⟨hx, hb, hml, hown, hts⟩ (mX2_directionOf (A := A) ) (va_cwS 1 hts (gS tw_2_214 tw_2_215 tw_1_1 tw_2_216) rfl rfl rfl (by decide +kernel) ⟨Nat.le_of_ble_eq_true rfl, Nat.le_of_ble_eq_true rfl⟩) hC hS hA  trivial rfl rfl hl.1 (Nat.le_of_ble_eq_true rfl) ⟨Nat.zero_le _, Nat.zero_le _⟩ dX2_summedPair_47 (fun r9 h9 => lv_cv h9 ?_)
  refine lv_i2l hx hb dX2_summedPair_50 rfl ?_
  refine kS_l (A := A) (As := [.long y_19, .long ((sgI r_20).toInt64)]) (rest := []) ⟨hx, hb, hml, hown, hts⟩ (mX2_summed (A := A) ) (va_cwS 2 hts (gS tw_2_200 tw_2_201 tw_1_1 tw_2_202) rfl rfl rfl (by decide +kernel) ⟨Nat.le_of_ble_eq_true rfl, Nat.le_of_ble_eq_true rfl⟩) hC hS hA trivial rfl rfl hl.1 (Nat.le_of_ble_eq_true rfl) ⟨Nat.zero_le _, Nat.zero_le _⟩ dX2_summedPair_51 (fun y_21 _ => ?_)
  refine lv_lstore (lv' := [(4, .long y_21), (0, .long x), (2, .ref a), (3, .ref b)]) hx hb dX2_summedPair_54 hl (by decide) rfl (fun ls hl => ?_)
  refine lv_lload hx hb dX2_summedPair_56 (lv_at hl 0 rfl) ?_
  refine lv_aload_n hx hb dX2_summedPair_58 rfl (lv_at hl 2 rfl) ?_
  refine lv_aload_n hx hb dX2_summedPair_59 rfl (lv_at hl 3 rfl) ?_
  refine lv_iconst (v := nI 1) hx hb dX2_summedPair_60 (by decide) ?_
  refine kV_i (A := A) (b := a) (As := [.ref b, .int (bI true)]) (rest := .long y_21 :: []) ⟨hx, hb, hml, hown, hts⟩ (mX0_isSameAs (A := A) (ca := ca) (cb := cb) (b0 := true)) (cwV 2 hts (gV tw_2_7 tw_2_8 tw_2_9 tw_1_2 tw_2_10) rfl rfl rfl (by decide +kernel) ⟨Nat.le_of_ble_eq_true rfl, Nat.le_of_ble_eq_true rfl⟩) hC hS hA (hWa.recv hK) ⟨hWa, hWb⟩ rfl rfl hl.1 (Nat.le_of_ble_eq_true rfl) ⟨Nat.zero_le _, Nat.zero_le _⟩ dX2_summedPair_61 (fun r_22 hr_22 => ?_)
  obtain ⟨r_22v, -, rfl⟩ := hr_22
  refine f_eq (tgt := 71) hx hb dX2_summedPair_64 (by decide) (fun c_23 => ?_) (fun c_23 => ?_)
  · refine lv_lconst (v := 0) hx hb dX2_summedPair_71 (by decide) ?_
    refine kS_l (A := A) (As := [.long y_21, .long 0]) (rest := []) ⟨hx, hb, hml, hown, hts⟩ (mX2_summed (A := A) ) (va_cwS 2 hts (gS tw_2_200 tw_2_201 tw_1_1 tw_2_202) rfl rfl rfl (by decide +kernel) ⟨Nat.le_of_ble_eq_true rfl, Nat.le_of_ble_eq_true rfl⟩) hC hS hA trivial rfl rfl hl.1 (Nat.le_of_ble_eq_true rfl) ⟨Nat.zero_le _, Nat.zero_le _⟩ dX2_summedPair_72 (fun y_24 _ => ?_)
    exact p_l hx hb hr hlocks dX2_summedPair_75 trivial
  · refine lv_lconst (v := 1) hx hb dX2_summedPair_67 (by decide) ?_
    refine lv_goto (tgt := 72) hx hb dX2_summedPair_68 (by decide) ?_
    refine kS_l (A := A) (As := [.long y_21, .long 1]) (rest := []) ⟨hx, hb, hml, hown, hts⟩ (mX2_summed (A := A) ) (va_cwS 2 hts (gS tw_2_200 tw_2_201 tw_1_1 tw_2_202) rfl rfl rfl (by decide +kernel) ⟨Nat.le_of_ble_eq_true rfl, Nat.le_of_ble_eq_true rfl⟩) hC hS hA trivial rfl rfl hl.1 (Nat.le_of_ble_eq_true rfl) ⟨Nat.zero_le _, Nat.zero_le _⟩ dX2_summedPair_72 (fun y_25 _ => ?_)
    exact p_l hx hb hr hlocks dX2_summedPair_75 trivial

abbrev rmX2_digest : Room := { frames := 7, cells := 5, slots := 30, locals := 155 }
theorem mX2_digest {l : Launch} {G : Cx} {A : Nat → Prop} (hst : l.stackTraces = false) {SA : Nat → Nat} {X : Nat → List Nat} {es : List Nat} {k : Int32} (hAS : ∀ i : Nat, i < 39 → A (SA i)) : vx_Met l yX2_digest (.code yX2_digest cX2_digest 5 (some .long) :: GW) rmX2_digest (PC G A [.ref (SA 0)] (SS G SA X es k)) (qL A (fun _ H => SS G SA X es k H)) (xE A (fun _ _ => False)) 5 30 A := by
  refine mstartX "Signtext" (by decide +kernel) rfl (Nat.le_of_ble_eq_true rfl) ?_
  intro p e s m below meth c ls hx hb hr hts hown hml hlocks hnx hC hA hW hl
  have hl : lv_has ls 5 [(0, .ref (SA 0))] := hl
  have hK := hC.1
  have hS : va_S A s.heap s.heap [] := va_S.rf
  have hSS := hW
  refine lv_ldc2 (v := 6173) hx hb hown (hts _ tw_2_123) dX2_digest_0 ?_
  refine lv_lstore_n (lv' := [(1, .long 6173), (0, .ref (SA 0))]) hx hb dX2_digest_3 rfl hl (by decide) rfl (fun ls hl => ?_)
  refine lv_iconst (v := nI 0) hx hb dX2_digest_4 (by decide) ?_
  refine lv_istore_n (lv' := [(3, .int (nI 0)), (1, .long 6173), (0, .ref (SA 0))]) hx hb dX2_digest_5 rfl hl (by decide) rfl (fun ls hl => ?_)
  have k173 : ∀ (ls : Array Slot) (H : Heap) (L : List Loc) (x : Int64), lv_has ls 5 [(1, .long x), (0, .ref (SA 0))] → va_S A s.heap H L → SS G SA X es k H → W p l e rmX2_digest s m [.ref (SA 0)].toArray below meth c H L 5 30 (vx_MQ below (qL A (fun _ H => SS G SA X es k H)) (xE A (fun _ _ => False)) [.ref (SA 0)].toArray s 5 30 A) (F0 m 173 ls []) := by
    clear hl hS hSS hW
    intro ls H L x hl hS hSS
    have hs9 := hSS
    obtain ⟨T, es2, hW, hF⟩ := hs9
    have hO := hW.2.1
    have hR1 := hW.2.2.1
    have hR2 := hW.2.2.2.1
    refine lv_lload_n hx hb dX2_digest_173 rfl (lv_at hl 0 rfl) ?_
    refine lv_aload_n hx hb dX2_digest_174 rfl (lv_at hl 1 rfl) ?_
    refine qI_V (A := A) (A1 := A) (b := (SA 0)) (As := []) (rest := .long x :: []) ⟨hx, hb, hml, hown, hts⟩ (mX2_isSound (A := A) hAS) (cwV 0 hts (gV tw_2_220 tw_1_232 tw_1_233 tw_1_1 tw_1_234) rfl rfl rfl (by decide +kernel) ⟨Nat.le_of_ble_eq_true rfl, Nat.le_of_ble_eq_true rfl⟩) hC hS (fun _ h => h) (fun q h => hA q (Nat.le_trans hS.1 h)) (hW.recv hK) hSS rfl rfl hl.1 (Nat.le_of_ble_eq_true rfl) ⟨Nat.le_trans (show 5 ≤ 5 by omega) (Nat.le_of_ble_eq_true rfl), Nat.le_trans (show 30 ≤ 30 by omega) (Nat.le_of_ble_eq_true rfl)⟩ dX2_digest_175 (fun rv26 H26 L26 hP26 hk26 hS => ?_)
    have hZ26 := hS.1
    obtain ⟨⟨v26, hv26⟩, hSS⟩ := hP26
    subst hv26
    refine f_eq (tgt := 185) hx hb dX2_digest_178 (by decide) (fun c_27 => ?_) (fun c_27 => ?_)
    · refine lv_lconst (v := 0) hx hb dX2_digest_185 (by decide) ?_
      refine kS_l (A := A) (As := [.long x, .long 0]) (rest := []) ⟨hx, hb, hml, hown, hts⟩ (mX2_summed (A := A) ) (va_cwS 2 hts (gS tw_2_200 tw_2_201 tw_1_1 tw_2_202) rfl rfl rfl (by decide +kernel) ⟨Nat.le_of_ble_eq_true rfl, Nat.le_of_ble_eq_true rfl⟩) hC hS hA trivial rfl rfl hl.1 (Nat.le_of_ble_eq_true rfl) ⟨Nat.le_trans (show 5 ≤ 5 by omega) (Nat.le_of_ble_eq_true rfl), Nat.le_trans (show 30 ≤ 30 by omega) (Nat.le_of_ble_eq_true rfl)⟩ dX2_digest_186 (fun y_28 _ => ?_)
      exact vx_ret (q_l hx hb hr hlocks dX2_digest_189 hS (Nat.le_refl _) (Nat.le_refl _) hSS)
    · refine lv_lconst (v := 1) hx hb dX2_digest_181 (by decide) ?_
      refine lv_goto (tgt := 186) hx hb dX2_digest_182 (by decide) ?_
      refine kS_l (A := A) (As := [.long x, .long 1]) (rest := []) ⟨hx, hb, hml, hown, hts⟩ (mX2_summed (A := A) ) (va_cwS 2 hts (gS tw_2_200 tw_2_201 tw_1_1 tw_2_202) rfl rfl rfl (by decide +kernel) ⟨Nat.le_of_ble_eq_true rfl, Nat.le_of_ble_eq_true rfl⟩) hC hS hA trivial rfl rfl hl.1 (Nat.le_of_ble_eq_true rfl) ⟨Nat.le_trans (show 5 ≤ 5 by omega) (Nat.le_of_ble_eq_true rfl), Nat.le_trans (show 30 ≤ 30 by omega) (Nat.le_of_ble_eq_true rfl)⟩ dX2_digest_186 (fun y_29 _ => ?_)
      exact vx_ret (q_l hx hb hr hlocks dX2_digest_189 hS (Nat.le_refl _) (Nat.le_refl _) hSS)
  have k131 : ∀ (ls : Array Slot) (H : Heap) (L : List Loc) (x : Int64), lv_has ls 5 [(1, .long x), (0, .ref (SA 0))] → va_S A s.heap H L → SS G SA X es k H → W p l e rmX2_digest s m [.ref (SA 0)].toArray below meth c H L 5 30 (vx_MQ below (qL A (fun _ H => SS G SA X es k H)) (xE A (fun _ _ => False)) [.ref (SA 0)].toArray s 5 30 A) (F0 m 131 ls []) := by
    clear hl hS hSS hW
    intro ls H L x hl hS hSS
    refine lv_iconst (v := nI 0) hx hb dX2_digest_131 (by decide) ?_
    refine lv_istore_n (lv' := [(3, .int (nI 0)), (1, .long x), (0, .ref (SA 0))]) hx hb dX2_digest_132 rfl hl (by decide) rfl (fun ls hl => ?_)
    refine nloop (P := fun j => ∀ (ls : Array Slot) (H : Heap) (L : List Loc) (x : Int64), lv_has ls 5 [(3, .int (nI j)), (1, .long x), (0, .ref (SA 0))] → va_S A s.heap H L → SS G SA X es k H → W p l e rmX2_digest s m [.ref (SA 0)].toArray below meth c H L 5 30 (vx_MQ below (qL A (fun _ H => SS G SA X es k H)) (xE A (fun _ _ => False)) [.ref (SA 0)].toArray s 5 30 A) (F0 m 133 ls [])) 61 ?_ 0 (Nat.zero_le _) ls H L x hl hS hSS
    clear hl
    intro j hj ih ls H L x hl
    clear hS hSS
    intro hS hSS
    have hs9 := hSS
    obtain ⟨T, es2, hW, hF⟩ := hs9
    have hO := hW.2.1
    have hR1 := hW.2.2.1
    have hR2 := hW.2.2.2.1
    refine lv_iload_n hx hb dX2_digest_133 rfl (lv_at hl 0 rfl) ?_
    refine lv_aload_n hx hb dX2_digest_134 rfl (lv_at hl 2 rfl) ?_
    refine va_get (D := G.1) (ci := 6) (C := RX2) (T := TX2) (N := 8) hx hb hts inX2 hown hK (at_P hO) 0 rfl rfl 3 (by decide) (hts _ tw_1_140) (fun _ h9 => h9) rfl dX2_digest_135 ?_
    have hPB := hW.pcs.1
    have e61 := hPB.1
    refine kV_i (A := A) (b := (SA 3)) (As := []) (rest := .int (nI j) :: []) ⟨hx, hb, hml, hown, hts⟩ (mX1_size (A := A) (la := SA 35) (ea := SA 4) (es := es)) (cwV 0 hts (gV tw_2_82 tw_2_83 tw_2_84 tw_1_3 tw_2_85) rfl rfl rfl (by decide +kernel) ⟨Nat.le_of_ble_eq_true rfl, Nat.le_of_ble_eq_true rfl⟩) hC hS hA (hPB.recv hK) hPB rfl rfl hl.1 (Nat.le_of_ble_eq_true rfl) ⟨Nat.le_trans (show 5 ≤ 5 by omega) (Nat.le_of_ble_eq_true rfl), Nat.le_trans (show 30 ≤ 30 by omega) (Nat.le_of_ble_eq_true rfl)⟩ dX2_digest_138 (fun r9 h9 => lv_cv h9 ?_)
    refine b_ge (tgt := 173) hx hb dX2_digest_141 (by decide) (by omega) (by omega) (fun c_30 => ?_) (fun c_30 => ?_)
    · exact k173 ls H L x (lv_sub hl [1, 2] rfl) hS hSS
    · refine lv_lload_n hx hb dX2_digest_144 rfl (lv_at hl 1 rfl) ?_
      refine lv_aload_n hx hb dX2_digest_145 rfl (lv_at hl 2 rfl) ?_
      refine va_get (D := G.1) (ci := 6) (C := RX2) (T := TX2) (N := 8) hx hb hts inX2 hown hK (at_P hO) 0 rfl rfl 3 (by decide) (hts _ tw_1_140) (fun _ h9 => h9) rfl dX2_digest_146 ?_
      refine lv_iload_n hx hb dX2_digest_149 rfl (lv_at hl 0 rfl) ?_
      refine kV_i (A := A) (b := (SA 3)) (As := [.int (nI j)]) (rest := .long x :: []) ⟨hx, hb, hml, hown, hts⟩ (mX1_endOf (A := A) (la := SA 35) (ea := SA 4) (es := es) (k := j) (by omega)) (cwV 1 hts (gV tw_2_92 tw_2_79 tw_2_80 tw_1_3 tw_2_81) rfl rfl rfl (by decide +kernel) ⟨Nat.le_of_ble_eq_true rfl, Nat.le_of_ble_eq_true rfl⟩) hC hS hA (hPB.recv hK) hPB rfl rfl hl.1 (Nat.le_of_ble_eq_true rfl) ⟨Nat.le_trans (show 5 ≤ 5 by omega) (Nat.le_of_ble_eq_true rfl), Nat.le_trans (show 30 ≤ 30 by omega) (Nat.le_of_ble_eq_true rfl)⟩ dX2_digest_150 (fun r9 h9 => lv_cv h9 ?_)
      refine lv_aload_n hx hb dX2_digest_153 rfl (lv_at hl 2 rfl) ?_
      refine va_get (D := G.1) (ci := 6) (C := RX2) (T := TX2) (N := 8) hx hb hts inX2 hown hK (at_P hO) 0 rfl rfl 3 (by decide) (hts _ tw_1_140) (fun _ h9 => h9) rfl dX2_digest_154 ?_
      refine lv_iload_n hx hb dX2_digest_157 rfl (lv_at hl 0 rfl) ?_
      refine kV_i (A := A) (b := (SA 3)) (As := [.int (nI j)]) (rest := .int (nI (es.getD j 0)) :: .long x :: []) ⟨hx, hb, hml, hown, hts⟩ (mX1_beginOf (A := A) (la := SA 35) (ea := SA 4) (es := es) (k := j) (by omega)) (cwV 1 hts (gV tw_2_91 tw_2_75 tw_2_76 tw_1_3 tw_2_77) rfl rfl rfl (by decide +kernel) ⟨Nat.le_of_ble_eq_true rfl, Nat.le_of_ble_eq_true rfl⟩) hC hS hA (hPB.recv hK) hPB rfl rfl hl.1 (Nat.le_of_ble_eq_true rfl) ⟨Nat.le_trans (show 5 ≤ 5 by omega) (Nat.le_of_ble_eq_true rfl), Nat.le_trans (show 30 ≤ 30 by omega) (Nat.le_of_ble_eq_true rfl)⟩ dX2_digest_158 (fun r9 h9 => lv_cv h9 ?_)
      refine lv_isub hx hb dX2_digest_161 ?_
      refine lv_i2l hx hb dX2_digest_162 rfl ?_
      refine kS_l (A := A) (As := [.long x, .long ((nI (es.getD j 0) - nI (bgE es j)).toInt64)]) (rest := []) ⟨hx, hb, hml, hown, hts⟩ (mX2_summed (A := A) ) (va_cwS 2 hts (gS tw_2_200 tw_2_201 tw_1_1 tw_2_202) rfl rfl rfl (by decide +kernel) ⟨Nat.le_of_ble_eq_true rfl, Nat.le_of_ble_eq_true rfl⟩) hC hS hA trivial rfl rfl hl.1 (Nat.le_of_ble_eq_true rfl) ⟨Nat.le_trans (show 5 ≤ 5 by omega) (Nat.le_of_ble_eq_true rfl), Nat.le_trans (show 30 ≤ 30 by omega) (Nat.le_of_ble_eq_true rfl)⟩ dX2_digest_163 (fun y_31 _ => ?_)
      refine lv_lstore_n (lv' := [(1, .long y_31), (3, .int (nI j)), (0, .ref (SA 0))]) hx hb dX2_digest_166 rfl hl (by decide) rfl (fun ls hl => ?_)
      refine lv_iinc (v := nI (j + 1)) (lv' := [(3, .int (nI (j + 1))), (1, .long y_31), (0, .ref (SA 0))]) hx hb dX2_digest_167 hl (k := 1) rfl (nI_add j 1) (by decide) rfl (fun ls hl => ?_)
      refine lv_goto (tgt := 133) hx hb dX2_digest_170 (by decide) ?_
      exact ih (j + 1) (by omega) (by omega) ls H L y_31 (lv_sub hl [0, 1, 2] rfl) hS hSS
  have k98 : ∀ (ls : Array Slot) (H : Heap) (L : List Loc) (x : Int64), lv_has ls 5 [(1, .long x), (0, .ref (SA 0))] → va_S A s.heap H L → SS G SA X es k H → W p l e rmX2_digest s m [.ref (SA 0)].toArray below meth c H L 5 30 (vx_MQ below (qL A (fun _ H => SS G SA X es k H)) (xE A (fun _ _ => False)) [.ref (SA 0)].toArray s 5 30 A) (F0 m 98 ls []) := by
    clear hl hS hSS hW
    intro ls H L x hl hS hSS
    refine lv_iconst (v := nI 0) hx hb dX2_digest_98 (by decide) ?_
    refine lv_istore_n (lv' := [(3, .int (nI 0)), (1, .long x), (0, .ref (SA 0))]) hx hb dX2_digest_99 rfl hl (by decide) rfl (fun ls hl => ?_)
    refine nloop (P := fun j => ∀ (ls : Array Slot) (H : Heap) (L : List Loc) (x : Int64), lv_has ls 5 [(3, .int (nI j)), (1, .long x), (0, .ref (SA 0))] → va_S A s.heap H L → SS G SA X es k H → W p l e rmX2_digest s m [.ref (SA 0)].toArray below meth c H L 5 30 (vx_MQ below (qL A (fun _ H => SS G SA X es k H)) (xE A (fun _ _ => False)) [.ref (SA 0)].toArray s 5 30 A) (F0 m 100 ls [])) 61 ?_ 0 (Nat.zero_le _) ls H L x hl hS hSS
    clear hl
    intro j hj ih ls H L x hl
    clear hS hSS
    intro hS hSS
    have hs9 := hSS
    obtain ⟨T, es2, hW, hF⟩ := hs9
    have hO := hW.2.1
    have hR1 := hW.2.2.1
    have hR2 := hW.2.2.2.1
    refine lv_iload_n hx hb dX2_digest_100 rfl (lv_at hl 0 rfl) ?_
    refine lv_aload_n hx hb dX2_digest_101 rfl (lv_at hl 2 rfl) ?_
    refine va_get (D := G.1) (ci := 6) (C := RX2) (T := TX2) (N := 8) hx hb hts inX2 hown hK (at_P hO) 0 rfl rfl 2 (by decide) (hts _ tw_1_139) (fun _ h9 => h9) rfl dX2_digest_102 ?_
    have r60 := (hW.line (i := 11) (by omega)).1
    refine kV_i (A := A) (b := (SA 29)) (As := []) (rest := .int (nI j) :: []) ⟨hx, hb, hml, hown, hts⟩ (mX0_size (A := A) (ca := SA (8 + 2 * 11))) (cwV 0 hts (gV tw_2_30 tw_2_12 tw_2_13 tw_1_2 tw_2_14) rfl rfl rfl (by decide +kernel) ⟨Nat.le_of_ble_eq_true rfl, Nat.le_of_ble_eq_true rfl⟩) hC hS hA ((hW.line (i := 11) (by omega)).recv hK) (hW.line (i := 11) (by omega)) rfl rfl hl.1 (Nat.le_of_ble_eq_true rfl) ⟨Nat.le_trans (show 5 ≤ 5 by omega) (Nat.le_of_ble_eq_true rfl), Nat.le_trans (show 30 ≤ 30 by omega) (Nat.le_of_ble_eq_true rfl)⟩ dX2_digest_105 (fun r9 h9 => lv_cv h9 ?_)
    refine b_ge (tgt := 131) hx hb dX2_digest_108 (by decide) (by omega) (by omega) (fun c_32 => ?_) (fun c_32 => ?_)
    · exact k131 ls H L x (lv_sub hl [1, 2] rfl) hS hSS
    · refine lv_lload_n hx hb dX2_digest_111 rfl (lv_at hl 1 rfl) ?_
      refine lv_aload_n hx hb dX2_digest_112 rfl (lv_at hl 2 rfl) ?_
      refine va_get (D := G.1) (ci := 6) (C := RX2) (T := TX2) (N := 8) hx hb hts inX2 hown hK (at_P hO) 0 rfl rfl 2 (by decide) (hts _ tw_1_139) (fun _ h9 => h9) rfl dX2_digest_113 ?_
      refine lv_iload_n hx hb dX2_digest_116 rfl (lv_at hl 0 rfl) ?_
      refine kV_i (A := A) (b := (SA 29)) (As := [.int (nI j)]) (rest := .long x :: []) ⟨hx, hb, hml, hown, hts⟩ (mX0_codeAt (A := A) (ca := SA (8 + 2 * 11)) (i := j) (by omega)) (cwV 1 hts (gV tw_2_93 tw_2_20 tw_2_21 tw_1_2 tw_2_22) rfl rfl rfl (by decide +kernel) ⟨Nat.le_of_ble_eq_true rfl, Nat.le_of_ble_eq_true rfl⟩) hC hS hA ((hW.line (i := 11) (by omega)).recv hK) (hW.line (i := 11) (by omega)) rfl rfl hl.1 (Nat.le_of_ble_eq_true rfl) ⟨Nat.le_trans (show 5 ≤ 5 by omega) (Nat.le_of_ble_eq_true rfl), Nat.le_trans (show 30 ≤ 30 by omega) (Nat.le_of_ble_eq_true rfl)⟩ dX2_digest_117 (fun r9 h9 => lv_cv h9 ?_)
      refine lv_i2l hx hb dX2_digest_120 rfl ?_
      refine kS_l (A := A) (As := [.long x, .long ((nI ((T 11).getD j 0)).toInt64)]) (rest := []) ⟨hx, hb, hml, hown, hts⟩ (mX2_summed (A := A) ) (va_cwS 2 hts (gS tw_2_200 tw_2_201 tw_1_1 tw_2_202) rfl rfl rfl (by decide +kernel) ⟨Nat.le_of_ble_eq_true rfl, Nat.le_of_ble_eq_true rfl⟩) hC hS hA trivial rfl rfl hl.1 (Nat.le_of_ble_eq_true rfl) ⟨Nat.le_trans (show 5 ≤ 5 by omega) (Nat.le_of_ble_eq_true rfl), Nat.le_trans (show 30 ≤ 30 by omega) (Nat.le_of_ble_eq_true rfl)⟩ dX2_digest_121 (fun y_33 _ => ?_)
      refine lv_lstore_n (lv' := [(1, .long y_33), (3, .int (nI j)), (0, .ref (SA 0))]) hx hb dX2_digest_124 rfl hl (by decide) rfl (fun ls hl => ?_)
      refine lv_iinc (v := nI (j + 1)) (lv' := [(3, .int (nI (j + 1))), (1, .long y_33), (0, .ref (SA 0))]) hx hb dX2_digest_125 hl (k := 1) rfl (nI_add j 1) (by decide) rfl (fun ls hl => ?_)
      refine lv_goto (tgt := 100) hx hb dX2_digest_128 (by decide) ?_
      exact ih (j + 1) (by omega) (by omega) ls H L y_33 (lv_sub hl [0, 1, 2] rfl) hS hSS
  have k52 : ∀ (ls : Array Slot) (H : Heap) (L : List Loc) (x : Int64), lv_has ls 5 [(1, .long x), (0, .ref (SA 0))] → va_S A s.heap H L → SS G SA X es k H → W p l e rmX2_digest s m [.ref (SA 0)].toArray below meth c H L 5 30 (vx_MQ below (qL A (fun _ H => SS G SA X es k H)) (xE A (fun _ _ => False)) [.ref (SA 0)].toArray s 5 30 A) (F0 m 52 ls []) := by
    clear hl hS hSS hW
    intro ls H L x hl hS hSS
    refine lv_iconst (v := nI 0) hx hb dX2_digest_52 (by decide) ?_
    refine lv_istore_n (lv' := [(3, .int (nI 0)), (1, .long x), (0, .ref (SA 0))]) hx hb dX2_digest_53 rfl hl (by decide) rfl (fun ls hl => ?_)
    refine nloop (P := fun j => ∀ (ls : Array Slot) (H : Heap) (L : List Loc) (x : Int64), lv_has ls 5 [(3, .int (nI j)), (1, .long x), (0, .ref (SA 0))] → va_S A s.heap H L → SS G SA X es k H → W p l e rmX2_digest s m [.ref (SA 0)].toArray below meth c H L 5 30 (vx_MQ below (qL A (fun _ H => SS G SA X es k H)) (xE A (fun _ _ => False)) [.ref (SA 0)].toArray s 5 30 A) (F0 m 54 ls [])) 4 ?_ 0 (Nat.zero_le _) ls H L x hl hS hSS
    clear hl
    intro j hj ih ls H L x hl
    clear hS hSS
    intro hS hSS
    have hs9 := hSS
    obtain ⟨T, es2, hW, hF⟩ := hs9
    have hO := hW.2.1
    have hR1 := hW.2.2.1
    have hR2 := hW.2.2.2.1
    refine lv_iload_n hx hb dX2_digest_54 rfl (lv_at hl 0 rfl) ?_
    refine lv_iconst (v := nI 4) hx hb dX2_digest_55 (by decide) ?_
    refine b_ge (tgt := 98) hx hb dX2_digest_56 (by decide) (by omega) (by omega) (fun c_34 => ?_) (fun c_34 => ?_)
    · exact k98 ls H L x (lv_sub hl [1, 2] rfl) hS hSS
    · refine lv_iconst (v := nI 0) hx hb dX2_digest_59 (by decide) ?_
      refine lv_istore (lv' := [(4, .int (nI 0)), (3, .int (nI j)), (1, .long x), (0, .ref (SA 0))]) hx hb dX2_digest_60 hl (by decide) rfl (fun ls hl => ?_)
      have ih1 := ih
      refine nloop (P := fun q => ∀ (ls : Array Slot) (x : Int64), lv_has ls 5 [(4, .int (nI q)), (3, .int (nI j)), (1, .long x), (0, .ref (SA 0))] → W p l e rmX2_digest s m [.ref (SA 0)].toArray below meth c H L 5 30 (vx_MQ below (qL A (fun _ H => SS G SA X es k H)) (xE A (fun _ _ => False)) [.ref (SA 0)].toArray s 5 30 A) (F0 m 62 ls [])) 4 ?_ 0 (Nat.zero_le _) ls x hl 
      clear hl
      intro q hq ih ls x hl
      refine lv_iload hx hb dX2_digest_62 (lv_at hl 0 rfl) ?_
      refine lv_iconst (v := nI 4) hx hb dX2_digest_64 (by decide) ?_
      refine b_ge (tgt := 92) hx hb dX2_digest_65 (by decide) (by omega) (by omega) (fun c_35 => ?_) (fun c_35 => ?_)
      · refine lv_iinc (v := nI (j + 1)) (lv' := [(3, .int (nI (j + 1))), (4, .int (nI q)), (1, .long x), (0, .ref (SA 0))]) hx hb dX2_digest_92 hl (k := 1) rfl (nI_add j 1) (by decide) rfl (fun ls hl => ?_)
        refine lv_goto (tgt := 54) hx hb dX2_digest_95 (by decide) ?_
        exact ih1 (j + 1) (by omega) (by omega) ls H L x (lv_sub hl [0, 2, 3] rfl) hS hSS
      · refine lv_lload_n hx hb dX2_digest_68 rfl (lv_at hl 2 rfl) ?_
        refine lv_aload_n hx hb dX2_digest_69 rfl (lv_at hl 3 rfl) ?_
        refine va_get (D := G.1) (ci := 6) (C := RX2) (T := TX2) (N := 8) hx hb hts inX2 hown hK (at_P hO) 0 rfl rfl 0 (by decide) (hts _ tw_1_137) (fun _ h9 => h9) rfl dX2_digest_70 ?_
        refine lv_iload_n hx hb dX2_digest_73 rfl (lv_at hl 1 rfl) ?_
        refine va_aldq (D := G.1) hx hb hK (at_P hR1) 0 3 rfl rfl (vp_in_nI (n := j) (N := 4) (by omega) (by omega)) dX2_digest_74 ?_
        refine v_cv (show va_rf _ = .ref (SA (7 + 2 * j)) from by rw [nI_clamp (n := j) (by omega)]; rfl) ?_
        refine lv_aload_n hx hb dX2_digest_75 rfl (lv_at hl 3 rfl) ?_
        refine va_get (D := G.1) (ci := 6) (C := RX2) (T := TX2) (N := 8) hx hb hts inX2 hown hK (at_P hO) 0 rfl rfl 0 (by decide) (hts _ tw_1_137) (fun _ h9 => h9) rfl dX2_digest_76 ?_
        refine lv_iload hx hb dX2_digest_79 (lv_at hl 0 rfl) ?_
        refine va_aldq (D := G.1) hx hb hK (at_P hR1) 0 3 rfl rfl (vp_in_nI (n := q) (N := 4) (by omega) (by omega)) dX2_digest_81 ?_
        refine v_cv (show va_rf _ = .ref (SA (7 + 2 * q)) from by rw [nI_clamp (n := q) (by omega)]; rfl) ?_
        refine kS_l (A := A) (As := [.long x, .ref (SA (7 + 2 * j)), .ref (SA (7 + 2 * q))]) (rest := []) ⟨hx, hb, hml, hown, hts⟩ (mX2_summedPair (A := A) (ca := SA (8 + 2 * j)) (cb := SA (8 + 2 * q))) (va_cwS 3 hts (gS tw_2_211 tw_2_212 tw_1_1 tw_2_213) rfl rfl rfl (by decide +kernel) ⟨Nat.le_of_ble_eq_true rfl, Nat.le_of_ble_eq_true rfl⟩) hC hS hA ⟨(hW.line (i := j) (by omega)), (hW.line (i := q) (by omega))⟩ rfl rfl hl.1 (Nat.le_of_ble_eq_true rfl) ⟨Nat.le_trans (show 5 ≤ 5 by omega) (Nat.le_of_ble_eq_true rfl), Nat.le_trans (show 30 ≤ 30 by omega) (Nat.le_of_ble_eq_true rfl)⟩ dX2_digest_82 (fun y_36 _ => ?_)
        refine lv_lstore_n (lv' := [(1, .long y_36), (4, .int (nI q)), (3, .int (nI j)), (0, .ref (SA 0))]) hx hb dX2_digest_85 rfl hl (by decide) rfl (fun ls hl => ?_)
        refine lv_iinc (v := nI (q + 1)) (lv' := [(4, .int (nI (q + 1))), (1, .long y_36), (3, .int (nI j)), (0, .ref (SA 0))]) hx hb dX2_digest_86 hl (k := 1) rfl (nI_add q 1) (by decide) rfl (fun ls hl => ?_)
        refine lv_goto (tgt := 62) hx hb dX2_digest_89 (by decide) ?_
        exact ih (q + 1) (by omega) (by omega) ls y_36 (lv_sub hl [0, 2, 1, 3] rfl)
  have k28 : ∀ (ls : Array Slot) (H : Heap) (L : List Loc) (x : Int64), lv_has ls 5 [(1, .long x), (0, .ref (SA 0))] → va_S A s.heap H L → SS G SA X es k H → W p l e rmX2_digest s m [.ref (SA 0)].toArray below meth c H L 5 30 (vx_MQ below (qL A (fun _ H => SS G SA X es k H)) (xE A (fun _ _ => False)) [.ref (SA 0)].toArray s 5 30 A) (F0 m 28 ls []) := by
    clear hl hS hSS hW
    intro ls H L x hl hS hSS
    refine lv_iconst (v := nI 0) hx hb dX2_digest_28 (by decide) ?_
    refine lv_istore_n (lv' := [(3, .int (nI 0)), (1, .long x), (0, .ref (SA 0))]) hx hb dX2_digest_29 rfl hl (by decide) rfl (fun ls hl => ?_)
    refine nloop (P := fun j => ∀ (ls : Array Slot) (H : Heap) (L : List Loc) (x : Int64), lv_has ls 5 [(3, .int (nI j)), (1, .long x), (0, .ref (SA 0))] → va_S A s.heap H L → SS G SA X es k H → W p l e rmX2_digest s m [.ref (SA 0)].toArray below meth c H L 5 30 (vx_MQ below (qL A (fun _ H => SS G SA X es k H)) (xE A (fun _ _ => False)) [.ref (SA 0)].toArray s 5 30 A) (F0 m 30 ls [])) 4 ?_ 0 (Nat.zero_le _) ls H L x hl hS hSS
    clear hl
    intro j hj ih ls H L x hl
    clear hS hSS
    intro hS hSS
    have hs9 := hSS
    obtain ⟨T, es2, hW, hF⟩ := hs9
    have hO := hW.2.1
    have hR1 := hW.2.2.1
    have hR2 := hW.2.2.2.1
    refine lv_iload_n hx hb dX2_digest_30 rfl (lv_at hl 0 rfl) ?_
    refine lv_iconst (v := nI 4) hx hb dX2_digest_31 (by decide) ?_
    refine b_ge (tgt := 52) hx hb dX2_digest_32 (by decide) (by omega) (by omega) (fun c_37 => ?_) (fun c_37 => ?_)
    · exact k52 ls H L x (lv_sub hl [1, 2] rfl) hS hSS
    · refine lv_lload_n hx hb dX2_digest_35 rfl (lv_at hl 1 rfl) ?_
      refine lv_aload_n hx hb dX2_digest_36 rfl (lv_at hl 2 rfl) ?_
      refine va_get (D := G.1) (ci := 6) (C := RX2) (T := TX2) (N := 8) hx hb hts inX2 hown hK (at_P hO) 0 rfl rfl 0 (by decide) (hts _ tw_1_137) (fun _ h9 => h9) rfl dX2_digest_37 ?_
      refine lv_iload_n hx hb dX2_digest_40 rfl (lv_at hl 0 rfl) ?_
      refine va_aldq (D := G.1) hx hb hK (at_P hR1) 0 3 rfl rfl (vp_in_nI (n := j) (N := 4) (by omega) (by omega)) dX2_digest_41 ?_
      refine v_cv (show va_rf _ = .ref (SA (7 + 2 * j)) from by rw [nI_clamp (n := j) (by omega)]; rfl) ?_
      refine kS_l (A := A) (As := [.long x, .ref (SA (7 + 2 * j))]) (rest := []) ⟨hx, hb, hml, hown, hts⟩ (mX2_summedText (A := A) (ca := SA (8 + 2 * j))) (va_cwS 2 hts (gS tw_2_204 tw_2_205 tw_1_1 tw_2_206) rfl rfl rfl (by decide +kernel) ⟨Nat.le_of_ble_eq_true rfl, Nat.le_of_ble_eq_true rfl⟩) hC hS hA (hW.line (i := j) (by omega)) rfl rfl hl.1 (Nat.le_of_ble_eq_true rfl) ⟨Nat.le_trans (show 5 ≤ 5 by omega) (Nat.le_of_ble_eq_true rfl), Nat.le_trans (show 30 ≤ 30 by omega) (Nat.le_of_ble_eq_true rfl)⟩ dX2_digest_42 (fun y_38 _ => ?_)
      refine lv_lstore_n (lv' := [(1, .long y_38), (3, .int (nI j)), (0, .ref (SA 0))]) hx hb dX2_digest_45 rfl hl (by decide) rfl (fun ls hl => ?_)
      refine lv_iinc (v := nI (j + 1)) (lv' := [(3, .int (nI (j + 1))), (1, .long y_38), (0, .ref (SA 0))]) hx hb dX2_digest_46 hl (k := 1) rfl (nI_add j 1) (by decide) rfl (fun ls hl => ?_)
      refine lv_goto (tgt := 30) hx hb dX2_digest_49 (by decide) ?_
      exact ih (j + 1) (by omega) (by omega) ls H L y_38 (lv_sub hl [0, 1, 2] rfl) hS hSS
  have hl : lv_has ls 5 [(3, .int (nI 0)), (1, .long 6173), (0, .ref (SA 0))] := hl
  refine W.widen (k := 0 * 1) (n := 0 * 6) (by decide) (by decide) ?_
  refine nloop (P := fun j => ∀ (ls : Array Slot) (H : Heap) (L : List Loc) (x : Int64), lv_has ls 5 [(3, .int (nI j)), (1, .long x), (0, .ref (SA 0))] → va_S A s.heap H L → SS G SA X es k H → W p l e rmX2_digest s m [.ref (SA 0)].toArray below meth c H L (j * 1) (j * 6) (vx_MQ below (qL A (fun _ H => SS G SA X es k H)) (xE A (fun _ _ => False)) [.ref (SA 0)].toArray s 5 30 A) (F0 m 6 ls [])) 5 ?_ 0 (Nat.zero_le _) ls s.heap [] 6173 hl hS hSS
  clear hl
  intro j hj ih ls H L x hl
  clear hS hSS hW
  intro hS hSS
  have hs9 := hSS
  obtain ⟨T, es2, hW, hF⟩ := hs9
  have hO := hW.2.1
  have hR1 := hW.2.2.1
  have hR2 := hW.2.2.2.1
  refine lv_iload_n hx hb dX2_digest_6 rfl (lv_at hl 0 rfl) ?_
  refine lv_iconst (v := nI 4) hx hb dX2_digest_7 (by decide) ?_
  refine b_gt (tgt := 28) hx hb dX2_digest_8 (by decide) (by omega) (by omega) (fun c_39 => ?_) (fun c_39 => ?_)
  · refine W.widen (k := 5) (n := 30) (by omega) (by omega) ?_
    exact k28 ls H L x (lv_sub hl [1, 2] rfl) hS hSS
  · refine lv_lload_n hx hb dX2_digest_11 rfl (lv_at hl 1 rfl) ?_
    refine lv_aload_n hx hb dX2_digest_12 rfl (lv_at hl 2 rfl) ?_
    refine lv_iload_n hx hb dX2_digest_13 rfl (lv_at hl 0 rfl) ?_
    refine xI_V (A := A) (A1 := A) (b := (SA 0)) (As := [.int (nI j)]) (rest := .long x :: []) ⟨hx, hb, hml, hown, hts⟩ (mX2_house (A := A) hst hAS) (cwV 1 hts (gV tw_2_124 tw_2_125 tw_2_126 tw_1_1 tw_2_127) rfl rfl rfl (by decide +kernel) ⟨Nat.le_of_ble_eq_true rfl, Nat.le_of_ble_eq_true rfl⟩) hC hS (fun _ h => h) (fun q h => hA q (Nat.le_trans hS.1 h)) (hW.recv hK) hSS rfl rfl hl.1 (Nat.le_of_ble_eq_true rfl) ⟨Nat.le_trans (show (j * 1) + 1 ≤ 5 by omega) (Nat.le_of_ble_eq_true rfl), Nat.le_trans (show (j * 6) + 6 ≤ 30 by omega) (Nat.le_of_ble_eq_true rfl)⟩ dX2_digest_14 hnx hlocks (by omega) (by omega) (fun E H9 q _ => q.1.2 ⟨j, by omega, rfl⟩) (fun rv40 H40 L40 hP40 hk40 hS => ?_)
    have hZ40 := hS.1
    obtain ⟨w9, -, -, -, hSS⟩ := hP40
    refine lv_i2l hx hb dX2_digest_17 rfl ?_
    refine kS_l (A := A) (As := [.long x, .long rv40.toInt64]) (rest := []) ⟨hx, hb, hml, hown, hts⟩ (mX2_summed (A := A) ) (va_cwS 2 hts (gS tw_2_200 tw_2_201 tw_1_1 tw_2_202) rfl rfl rfl (by decide +kernel) ⟨Nat.le_of_ble_eq_true rfl, Nat.le_of_ble_eq_true rfl⟩) hC hS hA trivial rfl rfl hl.1 (Nat.le_of_ble_eq_true rfl) ⟨Nat.le_trans (show ((j * 1) + 1) ≤ 5 by omega) (Nat.le_of_ble_eq_true rfl), Nat.le_trans (show ((j * 6) + 6) ≤ 30 by omega) (Nat.le_of_ble_eq_true rfl)⟩ dX2_digest_18 (fun y_41 _ => ?_)
    refine lv_lstore_n (lv' := [(1, .long y_41), (3, .int (nI j)), (0, .ref (SA 0))]) hx hb dX2_digest_21 rfl hl (by decide) rfl (fun ls hl => ?_)
    refine lv_iinc (v := nI (j + 1)) (lv' := [(3, .int (nI (j + 1))), (1, .long y_41), (0, .ref (SA 0))]) hx hb dX2_digest_22 hl (k := 1) rfl (nI_add j 1) (by decide) rfl (fun ls hl => ?_)
    refine lv_goto (tgt := 6) hx hb dX2_digest_25 (by decide) ?_
    refine W.widen (k := (j + 1) * 1) (n := (j + 1) * 6) (by omega) (by omega) ?_
    exact ih (j + 1) (by omega) (by omega) ls H40 L40 y_41 (lv_sub hl [0, 1, 2] rfl) hS hSS
end
/-! 31.refs -/
section
/-! OWN LAYER, 8: arrays of references by single cells -/
section REFS
variable {p : Program} {l : Launch} {e : Env} {R : Room} {s : State} {m : MethodId} {args : Array Value} {below : List Frame} {meth : Method} {c : Code} {H : Heap} {locs : List Loc} {cells slots : Nat} {Q : State → Prop}
variable {cc : ByteArray} {pc : Nat} {ls : Array Slot} {rest : List Value} {D : va_G} {cl : List vw_C} {A : Nat → Prop} {a : Nat} {tys : List (ClassId × FieldType)} {H0 : Heap}
theorem h_aast (hexec : p.tables.exec = Jvm.exec) (hb : c.code = cc) (hK : va_K D cl tys s) (t0 ci : Nat) {cA : ClassId} {r : vw_C} {n v : Nat} {vs : List Value} {f : Nat → Option Nat} (h : va_at D cl (a, .inl (cA, n, .inr (.inr (.inr (.inr f))))) H) (ht : tys[t0]? = some (cA, .object r.1)) (hv : va_at D cl (v, .inr (ci, vs)) H) (hc : cl[ci]? = some r) (hS : va_S A H0 H locs) (ha : A a) {i : Int32} (hin : vp_in i n) (hdg : decode cc pc = .ok (.aastore, 1))
    (kk : ∀ (H1 : Heap) (locs1 : List Loc), va_at D cl (a, .inl (cA, n, .inr (.inr (.inr (.inr (va_up f i.toNatClampNeg (some v))))))) H1 → H1.size = H.size → (∀ q : Nat, q ≠ a → H1[q]? = H[q]?) → va_S A H0 H1 locs1 → W p l e R s m args below meth c H1 locs1 cells slots Q (F0 m (pc + 1) ls rest)) : W p l e R s m args below meth c H locs cells slots Q (F0 m pc ls (.ref v :: .int i :: .ref a :: rest)) := by
  have hlt : i.toNatClampNeg < n := Nat.not_le.mp fun q => hin (Or.inr q)
  have h0 : ¬ i < 0 := fun q => hin (Or.inl q)
  obtain ⟨r', hr', cellV, g1, g2, g3, -⟩ := hv
  have hcls := (hK.1 ci r hc).2
  obtain ⟨kA, comp, k1, k2, k3, -⟩ := (hK.2 t0 _ ht).2
  have hcomp : comp = D.1 ci := Option.some.inj (k3.symm.trans hcls.1)
  subst hcomp
  obtain ⟨kC, hkC, -⟩ := hcls.2
  refine W.aast hexec hb h (fun q h => by cases h) (fun h => by cases h) k1 k2 rfl hkC ⟨h0, by show _ < (arrV _ _ _).slots.size; rw [arrV_size]; exact hlt⟩ g1 (fun q h => by rw [g3] at h; cases h) (by rw [g2]; exact hkC) (by rw [g2]; exact va_assign hcls) rfl rfl hdg fun H1 e z oq => ?_
  refine kk H1 _ ?_ z oq (hS.put z oq ha)
  show H1[a]? = some (vp_cell _ _)
  rw [e]
  rw [vp_cell_q, vp_cell_q, arrV_store]
  congr 2
  funext q
  by_cases hq : q = i.toNatClampNeg
  · subst hq
    simp [updV, va_up, va_rf]
  · simp [updV, va_up, hq]
theorem h_newq {own C : String} {index : Nat} {cK : ClassId} {N' : Nat} {n : Int32} (hexec : p.tables.exec = Jvm.exec) (hb : c.code = cc) (hown : s.vm.findClass own = some m.cls) (hclink : (Cond.classLink own index C).before args s = true) (hover : va_AO C s) (hK : va_K D cl tys s) (t0 : Nat) (ht : tys[t0]? = some (cK, .object C)) (hS : va_S A H0 H locs)
    (hn : ¬ n < 0) (hN : n.toNatClampNeg = N') (hbytes : N' * 4 ≤ 536870912) (hcells : cells + 1 ≤ R.cells) (hslots : slots + N' ≤ R.slots) (hdg : decode cc pc = .ok (.anewarray index, 3))
    (kk : ∀ (q : Nat) (H1 : Heap), q = H.size → va_at D cl (q, .inl (cK, N', .inr (.inr (.inr (.inr (fun _ => none)))))) H1 → H1.size = H.size + 1 → (∀ q : Nat, q < H.size → H1[q]? = H[q]?) → va_S A H0 H1 locs → W p l e R s m args below meth c H1 locs (cells + 1) (slots + N') Q (F0 m (pc + 3) ls (.ref q :: rest))) : W p l e R s m args below meth c H locs cells slots Q (F0 m pc ls (.int n :: rest)) := by
  subst hN
  refine W.anew hexec hb hown hclink (va_AO.use hover) rfl hdg rfl hn hbytes hcells hslots fun cA kA comp f1 f2 f3 f4 => ?_
  obtain ⟨kA', comp', g1, g2, g3, g4⟩ := (hK.2 t0 _ ht).2
  have hcA : cA = cK := Option.some.inj (f1.symm.trans g4)
  subst hcA
  generalize hH1 : H.push ({ cls := cA, slots := Array.replicate n.toNatClampNeg .null, vm := .none } : Cell) = H1
  have z1 : H1.size = H.size + 1 := by rw [← hH1, Array.size_push]
  have e1 : H1[H.size]? = some (arrV cA n.toNatClampNeg (fun _ => .null)) := by rw [← hH1, Array.getElem?_push_size, ← arrV_new]
  have o1 : ∀ q : Nat, q < H.size → H1[q]? = H[q]? := fun q hq => by rw [← hH1, Array.getElem?_push, if_neg (Nat.ne_of_lt hq)]
  refine kk H.size H1 rfl ?_ z1 o1 ⟨Nat.le_trans hS.1 (by omega), fun x h1 h2 => (o1 x (Nat.lt_of_lt_of_le h1 hS.1)).trans (hS.2.1 x h1 h2), hS.2.2⟩
  show H1[H.size]? = some (vp_cell _ _)
  rw [e1]
  rfl
theorem at_fun {cA : ClassId} {n : Nat} {f g : Nat → Option Nat} (h : va_at D cl (a, .inl (cA, n, .inr (.inr (.inr (.inr f))))) H) (hfg : ∀ j : Nat, j < n → f j = g j) : va_at D cl (a, .inl (cA, n, .inr (.inr (.inr (.inr g))))) H := by
  have h1 : H[a]? = some (arrV cA n (fun j => va_rf (f j))) := h
  show H[a]? = some (arrV cA n (fun j => va_rf (g j)))
  rw [h1]
  unfold arrV
  congr 2
  congr 1
  funext j
  show va_rf (f j.1) = va_rf (g j.1)
  rw [hfg j.1 j.2]
end REFS
end
