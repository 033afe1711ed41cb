/-! The class, 6: more calls that ask -/
def sumL (T : Nat → List Nat) : Nat → Nat
  | 0 => 0
  | j + 1 => sumL T j + (T j).length
theorem sumL_eq {T X : Nat → List Nat} {n : Nat} (h : ∀ i : Nat, i < n → T i = X i) : sumL T n = sumL X n := by
  induction n with
  | zero => rfl
  | succ n ih => show sumL T n + (T n).length = sumL X n + (X n).length; rw [ih (fun i hi => h i (by omega)), h n (Nat.lt_succ_self n)]
def cntE (T : Nat → List Nat) : Nat → Nat
  | 0 => 0
  | j + 1 => if (T j).length = 0 then cntE T j + 1 else cntE T j
theorem cntE_eq {T X : Nat → List Nat} {n : Nat} (h : ∀ i : Nat, i < n → T i = X i) : cntE T n = cntE X n := by
  induction n with
  | zero => rfl
  | succ n ih => show (if (T n).length = 0 then cntE T n + 1 else cntE T n) = if (X n).length = 0 then cntE X n + 1 else cntE X n; rw [ih (fun i hi => h i (by omega)), h n (Nat.lt_succ_self n)]
def hsV (X : Nat → List Nat) (es : List Nat) (k : Int32) : Nat → Int32
  | 0 => nI (X 11).length
  | 1 => nI es.length
  | 2 => nI (sumL X 4)
  | 3 => nI (cntE X 4)
  | _ => k
theorem dX2_text_0 : decode cX2_text 0 = .ok (.aload_n 0, 1) := by decide +kernel
theorem dX2_text_1 : decode cX2_text 1 = .ok (.iload_n 1, 1) := by decide +kernel
theorem dX2_text_2 : decode cX2_text 2 = .ok (.invokevirtual 51, 3) := by decide +kernel
theorem dX2_text_5 : decode cX2_text 5 = .ok (.invokevirtual 146, 3) := by decide +kernel
theorem dX2_text_8 : decode cX2_text 8 = .ok (.areturn, 1) := by decide +kernel
theorem dX2_row_0 : decode cX2_row 0 = .ok (.aload_n 0, 1) := by decide +kernel
theorem dX2_row_1 : decode cX2_row 1 = .ok (.getfield 19, 3) := by decide +kernel
theorem dX2_row_4 : decode cX2_row 4 = .ok (.invokevirtual 146, 3) := by decide +kernel
theorem dX2_row_7 : decode cX2_row 7 = .ok (.areturn, 1) := by decide +kernel
theorem dX2_piece_0 : decode cX2_piece 0 = .ok (.aload_n 0, 1) := by decide +kernel
theorem dX2_piece_1 : decode cX2_piece 1 = .ok (.iload_n 1, 1) := by decide +kernel
theorem dX2_piece_2 : decode cX2_piece 2 = .ok (.invokevirtual 139, 3) := by decide +kernel
theorem dX2_piece_5 : decode cX2_piece 5 = .ok (.aload_n 0, 1) := by decide +kernel
theorem dX2_piece_6 : decode cX2_piece 6 = .ok (.iload_n 1, 1) := by decide +kernel
theorem dX2_piece_7 : decode cX2_piece 7 = .ok (.aload_n 0, 1) := by decide +kernel
theorem dX2_piece_8 : decode cX2_piece 8 = .ok (.getfield 34, 3) := by decide +kernel
theorem dX2_piece_11 : decode cX2_piece 11 = .ok (.invokevirtual 142, 3) := by decide +kernel
theorem dX2_piece_14 : decode cX2_piece 14 = .ok (.pop, 1) := by decide +kernel
theorem dX2_piece_15 : decode cX2_piece 15 = .ok (.aload_n 0, 1) := by decide +kernel
theorem dX2_piece_16 : decode cX2_piece 16 = .ok (.getfield 34, 3) := by decide +kernel
theorem dX2_piece_19 : decode cX2_piece 19 = .ok (.invokevirtual 146, 3) := by decide +kernel
theorem dX2_piece_22 : decode cX2_piece 22 = .ok (.areturn, 1) := by decide +kernel
theorem dX2_isPiece_0 : decode cX2_isPiece 0 = .ok (.aload_n 0, 1) := by decide +kernel
theorem dX2_isPiece_1 : decode cX2_isPiece 1 = .ok (.iload_n 1, 1) := by decide +kernel
theorem dX2_isPiece_2 : decode cX2_isPiece 2 = .ok (.invokevirtual 139, 3) := by decide +kernel
theorem dX2_isPiece_5 : decode cX2_isPiece 5 = .ok (.aload_n 0, 1) := by decide +kernel
theorem dX2_isPiece_6 : decode cX2_isPiece 6 = .ok (.iload_n 2, 1) := by decide +kernel
theorem dX2_isPiece_7 : decode cX2_isPiece 7 = .ok (.invokevirtual 51, 3) := by decide +kernel
theorem dX2_isPiece_10 : decode cX2_isPiece 10 = .ok (.astore_n 3, 1) := by decide +kernel
theorem dX2_isPiece_11 : decode cX2_isPiece 11 = .ok (.aload_n 0, 1) := by decide +kernel
theorem dX2_isPiece_12 : decode cX2_isPiece 12 = .ok (.iload_n 1, 1) := by decide +kernel
theorem dX2_isPiece_13 : decode cX2_isPiece 13 = .ok (.aload_n 0, 1) := by decide +kernel
theorem dX2_isPiece_14 : decode cX2_isPiece 14 = .ok (.getfield 34, 3) := by decide +kernel
theorem dX2_isPiece_17 : decode cX2_isPiece 17 = .ok (.invokevirtual 142, 3) := by decide +kernel
theorem dX2_isPiece_20 : decode cX2_isPiece 20 = .ok (.pop, 1) := by decide +kernel
theorem dX2_isPiece_21 : decode cX2_isPiece 21 = .ok (.aload_n 0, 1) := by decide +kernel
theorem dX2_isPiece_22 : decode cX2_isPiece 22 = .ok (.getfield 34, 3) := by decide +kernel
theorem dX2_isPiece_25 : decode cX2_isPiece 25 = .ok (.aload_n 3, 1) := by decide +kernel
theorem dX2_isPiece_26 : decode cX2_isPiece 26 = .ok (.iconst 0, 1) := by decide +kernel
theorem dX2_isPiece_27 : decode cX2_isPiece 27 = .ok (.invokevirtual 179, 3) := by decide +kernel
theorem dX2_isPiece_30 : decode cX2_isPiece 30 = .ok (.ireturn, 1) := by decide +kernel
theorem dX2_house_0 : decode cX2_house 0 = .ok (.iload_n 1, 1) := by decide +kernel
theorem dX2_house_1 : decode cX2_house 1 = .ok (.tableswitch 66 0 4 #[35, 43, 51, 56, 61], 35) := by decide +kernel
theorem dX2_house_36 : decode cX2_house 36 = .ok (.aload_n 0, 1) := by decide +kernel
theorem dX2_house_37 : decode cX2_house 37 = .ok (.getfield 19, 3) := by decide +kernel
theorem dX2_house_40 : decode cX2_house 40 = .ok (.invokevirtual 66, 3) := by decide +kernel
theorem dX2_house_43 : decode cX2_house 43 = .ok (.ireturn, 1) := by decide +kernel
theorem dX2_house_44 : decode cX2_house 44 = .ok (.aload_n 0, 1) := by decide +kernel
theorem dX2_house_45 : decode cX2_house 45 = .ok (.getfield 26, 3) := by decide +kernel
theorem dX2_house_48 : decode cX2_house 48 = .ok (.invokevirtual 138, 3) := by decide +kernel
theorem dX2_house_51 : decode cX2_house 51 = .ok (.ireturn, 1) := by decide +kernel
theorem dX2_house_52 : decode cX2_house 52 = .ok (.aload_n 0, 1) := by decide +kernel
theorem dX2_house_53 : decode cX2_house 53 = .ok (.invokevirtual 189, 3) := by decide +kernel
theorem dX2_house_56 : decode cX2_house 56 = .ok (.ireturn, 1) := by decide +kernel
theorem dX2_house_57 : decode cX2_house 57 = .ok (.aload_n 0, 1) := by decide +kernel
theorem dX2_house_58 : decode cX2_house 58 = .ok (.invokevirtual 192, 3) := by decide +kernel
theorem dX2_house_61 : decode cX2_house 61 = .ok (.ireturn, 1) := by decide +kernel
theorem dX2_house_62 : decode cX2_house 62 = .ok (.aload_n 0, 1) := by decide +kernel
theorem dX2_house_63 : decode cX2_house 63 = .ok (.getfield 30, 3) := by decide +kernel
theorem dX2_house_66 : decode cX2_house 66 = .ok (.ireturn, 1) := by decide +kernel
theorem dX2_house_67 : decode cX2_house 67 = .ok (.new 81, 3) := by decide +kernel
theorem dX2_house_70 : decode cX2_house 70 = .ok (.dup, 1) := by decide +kernel
theorem dX2_house_71 : decode cX2_house 71 = .ok (.invokespecial 83, 3) := by decide +kernel
theorem dX2_house_74 : decode cX2_house 74 = .ok (.athrow, 1) := by decide +kernel
theorem dX2_signsOfAll_0 : decode cX2_signsOfAll 0 = .ok (.iconst 0, 1) := by decide +kernel
theorem dX2_signsOfAll_1 : decode cX2_signsOfAll 1 = .ok (.istore_n 1, 1) := by decide +kernel
theorem dX2_signsOfAll_2 : decode cX2_signsOfAll 2 = .ok (.iconst 0, 1) := by decide +kernel
theorem dX2_signsOfAll_3 : decode cX2_signsOfAll 3 = .ok (.istore_n 2, 1) := by decide +kernel
theorem dX2_signsOfAll_4 : decode cX2_signsOfAll 4 = .ok (.iload_n 2, 1) := by decide +kernel
theorem dX2_signsOfAll_5 : decode cX2_signsOfAll 5 = .ok (.iconst 4, 1) := by decide +kernel
theorem dX2_signsOfAll_6 : decode cX2_signsOfAll 6 = .ok (.if_icmp .ge 21, 3) := by decide +kernel
theorem dX2_signsOfAll_9 : decode cX2_signsOfAll 9 = .ok (.iload_n 1, 1) := by decide +kernel
theorem dX2_signsOfAll_10 : decode cX2_signsOfAll 10 = .ok (.aload_n 0, 1) := by decide +kernel
theorem dX2_signsOfAll_11 : decode cX2_signsOfAll 11 = .ok (.getfield 11, 3) := by decide +kernel
theorem dX2_signsOfAll_14 : decode cX2_signsOfAll 14 = .ok (.iload_n 2, 1) := by decide +kernel
theorem dX2_signsOfAll_15 : decode cX2_signsOfAll 15 = .ok (.aaload, 1) := by decide +kernel
theorem dX2_signsOfAll_16 : decode cX2_signsOfAll 16 = .ok (.invokevirtual 66, 3) := by decide +kernel
theorem dX2_signsOfAll_19 : decode cX2_signsOfAll 19 = .ok (.iadd, 1) := by decide +kernel
theorem dX2_signsOfAll_20 : decode cX2_signsOfAll 20 = .ok (.istore_n 1, 1) := by decide +kernel
theorem dX2_signsOfAll_21 : decode cX2_signsOfAll 21 = .ok (.iinc 2 1, 3) := by decide +kernel
theorem dX2_signsOfAll_24 : decode cX2_signsOfAll 24 = .ok (.goto (-20), 3) := by decide +kernel
theorem dX2_signsOfAll_27 : decode cX2_signsOfAll 27 = .ok (.iload_n 1, 1) := by decide +kernel
theorem dX2_signsOfAll_28 : decode cX2_signsOfAll 28 = .ok (.ireturn, 1) := by decide +kernel
theorem dX2_emptyOnes_0 : decode cX2_emptyOnes 0 = .ok (.iconst 0, 1) := by decide +kernel
theorem dX2_emptyOnes_1 : decode cX2_emptyOnes 1 = .ok (.istore_n 1, 1) := by decide +kernel
theorem dX2_emptyOnes_2 : decode cX2_emptyOnes 2 = .ok (.iconst 0, 1) := by decide +kernel
theorem dX2_emptyOnes_3 : decode cX2_emptyOnes 3 = .ok (.istore_n 2, 1) := by decide +kernel
theorem dX2_emptyOnes_4 : decode cX2_emptyOnes 4 = .ok (.iload_n 2, 1) := by decide +kernel
theorem dX2_emptyOnes_5 : decode cX2_emptyOnes 5 = .ok (.iconst 4, 1) := by decide +kernel
theorem dX2_emptyOnes_6 : decode cX2_emptyOnes 6 = .ok (.if_icmp .ge 24, 3) := by decide +kernel
theorem dX2_emptyOnes_9 : decode cX2_emptyOnes 9 = .ok (.aload_n 0, 1) := by decide +kernel
theorem dX2_emptyOnes_10 : decode cX2_emptyOnes 10 = .ok (.getfield 11, 3) := by decide +kernel
theorem dX2_emptyOnes_13 : decode cX2_emptyOnes 13 = .ok (.iload_n 2, 1) := by decide +kernel
theorem dX2_emptyOnes_14 : decode cX2_emptyOnes 14 = .ok (.aaload, 1) := by decide +kernel
theorem dX2_emptyOnes_15 : decode cX2_emptyOnes 15 = .ok (.invokevirtual 66, 3) := by decide +kernel
theorem dX2_emptyOnes_18 : decode cX2_emptyOnes 18 = .ok (.ifCond .ne 6, 3) := by decide +kernel
theorem dX2_emptyOnes_21 : decode cX2_emptyOnes 21 = .ok (.iinc 1 1, 3) := by decide +kernel
theorem dX2_emptyOnes_24 : decode cX2_emptyOnes 24 = .ok (.iinc 2 1, 3) := by decide +kernel
theorem dX2_emptyOnes_27 : decode cX2_emptyOnes 27 = .ok (.goto (-23), 3) := by decide +kernel
theorem dX2_emptyOnes_30 : decode cX2_emptyOnes 30 = .ok (.iload_n 1, 1) := by decide +kernel
theorem dX2_emptyOnes_31 : decode cX2_emptyOnes 31 = .ok (.ireturn, 1) := by decide +kernel
abbrev rmX2_row : Room := { frames := 6, cells := 3, slots := 124, locals := 139 }
theorem mX2_row {l : Launch} {G : Cx} {A : Nat → Prop} {SA : Nat → Nat} {X : Nat → List Nat} {es : List Nat} {k : Int32} (hAS : ∀ i : Nat, i < 39 → A (SA i)) : Met l yX2_row (.code yX2_row cX2_row 1 (some (.object "java/lang/String")) :: GW) rmX2_row (PC G A [.ref (SA 0)] (SS G SA X es k)) (qR A (fun r H => SS G SA X es k H)) 3 124 (A) := by
  refine mstart "Signtext" (by decide +kernel) rfl (Nat.le_of_ble_eq_true rfl) ?_
  intro p e s m below meth c ls hx hb hr hts hown hml hlocks hname hC hA hW hl
  have hl : lv_has ls 1 [(0, .ref (SA 0))] := hl
  have hK := hC.1
  have hS : va_S A s.heap s.heap [] := va_S.rf
  obtain ⟨T, es2, hW, hF⟩ := hW
  have hO := hW.2.1
  have hR1 := hW.2.2.1
  have hR2 := hW.2.2.2.1
  refine lv_aload_n hx hb dX2_row_0 rfl (lv_at hl 0 rfl) ?_
  refine va_get (D := G.1) (ci := 6) (C := RX2) (T := TX2) (N := 8) hx hb hts inX2 hown hK (at_P hO) 0 rfl rfl 2 (by decide) (hts _ tw_1_139) (fun _ h9 => h9) rfl dX2_row_1 ?_
  refine qR_V (A := A) (A1 := nw s.heap.size) (b := (SA 29)) (As := []) (rest := []) ⟨hx, hb, hml, hown, hts⟩ (mX0_asString (A := nw s.heap.size) (ca := SA (8 + 2 * 11))) (cwV 0 hts (gV tw_1_171 tw_1_172 tw_1_173 tw_1_2 tw_1_174) rfl rfl rfl (by decide +kernel) ⟨Nat.le_of_ble_eq_true rfl, Nat.le_of_ble_eq_true rfl⟩) hC hS (nw_in hA (Nat.le_refl _)) nw_n ((hW.line (i := 11) (by omega)).recv hK) (hW.line (i := 11) (by omega)) rfl rfl hl.1 (Nat.le_of_ble_eq_true rfl) ⟨Nat.le_trans (show 0 + 3 ≤ 3 by omega) (Nat.le_of_ble_eq_true rfl), Nat.le_trans (show 0 + 124 ≤ 124 by omega) (Nat.le_of_ble_eq_true rfl)⟩ dX2_row_4 (fun rv1 H1 L1 hP1 hk1 hS => ?_)
  have hZ1 := hS.1
  have hW := hW.nw hk1
  exact q_a hx hb hr (Or.inl ⟨_, rfl⟩) hlocks dX2_row_7 hS (by omega) (by omega) ⟨_, _, hW, hF⟩

abbrev rmX2_text : Room := { frames := 7, cells := 4, slots := 130, locals := 139 }
theorem mX2_text {l : Launch} {G : Cx} {A : Nat → Prop} (hst : l.stackTraces = false) {SA : Nat → Nat} {X : Nat → List Nat} {es : List Nat} {k : Int32} {x : Int32} (hAS : ∀ i : Nat, i < 39 → A (SA i)) : vx_Met l yX2_text (.code yX2_text cX2_text 2 (some (.object "java/lang/String")) :: GW) rmX2_text (PC G A [.ref (SA 0), .int x] (SS G SA X es k)) (qR A (fun r H => (∃ i : Nat, i < 4 ∧ x = nI i) ∧ SS G SA X es k H)) (xE A (fun E H => (E = "java/lang/IndexOutOfBoundsException" ∧ NT x) ∧ SS G SA X es k H)) 4 130 A := by
  refine mstartX "Signtext" (by decide +kernel) rfl (Nat.le_of_ble_eq_true rfl) ?_
  intro p e s m below meth c ls hx hb hr hts hown hml hlocks hnx hC hA hW hl
  have hl : lv_has ls 2 [(0, .ref (SA 0)), (1, .int x)] := hl
  have hK := hC.1
  have hS : va_S A s.heap s.heap [] := va_S.rf
  obtain ⟨T, es2, hW, hF⟩ := hW
  have hO := hW.2.1
  have hR1 := hW.2.2.1
  have hR2 := hW.2.2.2.1
  refine lv_aload_n hx hb dX2_text_0 rfl (lv_at hl 0 rfl) ?_
  refine lv_iload_n hx hb dX2_text_1 rfl (lv_at hl 1 rfl) ?_
  refine xR_V (A := A) (A1 := A) (b := (SA 0)) (As := [.int x]) (rest := []) ⟨hx, hb, hml, hown, hts⟩ (mX2_textOf (A := A) hst ) (cwV 1 hts (gV tw_3_4 tw_3_6 sel_X2_textOf tw_1_1 tw_3_7) rfl rfl rfl (by decide +kernel) ⟨Nat.le_of_ble_eq_true rfl, Nat.le_of_ble_eq_true rfl⟩) hC hS (fun _ h => h) (fun q h => hA q (Nat.le_trans hS.1 h)) (hW.recv hK) hW rfl rfl hl.1 (Nat.le_of_ble_eq_true rfl) ⟨Nat.le_trans (show 0 + 1 ≤ 4 by omega) (Nat.le_of_ble_eq_true rfl), Nat.le_trans (show 0 + 6 ≤ 130 by omega) (Nat.le_of_ble_eq_true rfl)⟩ dX2_text_2 hnx hlocks (by omega) (by omega) (fun E H9 q _ => ⟨⟨q.1, q.2.1⟩, _, _, q.2.2, hF⟩) (fun rv2 H2 L2 hP2 hk2 hS => ?_)
  have hZ2 := hS.1
  obtain ⟨⟨i, hi, hxi, hrv⟩, hW⟩ := hP2
  subst hrv
  have hO := hW.2.1
  have hR1 := hW.2.2.1
  have hR2 := hW.2.2.2.1
  have ei := hF i (Or.inl hi)
  refine qR_V (A := A) (A1 := nw H2.size) (b := (SA (7 + 2 * i))) (As := []) (rest := []) ⟨hx, hb, hml, hown, hts⟩ (mX0_asString (A := nw H2.size) (ca := SA (8 + 2 * i))) (cwV 0 hts (gV tw_1_171 tw_1_172 tw_1_173 tw_1_2 tw_1_174) rfl rfl rfl (by decide +kernel) ⟨Nat.le_of_ble_eq_true rfl, Nat.le_of_ble_eq_true rfl⟩) hC hS (nw_in hA hS.1) nw_n ((hW.line (i := i) (by omega)).recv hK) (hW.line (i := i) (by omega)) rfl rfl hl.1 (Nat.le_of_ble_eq_true rfl) ⟨Nat.le_trans (show (0 + 1) + 3 ≤ 4 by omega) (Nat.le_of_ble_eq_true rfl), Nat.le_trans (show (0 + 6) + 124 ≤ 130 by omega) (Nat.le_of_ble_eq_true rfl)⟩ dX2_text_5 (fun rv3 H3 L3 hP3 hk3 hS => ?_)
  have hZ3 := hS.1
  have hW := hW.nw hk3
  exact vx_ret (q_a hx hb hr (Or.inl ⟨_, rfl⟩) hlocks dX2_text_8 hS (by omega) (by omega) ⟨⟨i, hi, hxi⟩, _, _, hW, hF⟩)

abbrev rmX2_piece : Room := { frames := 7, cells := 4, slots := 130, locals := 139 }
theorem mX2_piece {l : Launch} {G : Cx} {A : Nat → Prop} (hst : l.stackTraces = false) {SA : Nat → Nat} {X : Nat → List Nat} {es : List Nat} {k : Int32} {x : Int32} (hAS : ∀ i : Nat, i < 39 → A (SA i)) : vx_Met l yX2_piece (.code yX2_piece cX2_piece 2 (some (.object "java/lang/String")) :: GW) rmX2_piece (PC G A [.ref (SA 0), .int x] (SS G SA X es k)) (qR A (fun r H => (∃ j : Nat, j < es.length ∧ x = nI j) ∧ SS G SA X es k H)) (xE A (fun E H => (E = "java/lang/IndexOutOfBoundsException" ∧ ¬ ∃ j : Nat, j < es.length ∧ x = nI j) ∧ SS G SA X es k H)) 4 130 A := by
  refine mstartX "Signtext" (by decide +kernel) rfl (Nat.le_of_ble_eq_true rfl) ?_
  intro p e s m below meth c ls hx hb hr hts hown hml hlocks hnx hC hA hW hl
  have hl : lv_has ls 2 [(0, .ref (SA 0)), (1, .int x)] := hl
  have hK := hC.1
  have hS : va_S A s.heap s.heap [] := va_S.rf
  obtain ⟨T, es2, hW, hF⟩ := hW
  have hO := hW.2.1
  have hR1 := hW.2.2.1
  have hR2 := hW.2.2.2.1
  refine lv_aload_n hx hb dX2_piece_0 rfl (lv_at hl 0 rfl) ?_
  refine lv_iload_n hx hb dX2_piece_1 rfl (lv_at hl 1 rfl) ?_
  refine xV_V (A := A) (A1 := A) (b := (SA 0)) (As := [.int x]) (rest := []) ⟨hx, hb, hml, hown, hts⟩ (mX2_needPiece (A := A) hst ) (cwV 1 hts (gV tw_3_215 tw_3_217 sel_X2_needPiece tw_1_1 tw_3_218) rfl rfl rfl (by decide +kernel) ⟨Nat.le_of_ble_eq_true rfl, Nat.le_of_ble_eq_true rfl⟩) hC hS (fun _ h => h) (fun q h => hA q (Nat.le_trans hS.1 h)) (hW.recv hK) hW rfl rfl hl.1 (Nat.le_of_ble_eq_true rfl) ⟨Nat.le_trans (show 0 + 1 ≤ 4 by omega) (Nat.le_of_ble_eq_true rfl), Nat.le_trans (show 0 + 6 ≤ 130 by omega) (Nat.le_of_ble_eq_true rfl)⟩ dX2_piece_2 hnx hlocks (by omega) (by omega) (fun E H9 q _ => ⟨⟨q.1, q.2.1⟩, _, _, q.2.2, hF⟩) (fun H4 L4 hP4 hk4 hS => ?_)
  have hZ4 := hS.1
  obtain ⟨⟨j, hj, rfl⟩, hW⟩ := hP4
  have hO := hW.2.1
  have hR1 := hW.2.2.1
  have hR2 := hW.2.2.2.1
  refine lv_aload_n hx hb dX2_piece_5 rfl (lv_at hl 0 rfl) ?_
  refine lv_iload_n hx hb dX2_piece_6 rfl (lv_at hl 1 rfl) ?_
  refine lv_aload_n hx hb dX2_piece_7 rfl (lv_at hl 0 rfl) ?_
  refine va_get (D := G.1) (ci := 6) (C := RX2) (T := TX2) (N := 8) hx hb hts inX2 hown hK (at_P hO) 0 rfl rfl 5 (by decide) (hts _ tw_1_142) (fun _ h9 => h9) rfl dX2_piece_8 ?_
  refine qI_V (A := A) (A1 := A) (b := (SA 0)) (As := [.int (nI j), .ref (SA 31)]) (rest := []) ⟨hx, hb, hml, hown, hts⟩ (mX2_pieceInto (A := A) (q := 12) (j := j) hAS (by omega) hj) (cwV 2 hts (gV tw_3_219 tw_3_221 sel_X2_pieceInto tw_1_1 tw_3_222) rfl rfl rfl (by decide +kernel) ⟨Nat.le_of_ble_eq_true rfl, Nat.le_of_ble_eq_true rfl⟩) hC hS (fun _ h => h) (fun q h => hA q (Nat.le_trans hS.1 h)) (hW.recv hK) hW rfl rfl hl.1 (Nat.le_of_ble_eq_true rfl) ⟨Nat.le_trans (show (0 + 1) ≤ 4 by omega) (Nat.le_of_ble_eq_true rfl), Nat.le_trans (show (0 + 6) ≤ 130 by omega) (Nat.le_of_ble_eq_true rfl)⟩ dX2_piece_11 (fun rv5 H5 L5 hP5 hk5 hS => ?_)
  have hZ5 := hS.1
  have hW := hP5.2
  have hO := hW.2.1
  have hR1 := hW.2.2.1
  have hR2 := hW.2.2.2.1
  refine lv_pop hx hb dX2_piece_14 rfl ?_
  refine lv_aload_n hx hb dX2_piece_15 rfl (lv_at hl 0 rfl) ?_
  refine va_get (D := G.1) (ci := 6) (C := RX2) (T := TX2) (N := 8) hx hb hts inX2 hown hK (at_P hO) 0 rfl rfl 5 (by decide) (hts _ tw_1_142) (fun _ h9 => h9) rfl dX2_piece_16 ?_
  refine qR_V (A := A) (A1 := nw H5.size) (b := (SA 31)) (As := []) (rest := []) ⟨hx, hb, hml, hown, hts⟩ (mX0_asString (A := nw H5.size) (ca := SA (8 + 2 * 12))) (cwV 0 hts (gV tw_1_171 tw_1_172 tw_1_173 tw_1_2 tw_1_174) rfl rfl rfl (by decide +kernel) ⟨Nat.le_of_ble_eq_true rfl, Nat.le_of_ble_eq_true rfl⟩) hC hS (nw_in hA hS.1) nw_n ((hW.line (i := 12) (by omega)).recv hK) (hW.line (i := 12) (by omega)) rfl rfl hl.1 (Nat.le_of_ble_eq_true rfl) ⟨Nat.le_trans (show (0 + 1) + 3 ≤ 4 by omega) (Nat.le_of_ble_eq_true rfl), Nat.le_trans (show (0 + 6) + 124 ≤ 130 by omega) (Nat.le_of_ble_eq_true rfl)⟩ dX2_piece_19 (fun rv6 H6 L6 hP6 hk6 hS => ?_)
  have hZ6 := hS.1
  have hW := hW.nw hk6
  exact vx_ret (q_a hx hb hr (Or.inl ⟨_, rfl⟩) hlocks dX2_piece_22 hS (by omega) (by omega) ⟨⟨j, hj, rfl⟩, _, _, hW, (FR.s12 (FR.s13 hF))⟩)

abbrev rmX2_isPiece : Room := { frames := 7, cells := 2, slots := 12, locals := 111 }
theorem mX2_isPiece {l : Launch} {G : Cx} {A : Nat → Prop} (hst : l.stackTraces = false) {SA : Nat → Nat} {X : Nat → List Nat} {es : List Nat} {k : Int32} {x y : Int32} (hAS : ∀ i : Nat, i < 39 → A (SA i)) : vx_Met l yX2_isPiece (.code yX2_isPiece cX2_isPiece 4 (some .boolean) :: GW) rmX2_isPiece (PC G A [.ref (SA 0), .int x, .int y] (SS G SA X es k)) (qI A (fun r H => ∃ (j i : Nat) (v : Bool), j < es.length ∧ x = nI j ∧ i < 4 ∧ y = nI i ∧ (v = true ↔ (cutL (X 14) (bgE es j) (es.getD j 0)).length = (X i).length ∧ stL false (cutL (X 14) (bgE es j) (es.getD j 0)) (X i) 0) ∧ r = bI v ∧ SS G SA X es k H)) (xE A (fun E H => (E = "java/lang/IndexOutOfBoundsException" ∧ ((¬ ∃ j : Nat, j < es.length ∧ x = nI j) ∨ NT y)) ∧ SS G SA X es k H)) 2 12 A := by
  refine mstartX "Signtext" (by decide +kernel) rfl (Nat.le_of_ble_eq_true rfl) ?_
  intro p e s m below meth c ls hx hb hr hts hown hml hlocks hnx hC hA hW hl
  have hl : lv_has ls 4 [(0, .ref (SA 0)), (1, .int x), (2, .int y)] := hl
  have hK := hC.1
  have hS : va_S A s.heap s.heap [] := va_S.rf
  obtain ⟨T, es2, hW, hF⟩ := hW
  have hO := hW.2.1
  have hR1 := hW.2.2.1
  have hR2 := hW.2.2.2.1
  have e14 := hF 14 (Or.inr (Or.inr rfl))
  refine lv_aload_n hx hb dX2_isPiece_0 rfl (lv_at hl 0 rfl) ?_
  refine lv_iload_n hx hb dX2_isPiece_1 rfl (lv_at hl 1 rfl) ?_
  refine xV_V (A := A) (A1 := A) (b := (SA 0)) (As := [.int x]) (rest := []) ⟨hx, hb, hml, hown, hts⟩ (mX2_needPiece (A := A) hst ) (cwV 1 hts (gV tw_3_215 tw_3_217 sel_X2_needPiece tw_1_1 tw_3_218) rfl rfl rfl (by decide +kernel) ⟨Nat.le_of_ble_eq_true rfl, Nat.le_of_ble_eq_true rfl⟩) hC hS (fun _ h => h) (fun q h => hA q (Nat.le_trans hS.1 h)) (hW.recv hK) hW rfl rfl hl.1 (Nat.le_of_ble_eq_true rfl) ⟨Nat.le_trans (show 0 + 1 ≤ 2 by omega) (Nat.le_of_ble_eq_true rfl), Nat.le_trans (show 0 + 6 ≤ 12 by omega) (Nat.le_of_ble_eq_true rfl)⟩ dX2_isPiece_2 hnx hlocks (by omega) (by omega) (fun E H9 q _ => ⟨⟨q.1, Or.inl q.2.1⟩, _, _, q.2.2, hF⟩) (fun H7 L7 hP7 hk7 hS => ?_)
  have hZ7 := hS.1
  obtain ⟨⟨j, hj, rfl⟩, hW⟩ := hP7
  have hO := hW.2.1
  have hR1 := hW.2.2.1
  have hR2 := hW.2.2.2.1
  refine lv_aload_n hx hb dX2_isPiece_5 rfl (lv_at hl 0 rfl) ?_
  refine lv_iload_n hx hb dX2_isPiece_6 rfl (lv_at hl 2 rfl) ?_
  refine xR_V (A := A) (A1 := A) (b := (SA 0)) (As := [.int y]) (rest := []) ⟨hx, hb, hml, hown, hts⟩ (mX2_textOf (A := A) hst ) (cwV 1 hts (gV tw_3_4 tw_3_6 sel_X2_textOf tw_1_1 tw_3_7) rfl rfl rfl (by decide +kernel) ⟨Nat.le_of_ble_eq_true rfl, Nat.le_of_ble_eq_true rfl⟩) hC hS (fun _ h => h) (fun q h => hA q (Nat.le_trans hS.1 h)) (hW.recv hK) hW rfl rfl hl.1 (Nat.le_of_ble_eq_true rfl) ⟨Nat.le_trans (show (0 + 1) + 1 ≤ 2 by omega) (Nat.le_of_ble_eq_true rfl), Nat.le_trans (show (0 + 6) + 6 ≤ 12 by omega) (Nat.le_of_ble_eq_true rfl)⟩ dX2_isPiece_7 hnx hlocks (by omega) (by omega) (fun E H9 q _ => ⟨⟨q.1, Or.inr q.2.1⟩, _, _, q.2.2, hF⟩) (fun rv8 H8 L8 hP8 hk8 hS => ?_)
  have hZ8 := hS.1
  obtain ⟨⟨i, hi, hxi, hrv⟩, hW⟩ := hP8
  subst hrv
  have hO := hW.2.1
  have hR1 := hW.2.2.1
  have hR2 := hW.2.2.2.1
  have ei := hF i (Or.inl hi)
  refine lv_astore_n (lv' := [(3, .ref (SA (7 + 2 * i))), (0, .ref (SA 0)), (1, .int (nI j)), (2, .int y)]) hx hb dX2_isPiece_10 rfl hl (by decide) rfl (fun ls hl => ?_)
  refine lv_aload_n hx hb dX2_isPiece_11 rfl (lv_at hl 1 rfl) ?_
  refine lv_iload_n hx hb dX2_isPiece_12 rfl (lv_at hl 2 rfl) ?_
  refine lv_aload_n hx hb dX2_isPiece_13 rfl (lv_at hl 1 rfl) ?_
  refine va_get (D := G.1) (ci := 6) (C := RX2) (T := TX2) (N := 8) hx hb hts inX2 hown hK (at_P hO) 0 rfl rfl 5 (by decide) (hts _ tw_1_142) (fun _ h9 => h9) rfl dX2_isPiece_14 ?_
  refine qI_V (A := A) (A1 := A) (b := (SA 0)) (As := [.int (nI j), .ref (SA 31)]) (rest := []) ⟨hx, hb, hml, hown, hts⟩ (mX2_pieceInto (A := A) (q := 12) (j := j) hAS (by omega) hj) (cwV 2 hts (gV tw_3_219 tw_3_221 sel_X2_pieceInto tw_1_1 tw_3_222) rfl rfl rfl (by decide +kernel) ⟨Nat.le_of_ble_eq_true rfl, Nat.le_of_ble_eq_true rfl⟩) hC hS (fun _ h => h) (fun q h => hA q (Nat.le_trans hS.1 h)) (hW.recv hK) hW rfl rfl hl.1 (Nat.le_of_ble_eq_true rfl) ⟨Nat.le_trans (show ((0 + 1) + 1) ≤ 2 by omega) (Nat.le_of_ble_eq_true rfl), Nat.le_trans (show ((0 + 6) + 6) ≤ 12 by omega) (Nat.le_of_ble_eq_true rfl)⟩ dX2_isPiece_17 (fun rv9 H9 L9 hP9 hk9 hS => ?_)
  have hZ9 := hS.1
  rw [e14] at hP9
  have hW := hP9.2
  have hO := hW.2.1
  have hR1 := hW.2.2.1
  have hR2 := hW.2.2.2.1
  refine lv_pop hx hb dX2_isPiece_20 rfl ?_
  refine lv_aload_n hx hb dX2_isPiece_21 rfl (lv_at hl 1 rfl) ?_
  refine va_get (D := G.1) (ci := 6) (C := RX2) (T := TX2) (N := 8) hx hb hts inX2 hown hK (at_P hO) 0 rfl rfl 5 (by decide) (hts _ tw_1_142) (fun _ h9 => h9) rfl dX2_isPiece_22 ?_
  refine lv_aload_n hx hb dX2_isPiece_25 rfl (lv_at hl 0 rfl) ?_
  refine lv_iconst (v := nI 0) hx hb dX2_isPiece_26 (by decide) ?_
  have hLq := hW.line (i := 12) (by omega)
  rw [updT_s] at hLq
  have hLi := hW.line (i := i) (by omega)
  rw [updT_n (show i ≠ 12 by omega), updT_n (show i ≠ 13 by omega), ei] at hLi
  refine kV_i (A := A) (b := (SA 31)) (As := [.ref (SA (7 + 2 * i)), .int (bI false)]) (rest := []) ⟨hx, hb, hml, hown, hts⟩ (mX0_isSameAs (A := A) (ca := SA (8 + 2 * 12)) (cb := SA (8 + 2 * i)) (b0 := false)) (cwV 2 hts (gV tw_2_7 tw_2_8 tw_2_9 tw_1_2 tw_2_10) rfl rfl rfl (by decide +kernel) ⟨Nat.le_of_ble_eq_true rfl, Nat.le_of_ble_eq_true rfl⟩) hC hS hA (hLq.recv hK) ⟨hLq, hLi⟩ rfl rfl hl.1 (Nat.le_of_ble_eq_true rfl) ⟨Nat.le_trans (show ((0 + 1) + 1) ≤ 2 by omega) (Nat.le_of_ble_eq_true rfl), Nat.le_trans (show ((0 + 6) + 6) ≤ 12 by omega) (Nat.le_of_ble_eq_true rfl)⟩ dX2_isPiece_27 (fun r_10 hr_10 => ?_)
  obtain ⟨v, hv, rfl⟩ := hr_10
  exact vx_ret (q_z (b9 := v) hx hb hr hlocks dX2_isPiece_30 hS (by omega) (by omega) ⟨j, i, v, hj, rfl, hi, hxi, hv, rfl, _, _, hW, (FR.s12 (FR.s13 hF))⟩)

abbrev rmX2_signsOfAll : Room := { frames := 2, cells := 0, slots := 0, locals := 40 }
theorem mX2_signsOfAll {l : Launch} {G : Cx} {A : Nat → Prop} {SA : Nat → Nat} {T : Nat → List Nat} {es es2 : List Nat} {k : Int32} : Met l yX2_signsOfAll (.code yX2_signsOfAll cX2_signsOfAll 3 (some .int) :: GW) rmX2_signsOfAll (PC G A [.ref (SA 0)] (SW G SA T es es2 k)) (vp_Si (fun r => r = nI (sumL T 4))) 0 0 (fun _ => False) := by
  refine mstart "Signtext" (by decide +kernel) rfl (Nat.le_of_ble_eq_true rfl) ?_
  intro p e s m below meth c ls hx hb hr hts hown hml hlocks hname hC hA hW hl
  have hl : lv_has ls 3 [(0, .ref (SA 0))] := hl
  have hK := hC.1
  have hS : va_S A s.heap s.heap [] := va_S.rf
  have hO := hW.2.1
  have hR1 := hW.2.2.1
  have hR2 := hW.2.2.2.1
  refine lv_iconst (v := nI 0) hx hb dX2_signsOfAll_0 (by decide) ?_
  refine lv_istore_n (lv' := [(1, .int (nI 0)), (0, .ref (SA 0))]) hx hb dX2_signsOfAll_1 rfl hl (by decide) rfl (fun ls hl => ?_)
  refine lv_iconst (v := nI 0) hx hb dX2_signsOfAll_2 (by decide) ?_
  refine lv_istore_n (lv' := [(2, .int (nI 0)), (1, .int (nI 0)), (0, .ref (SA 0))]) hx hb dX2_signsOfAll_3 rfl hl (by decide) rfl (fun ls hl => ?_)
  have hl : lv_has ls 3 [(2, .int (nI 0)), (1, .int (nI (sumL T 0))), (0, .ref (SA 0))] := hl
  refine nloop (P := fun j => ∀ (ls : Array Slot) , lv_has ls 3 [(2, .int (nI j)), (1, .int (nI (sumL T j))), (0, .ref (SA 0))] → W p l e rmX2_signsOfAll s m [.ref (SA 0)].toArray below meth c s.heap [] 0 0 (MQ below (vp_Si (fun r => r = nI (sumL T 4))) [.ref (SA 0)].toArray s 0 0 (fun _ => False)) (F0 m 4 ls [])) 4 ?_ 0 (Nat.zero_le _) ls  hl 
  clear hl
  intro j hj ih ls  hl
  refine lv_iload_n hx hb dX2_signsOfAll_4 rfl (lv_at hl 0 rfl) ?_
  refine lv_iconst (v := nI 4) hx hb dX2_signsOfAll_5 (by decide) ?_
  refine b_ge (tgt := 27) hx hb dX2_signsOfAll_6 (by decide) (by omega) (by omega) (fun c_11 => ?_) (fun c_11 => ?_)
  · refine lv_iload_n hx hb dX2_signsOfAll_27 rfl (lv_at hl 1 rfl) ?_
    exact p_i hx hb hr hlocks dX2_signsOfAll_28 (by rw [show j = 4 by omega])
  · refine lv_iload_n hx hb dX2_signsOfAll_9 rfl (lv_at hl 1 rfl) ?_
    refine lv_aload_n hx hb dX2_signsOfAll_10 rfl (lv_at hl 2 rfl) ?_
    refine va_get (D := G.1) (ci := 6) (C := RX2) (T := TX2) (N := 8) hx hb hts inX2 hown hK (at_P hO) 0 rfl rfl 0 (by decide) (hts _ tw_1_137) (fun _ h9 => h9) rfl dX2_signsOfAll_11 ?_
    refine lv_iload_n hx hb dX2_signsOfAll_14 rfl (lv_at hl 0 rfl) ?_
    refine va_aldq (D := G.1) hx hb hK (at_P hR1) 0 3 rfl rfl (vp_in_nI (n := j) (N := 4) (by omega) (by omega)) dX2_signsOfAll_15 ?_
    refine v_cv (show va_rf _ = .ref (SA (7 + 2 * j)) from by rw [nI_clamp (n := j) (by omega)]; rfl) ?_
    refine kV_i (A := A) (b := (SA (7 + 2 * j))) (As := []) (rest := .int (nI (sumL T j)) :: []) ⟨hx, hb, hml, hown, hts⟩ (mX0_size (A := A) (ca := SA (8 + 2 * j))) (cwV 0 hts (gV tw_2_30 tw_2_12 tw_2_13 tw_1_2 tw_2_14) rfl rfl rfl (by decide +kernel) ⟨Nat.le_of_ble_eq_true rfl, Nat.le_of_ble_eq_true rfl⟩) hC hS hA ((hW.line (i := j) (by omega)).recv hK) (hW.line (i := j) (by omega)) rfl rfl hl.1 (Nat.le_of_ble_eq_true rfl) ⟨Nat.zero_le _, Nat.zero_le _⟩ dX2_signsOfAll_16 (fun r9 h9 => lv_cv h9 ?_)
    refine lv_iadd hx hb dX2_signsOfAll_19 ?_
    refine lv_cv (nI_add (sumL T j) ((T j).length)) ?_
    refine lv_istore_n (lv' := [(1, .int (nI (sumL T (j + 1)))), (2, .int (nI j)), (0, .ref (SA 0))]) hx hb dX2_signsOfAll_20 rfl hl (by decide) rfl (fun ls hl => ?_)
    refine lv_iinc (v := nI (j + 1)) (lv' := [(2, .int (nI (j + 1))), (1, .int (nI (sumL T (j + 1)))), (0, .ref (SA 0))]) hx hb dX2_signsOfAll_21 hl (k := 1) rfl (nI_add j 1) (by decide) rfl (fun ls hl => ?_)
    refine lv_goto (tgt := 4) hx hb dX2_signsOfAll_24 (by decide) ?_
    exact ih (j + 1) (by omega) (by omega) ls (lv_sub hl [0, 1, 2] rfl)

abbrev rmX2_emptyOnes : Room := { frames := 2, cells := 0, slots := 0, locals := 40 }
theorem mX2_emptyOnes {l : Launch} {G : Cx} {A : Nat → Prop} {SA : Nat → Nat} {T : Nat → List Nat} {es es2 : List Nat} {k : Int32} : Met l yX2_emptyOnes (.code yX2_emptyOnes cX2_emptyOnes 3 (some .int) :: GW) rmX2_emptyOnes (PC G A [.ref (SA 0)] (SW G SA T es es2 k)) (vp_Si (fun r => r = nI (cntE T 4))) 0 0 (fun _ => False) := by
  refine mstart "Signtext" (by decide +kernel) rfl (Nat.le_of_ble_eq_true rfl) ?_
  intro p e s m below meth c ls hx hb hr hts hown hml hlocks hname hC hA hW hl
  have hl : lv_has ls 3 [(0, .ref (SA 0))] := hl
  have hK := hC.1
  have hS : va_S A s.heap s.heap [] := va_S.rf
  have hO := hW.2.1
  have hR1 := hW.2.2.1
  have hR2 := hW.2.2.2.1
  refine lv_iconst (v := nI 0) hx hb dX2_emptyOnes_0 (by decide) ?_
  refine lv_istore_n (lv' := [(1, .int (nI 0)), (0, .ref (SA 0))]) hx hb dX2_emptyOnes_1 rfl hl (by decide) rfl (fun ls hl => ?_)
  refine lv_iconst (v := nI 0) hx hb dX2_emptyOnes_2 (by decide) ?_
  refine lv_istore_n (lv' := [(2, .int (nI 0)), (1, .int (nI 0)), (0, .ref (SA 0))]) hx hb dX2_emptyOnes_3 rfl hl (by decide) rfl (fun ls hl => ?_)
  have hl : lv_has ls 3 [(2, .int (nI 0)), (1, .int (nI (cntE T 0))), (0, .ref (SA 0))] := hl
  refine nloop (P := fun j => ∀ (ls : Array Slot) , lv_has ls 3 [(2, .int (nI j)), (1, .int (nI (cntE T j))), (0, .ref (SA 0))] → W p l e rmX2_emptyOnes s m [.ref (SA 0)].toArray below meth c s.heap [] 0 0 (MQ below (vp_Si (fun r => r = nI (cntE T 4))) [.ref (SA 0)].toArray s 0 0 (fun _ => False)) (F0 m 4 ls [])) 4 ?_ 0 (Nat.zero_le _) ls  hl 
  clear hl
  intro j hj ih ls  hl
  refine lv_iload_n hx hb dX2_emptyOnes_4 rfl (lv_at hl 0 rfl) ?_
  refine lv_iconst (v := nI 4) hx hb dX2_emptyOnes_5 (by decide) ?_
  refine b_ge (tgt := 30) hx hb dX2_emptyOnes_6 (by decide) (by omega) (by omega) (fun c_12 => ?_) (fun c_12 => ?_)
  · refine lv_iload_n hx hb dX2_emptyOnes_30 rfl (lv_at hl 1 rfl) ?_
    exact p_i hx hb hr hlocks dX2_emptyOnes_31 (by rw [show j = 4 by omega])
  · refine lv_aload_n hx hb dX2_emptyOnes_9 rfl (lv_at hl 2 rfl) ?_
    refine va_get (D := G.1) (ci := 6) (C := RX2) (T := TX2) (N := 8) hx hb hts inX2 hown hK (at_P hO) 0 rfl rfl 0 (by decide) (hts _ tw_1_137) (fun _ h9 => h9) rfl dX2_emptyOnes_10 ?_
    refine lv_iload_n hx hb dX2_emptyOnes_13 rfl (lv_at hl 0 rfl) ?_
    refine va_aldq (D := G.1) hx hb hK (at_P hR1) 0 3 rfl rfl (vp_in_nI (n := j) (N := 4) (by omega) (by omega)) dX2_emptyOnes_14 ?_
    refine v_cv (show va_rf _ = .ref (SA (7 + 2 * j)) from by rw [nI_clamp (n := j) (by omega)]; rfl) ?_
    have j60 := (hW.line (i := j) (by omega)).1
    refine kV_i (A := A) (b := (SA (7 + 2 * j))) (As := []) (rest := []) ⟨hx, hb, hml, hown, hts⟩ (mX0_size (A := A) (ca := SA (8 + 2 * j))) (cwV 0 hts (gV tw_2_30 tw_2_12 tw_2_13 tw_1_2 tw_2_14) rfl rfl rfl (by decide +kernel) ⟨Nat.le_of_ble_eq_true rfl, Nat.le_of_ble_eq_true rfl⟩) hC hS hA ((hW.line (i := j) (by omega)).recv hK) (hW.line (i := j) (by omega)) rfl rfl hl.1 (Nat.le_of_ble_eq_true rfl) ⟨Nat.zero_le _, Nat.zero_le _⟩ dX2_emptyOnes_15 (fun r9 h9 => lv_cv h9 ?_)
    refine z_ne (tgt := 24) hx hb dX2_emptyOnes_18 (by decide) (by omega) (fun c_13 => ?_) (fun c_13 => ?_)
    · refine lv_iinc (v := nI (j + 1)) (lv' := [(2, .int (nI (j + 1))), (1, .int (nI (cntE T j))), (0, .ref (SA 0))]) hx hb dX2_emptyOnes_24 hl (k := 0) rfl (nI_add j 1) (by decide) rfl (fun ls hl => ?_)
      refine lv_goto (tgt := 4) hx hb dX2_emptyOnes_27 (by decide) ?_
      have ec : cntE T (j + 1) = cntE T j := if_neg c_13
      rw [← ec] at hl
      exact ih (j + 1) (by omega) (by omega) ls (lv_sub hl [0, 1, 2] rfl)
    · refine lv_iinc (v := nI (cntE T j + 1)) (lv' := [(1, .int (nI (cntE T j + 1))), (2, .int (nI j)), (0, .ref (SA 0))]) hx hb dX2_emptyOnes_21 hl (k := 1) rfl (nI_add (cntE T j) 1) (by decide) rfl (fun ls hl => ?_)
      refine lv_iinc (v := nI (j + 1)) (lv' := [(2, .int (nI (j + 1))), (1, .int (nI (cntE T j + 1))), (0, .ref (SA 0))]) hx hb dX2_emptyOnes_24 hl (k := 1) rfl (nI_add j 1) (by decide) rfl (fun ls hl => ?_)
      refine lv_goto (tgt := 4) hx hb dX2_emptyOnes_27 (by decide) ?_
      have ec : cntE T (j + 1) = cntE T j + 1 := if_pos c_13
      rw [← ec] at hl
      exact ih (j + 1) (by omega) (by omega) ls (lv_sub hl [0, 1, 2] rfl)

abbrev rmX2_house : Room := { frames := 6, cells := 1, slots := 6, locals := 89 }
theorem mX2_house {l : Launch} {G : Cx} {A : Nat → Prop} (hst : l.stackTraces = false) {SA : Nat → Nat} {X : Nat → List Nat} {es : List Nat} {k : Int32} {x : Int32} (hAS : ∀ i : Nat, i < 39 → A (SA i)) : vx_Met l yX2_house (.code yX2_house cX2_house 2 (some .int) :: GW) rmX2_house (PC G A [.ref (SA 0), .int x] (SS G SA X es k)) (qI A (fun r H => ∃ w9 : Nat, w9 < 5 ∧ x = nI w9 ∧ r = hsV X es k w9 ∧ SS G SA X es k H)) (xE A (fun E H => (E = "java/lang/IllegalArgumentException" ∧ ¬ ∃ w9 : Nat, w9 < 5 ∧ x = nI w9) ∧ SS G SA X es k H)) 1 6 A := by
  refine mstartX "Signtext" (by decide +kernel) rfl (Nat.le_of_ble_eq_true rfl) ?_
  intro p e s m below meth c ls hx hb hr hts hown hml hlocks hnx hC hA hW hl
  have hl : lv_has ls 2 [(0, .ref (SA 0)), (1, .int x)] := hl
  have hK := hC.1
  have hS : va_S A s.heap s.heap [] := va_S.rf
  obtain ⟨T, es2, hW, hF⟩ := hW
  have hO := hW.2.1
  have hR1 := hW.2.2.1
  have hR2 := hW.2.2.2.1
  have e11 := hF 11 (Or.inr (Or.inl rfl))
  have eS := sumL_eq (n := 4) (fun i hi => hF i (Or.inl hi))
  have eE := cntE_eq (n := 4) (fun i hi => hF i (Or.inl hi))
  refine lv_iload_n hx hb dX2_house_0 rfl (lv_at hl 1 rfl) ?_
  by_cases h5 : ∃ w9 : Nat, w9 < 5 ∧ x = nI w9
  · obtain ⟨w9, hw9, rfl⟩ := h5
    match w9, hw9 with
    | 0, _ =>
      refine lv_tableIn (tgt := 36) (off := 35) hx hb dX2_house_1 (by decide) (by decide) (by decide) (by decide) ?_
      refine lv_aload_n hx hb dX2_house_36 rfl (lv_at hl 0 rfl) ?_
      refine va_get (D := G.1) (ci := 6) (C := RX2) (T := TX2) (N := 8) hx hb hts inX2 hown hK (at_P hO) 0 rfl rfl 2 (by decide) (hts _ tw_1_139) (fun _ h9 => h9) rfl dX2_house_37 ?_
      refine kV_i (A := A) (b := (SA 29)) (As := []) (rest := []) ⟨hx, hb, hml, hown, hts⟩ (mX0_size (A := A) (ca := SA (8 + 2 * 11))) (cwV 0 hts (gV tw_2_30 tw_2_12 tw_2_13 tw_1_2 tw_2_14) rfl rfl rfl (by decide +kernel) ⟨Nat.le_of_ble_eq_true rfl, Nat.le_of_ble_eq_true rfl⟩) hC hS hA ((hW.line (i := 11) (by omega)).recv hK) (hW.line (i := 11) (by omega)) rfl rfl hl.1 (Nat.le_of_ble_eq_true rfl) ⟨Nat.zero_le _, Nat.zero_le _⟩ dX2_house_40 (fun r9 h9 => lv_cv h9 ?_)
      rw [e11]
      exact vx_ret (q_i hx hb hr hlocks dX2_house_43 hS (by omega) (by omega) ⟨0, by decide, rfl, rfl, _, _, hW, hF⟩)
    | 1, _ =>
      refine lv_tableIn (tgt := 44) (off := 43) hx hb dX2_house_1 (by decide) (by decide) (by decide) (by decide) ?_
      refine lv_aload_n hx hb dX2_house_44 rfl (lv_at hl 0 rfl) ?_
      refine va_get (D := G.1) (ci := 6) (C := RX2) (T := TX2) (N := 8) hx hb hts inX2 hown hK (at_P hO) 0 rfl rfl 3 (by decide) (hts _ tw_1_140) (fun _ h9 => h9) rfl dX2_house_45 ?_
      refine kV_i (A := A) (b := (SA 3)) (As := []) (rest := []) ⟨hx, hb, hml, hown, hts⟩ (mX1_size (A := A) (la := SA 35) (ea := SA 4) (es := es)) (cwV 0 hts (gV tw_2_82 tw_2_83 tw_2_84 tw_1_3 tw_2_85) rfl rfl rfl (by decide +kernel) ⟨Nat.le_of_ble_eq_true rfl, Nat.le_of_ble_eq_true rfl⟩) hC hS hA (hW.pcs.1.recv hK) hW.pcs.1 rfl rfl hl.1 (Nat.le_of_ble_eq_true rfl) ⟨Nat.zero_le _, Nat.zero_le _⟩ dX2_house_48 (fun r9 h9 => lv_cv h9 ?_)
      exact vx_ret (q_i hx hb hr hlocks dX2_house_51 hS (by omega) (by omega) ⟨1, by decide, rfl, rfl, _, _, hW, hF⟩)
    | 2, _ =>
      refine lv_tableIn (tgt := 52) (off := 51) hx hb dX2_house_1 (by decide) (by decide) (by decide) (by decide) ?_
      refine lv_aload_n hx hb dX2_house_52 rfl (lv_at hl 0 rfl) ?_
      refine kV_i (A := A) (b := (SA 0)) (As := []) (rest := []) ⟨hx, hb, hml, hown, hts⟩ (mX2_signsOfAll (A := A) (SA := SA) (T := T) (es := es) (es2 := es2) (k := k)) (cwV 0 hts (gV tw_2_128 tw_2_130 sel_X2_signsOfAll tw_1_1 tw_2_131) rfl rfl rfl (by decide +kernel) ⟨Nat.le_of_ble_eq_true rfl, Nat.le_of_ble_eq_true rfl⟩) hC hS hA (hW.recv hK) hW rfl rfl hl.1 (Nat.le_of_ble_eq_true rfl) ⟨Nat.zero_le _, Nat.zero_le _⟩ dX2_house_53 (fun r9 h9 => lv_cv h9 ?_)
      rw [eS]
      exact vx_ret (q_i hx hb hr hlocks dX2_house_56 hS (by omega) (by omega) ⟨2, by decide, rfl, rfl, _, _, hW, hF⟩)
    | 3, _ =>
      refine lv_tableIn (tgt := 57) (off := 56) hx hb dX2_house_1 (by decide) (by decide) (by decide) (by decide) ?_
      refine lv_aload_n hx hb dX2_house_57 rfl (lv_at hl 0 rfl) ?_
      refine kV_i (A := A) (b := (SA 0)) (As := []) (rest := []) ⟨hx, hb, hml, hown, hts⟩ (mX2_emptyOnes (A := A) (SA := SA) (T := T) (es := es) (es2 := es2) (k := k)) (cwV 0 hts (gV tw_2_132 tw_2_134 sel_X2_emptyOnes tw_1_1 tw_2_135) rfl rfl rfl (by decide +kernel) ⟨Nat.le_of_ble_eq_true rfl, Nat.le_of_ble_eq_true rfl⟩) hC hS hA (hW.recv hK) hW rfl rfl hl.1 (Nat.le_of_ble_eq_true rfl) ⟨Nat.zero_le _, Nat.zero_le _⟩ dX2_house_58 (fun r9 h9 => lv_cv h9 ?_)
      rw [eE]
      exact vx_ret (q_i hx hb hr hlocks dX2_house_61 hS (by omega) (by omega) ⟨3, by decide, rfl, rfl, _, _, hW, hF⟩)
    | 4, _ =>
      refine lv_tableIn (tgt := 62) (off := 61) hx hb dX2_house_1 (by decide) (by decide) (by decide) (by decide) ?_
      refine lv_aload_n hx hb dX2_house_62 rfl (lv_at hl 0 rfl) ?_
      refine va_get (D := G.1) (ci := 6) (C := RX2) (T := TX2) (N := 8) hx hb hts inX2 hown hK (at_P hO) 0 rfl rfl 4 (by decide) (hts _ tw_1_141) (fun _ h9 => h9) rfl dX2_house_63 ?_
      exact vx_ret (q_i hx hb hr hlocks dX2_house_66 hS (by omega) (by omega) ⟨4, by decide, rfl, rfl, _, _, hW, hF⟩)
  · refine lv_tableOut (tgt := 67) hx hb dX2_house_1 (by rcases Int.lt_or_le x.toInt 0 with q | q; exact Or.inl q; rcases Int.lt_or_le 4 x.toInt with q2 | q2; exact Or.inr q2; exact absurd ⟨x.toInt.toNat, by omega, by rw [← Int32.toInt_inj, nI_toInt (by omega)]; omega⟩ h5) (by decide) ?_
    exact t_new (nL := 2) (cls := "java/lang/IllegalArgumentException") (ik := 81) (ic := 83) hx hb hst hown hts hC hS hl.1 hml (by decide +kernel) tw_2_136 tw_1_17 tA83 tB83 tG83 hnx hlocks (Nat.le_of_ble_eq_true rfl) (Nat.le_of_ble_eq_true rfl) (Nat.le_trans (show 0 + 1 ≤ 1 by omega) (Nat.le_of_ble_eq_true rfl)) (Nat.le_trans (show 0 + 6 ≤ 6 by omega) (Nat.le_of_ble_eq_true rfl)) (by omega) (by omega) dX2_house_67 dX2_house_70 dX2_house_71 dX2_house_74 (fun H9 hk9 => ⟨⟨rfl, h5⟩, _, _, hW.nw hk9, hF⟩)
