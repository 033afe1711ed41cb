/-! The class, 2: how texts are made -/
def addS (t : List Nat) (x : Int32) (w : List Nat) : Prop := (x = -1 ∧ w = t) ∨ ∃ i : Nat, i < 24 ∧ x = nI i ∧ w = (t ++ [codeT.getD i 0]).take 60
theorem updT_id {T : Nat → List Nat} {q : Nat} : updT T q (T q) = T := by
  funext i; unfold updT; split
  · next h => rw [h]
  · rfl
theorem updT_2 {T : Nat → List Nat} {q : Nat} {a b : List Nat} : updT (updT T q a) q b = updT T q b := by
  funext i; unfold updT; split <;> rfl
theorem codeT_lt (i : Nat) : codeT.getD i 0 < 256 := by
  have k : ∀ j : Fin 24, codeT.getD j.1 0 < 256 := by decide +kernel
  rcases Nat.lt_or_ge i 24 with q | q
  · exact k ⟨i, q⟩
  · rw [List.getD_eq_getElem?_getD, List.getElem?_eq_none (by exact q)]; decide
def wkN : Nat → Nat
  | 0 => 6
  | i + 1 => i
theorem dX2_addSignOrNone_0 : decode cX2_addSignOrNone 0 = .ok (.iload_n 1, 1) := by decide +kernel
theorem dX2_addSignOrNone_1 : decode cX2_addSignOrNone 1 = .ok (.iconst (-1), 1) := by decide +kernel
theorem dX2_addSignOrNone_2 : decode cX2_addSignOrNone 2 = .ok (.if_icmp .eq 14, 3) := by decide +kernel
theorem dX2_addSignOrNone_5 : decode cX2_addSignOrNone 5 = .ok (.aload_n 0, 1) := by decide +kernel
theorem dX2_addSignOrNone_6 : decode cX2_addSignOrNone 6 = .ok (.getfield 34, 3) := by decide +kernel
theorem dX2_addSignOrNone_9 : decode cX2_addSignOrNone 9 = .ok (.iload_n 1, 1) := by decide +kernel
theorem dX2_addSignOrNone_10 : decode cX2_addSignOrNone 10 = .ok (.invokestatic 115, 3) := by decide +kernel
theorem dX2_addSignOrNone_13 : decode cX2_addSignOrNone 13 = .ok (.invokevirtual 119, 3) := by decide +kernel
theorem dX2_addSignOrNone_16 : decode cX2_addSignOrNone 16 = .ok (.return_, 1) := by decide +kernel
theorem dX2_addMade_0 : decode cX2_addMade 0 = .ok (.iload_n 2, 1) := by decide +kernel
theorem dX2_addMade_1 : decode cX2_addMade 1 = .ok (.ifCond .eq 16, 3) := by decide +kernel
theorem dX2_addMade_4 : decode cX2_addMade 4 = .ok (.aload_n 0, 1) := by decide +kernel
theorem dX2_addMade_5 : decode cX2_addMade 5 = .ok (.aload_n 0, 1) := by decide +kernel
theorem dX2_addMade_6 : decode cX2_addMade 6 = .ok (.getfield 34, 3) := by decide +kernel
theorem dX2_addMade_9 : decode cX2_addMade 9 = .ok (.aload_n 1, 1) := by decide +kernel
theorem dX2_addMade_10 : decode cX2_addMade 10 = .ok (.aload_n 1, 1) := by decide +kernel
theorem dX2_addMade_11 : decode cX2_addMade 11 = .ok (.invokevirtual 62, 3) := by decide +kernel
theorem dX2_addMade_14 : decode cX2_addMade 14 = .ok (.goto 13, 3) := by decide +kernel
theorem dX2_addMade_17 : decode cX2_addMade 17 = .ok (.aload_n 0, 1) := by decide +kernel
theorem dX2_addMade_18 : decode cX2_addMade 18 = .ok (.aload_n 1, 1) := by decide +kernel
theorem dX2_addMade_19 : decode cX2_addMade 19 = .ok (.aload_n 0, 1) := by decide +kernel
theorem dX2_addMade_20 : decode cX2_addMade 20 = .ok (.getfield 34, 3) := by decide +kernel
theorem dX2_addMade_23 : decode cX2_addMade 23 = .ok (.aload_n 1, 1) := by decide +kernel
theorem dX2_addMade_24 : decode cX2_addMade 24 = .ok (.invokevirtual 62, 3) := by decide +kernel
theorem dX2_addMade_27 : decode cX2_addMade 27 = .ok (.ireturn, 1) := by decide +kernel
theorem dX2_joinInto_0 : decode cX2_joinInto 0 = .ok (.aload_n 1, 1) := by decide +kernel
theorem dX2_joinInto_1 : decode cX2_joinInto 1 = .ok (.invokevirtual 66, 3) := by decide +kernel
theorem dX2_joinInto_4 : decode cX2_joinInto 4 = .ok (.aload_n 2, 1) := by decide +kernel
theorem dX2_joinInto_5 : decode cX2_joinInto 5 = .ok (.invokevirtual 66, 3) := by decide +kernel
theorem dX2_joinInto_8 : decode cX2_joinInto 8 = .ok (.iadd, 1) := by decide +kernel
theorem dX2_joinInto_9 : decode cX2_joinInto 9 = .ok (.invokestatic 84, 3) := by decide +kernel
theorem dX2_joinInto_12 : decode cX2_joinInto 12 = .ok (.aload_n 0, 1) := by decide +kernel
theorem dX2_joinInto_13 : decode cX2_joinInto 13 = .ok (.getfield 37, 3) := by decide +kernel
theorem dX2_joinInto_16 : decode cX2_joinInto 16 = .ok (.invokevirtual 55, 3) := by decide +kernel
theorem dX2_joinInto_19 : decode cX2_joinInto 19 = .ok (.aload_n 0, 1) := by decide +kernel
theorem dX2_joinInto_20 : decode cX2_joinInto 20 = .ok (.getfield 37, 3) := by decide +kernel
theorem dX2_joinInto_23 : decode cX2_joinInto 23 = .ok (.aload_n 1, 1) := by decide +kernel
theorem dX2_joinInto_24 : decode cX2_joinInto 24 = .ok (.invokevirtual 87, 3) := by decide +kernel
theorem dX2_joinInto_27 : decode cX2_joinInto 27 = .ok (.aload_n 0, 1) := by decide +kernel
theorem dX2_joinInto_28 : decode cX2_joinInto 28 = .ok (.getfield 37, 3) := by decide +kernel
theorem dX2_joinInto_31 : decode cX2_joinInto 31 = .ok (.aload_n 2, 1) := by decide +kernel
theorem dX2_joinInto_32 : decode cX2_joinInto 32 = .ok (.invokevirtual 87, 3) := by decide +kernel
theorem dX2_joinInto_35 : decode cX2_joinInto 35 = .ok (.aload_n 3, 1) := by decide +kernel
theorem dX2_joinInto_36 : decode cX2_joinInto 36 = .ok (.aload_n 0, 1) := by decide +kernel
theorem dX2_joinInto_37 : decode cX2_joinInto 37 = .ok (.getfield 37, 3) := by decide +kernel
theorem dX2_joinInto_40 : decode cX2_joinInto 40 = .ok (.invokevirtual 91, 3) := by decide +kernel
theorem dX2_joinInto_43 : decode cX2_joinInto 43 = .ok (.aload_n 3, 1) := by decide +kernel
theorem dX2_joinInto_44 : decode cX2_joinInto 44 = .ok (.invokevirtual 66, 3) := by decide +kernel
theorem dX2_joinInto_47 : decode cX2_joinInto 47 = .ok (.ireturn, 1) := by decide +kernel
theorem dX2_partInto_0 : decode cX2_partInto 0 = .ok (.aload_n 0, 1) := by decide +kernel
theorem dX2_partInto_1 : decode cX2_partInto 1 = .ok (.getfield 37, 3) := by decide +kernel
theorem dX2_partInto_4 : decode cX2_partInto 4 = .ok (.invokevirtual 55, 3) := by decide +kernel
theorem dX2_partInto_7 : decode cX2_partInto 7 = .ok (.aload_n 0, 1) := by decide +kernel
theorem dX2_partInto_8 : decode cX2_partInto 8 = .ok (.getfield 37, 3) := by decide +kernel
theorem dX2_partInto_11 : decode cX2_partInto 11 = .ok (.aload_n 1, 1) := by decide +kernel
theorem dX2_partInto_12 : decode cX2_partInto 12 = .ok (.iload_n 2, 1) := by decide +kernel
theorem dX2_partInto_13 : decode cX2_partInto 13 = .ok (.iload_n 3, 1) := by decide +kernel
theorem dX2_partInto_14 : decode cX2_partInto 14 = .ok (.invokevirtual 235, 3) := by decide +kernel
theorem dX2_partInto_17 : decode cX2_partInto 17 = .ok (.aload 4, 2) := by decide +kernel
theorem dX2_partInto_19 : decode cX2_partInto 19 = .ok (.aload_n 0, 1) := by decide +kernel
theorem dX2_partInto_20 : decode cX2_partInto 20 = .ok (.getfield 37, 3) := by decide +kernel
theorem dX2_partInto_23 : decode cX2_partInto 23 = .ok (.invokevirtual 91, 3) := by decide +kernel
theorem dX2_partInto_26 : decode cX2_partInto 26 = .ok (.aload 4, 2) := by decide +kernel
theorem dX2_partInto_28 : decode cX2_partInto 28 = .ok (.invokevirtual 66, 3) := by decide +kernel
theorem dX2_partInto_31 : decode cX2_partInto 31 = .ok (.ireturn, 1) := by decide +kernel
theorem dX2_pieceInto_0 : decode cX2_pieceInto 0 = .ok (.aload_n 0, 1) := by decide +kernel
theorem dX2_pieceInto_1 : decode cX2_pieceInto 1 = .ok (.aload_n 0, 1) := by decide +kernel
theorem dX2_pieceInto_2 : decode cX2_pieceInto 2 = .ok (.getfield 26, 3) := by decide +kernel
theorem dX2_pieceInto_5 : decode cX2_pieceInto 5 = .ok (.invokevirtual 239, 3) := by decide +kernel
theorem dX2_pieceInto_8 : decode cX2_pieceInto 8 = .ok (.aload_n 0, 1) := by decide +kernel
theorem dX2_pieceInto_9 : decode cX2_pieceInto 9 = .ok (.getfield 26, 3) := by decide +kernel
theorem dX2_pieceInto_12 : decode cX2_pieceInto 12 = .ok (.iload_n 1, 1) := by decide +kernel
theorem dX2_pieceInto_13 : decode cX2_pieceInto 13 = .ok (.invokevirtual 222, 3) := by decide +kernel
theorem dX2_pieceInto_16 : decode cX2_pieceInto 16 = .ok (.aload_n 0, 1) := by decide +kernel
theorem dX2_pieceInto_17 : decode cX2_pieceInto 17 = .ok (.getfield 26, 3) := by decide +kernel
theorem dX2_pieceInto_20 : decode cX2_pieceInto 20 = .ok (.iload_n 1, 1) := by decide +kernel
theorem dX2_pieceInto_21 : decode cX2_pieceInto 21 = .ok (.invokevirtual 219, 3) := by decide +kernel
theorem dX2_pieceInto_24 : decode cX2_pieceInto 24 = .ok (.aload_n 2, 1) := by decide +kernel
theorem dX2_pieceInto_25 : decode cX2_pieceInto 25 = .ok (.invokevirtual 70, 3) := by decide +kernel
theorem dX2_pieceInto_28 : decode cX2_pieceInto 28 = .ok (.ireturn, 1) := by decide +kernel
theorem dX2_wordOfKnown_0 : decode cX2_wordOfKnown 0 = .ok (.iload_n 0, 1) := by decide +kernel
theorem dX2_wordOfKnown_1 : decode cX2_wordOfKnown 1 = .ok (.tableswitch 57 1 6 #[39, 42, 45, 48, 51, 54], 39) := by decide +kernel
theorem dX2_wordOfKnown_40 : decode cX2_wordOfKnown 40 = .ok (.ldc 243, 2) := by decide +kernel
theorem dX2_wordOfKnown_42 : decode cX2_wordOfKnown 42 = .ok (.areturn, 1) := by decide +kernel
theorem dX2_wordOfKnown_43 : decode cX2_wordOfKnown 43 = .ok (.ldc 245, 2) := by decide +kernel
theorem dX2_wordOfKnown_45 : decode cX2_wordOfKnown 45 = .ok (.areturn, 1) := by decide +kernel
theorem dX2_wordOfKnown_46 : decode cX2_wordOfKnown 46 = .ok (.ldc 247, 2) := by decide +kernel
theorem dX2_wordOfKnown_48 : decode cX2_wordOfKnown 48 = .ok (.areturn, 1) := by decide +kernel
theorem dX2_wordOfKnown_49 : decode cX2_wordOfKnown 49 = .ok (.ldc 249, 2) := by decide +kernel
theorem dX2_wordOfKnown_51 : decode cX2_wordOfKnown 51 = .ok (.areturn, 1) := by decide +kernel
theorem dX2_wordOfKnown_52 : decode cX2_wordOfKnown 52 = .ok (.ldc 251, 2) := by decide +kernel
theorem dX2_wordOfKnown_54 : decode cX2_wordOfKnown 54 = .ok (.areturn, 1) := by decide +kernel
theorem dX2_wordOfKnown_55 : decode cX2_wordOfKnown 55 = .ok (.ldc 253, 2) := by decide +kernel
theorem dX2_wordOfKnown_57 : decode cX2_wordOfKnown 57 = .ok (.areturn, 1) := by decide +kernel
theorem dX2_wordOfKnown_58 : decode cX2_wordOfKnown 58 = .ok (.ldc 255, 2) := by decide +kernel
theorem dX2_wordOfKnown_60 : decode cX2_wordOfKnown 60 = .ok (.areturn, 1) := by decide +kernel
abbrev rmX2_addSignOrNone : Room := { frames := 7, cells := 1, slots := 6, locals := 109 }
theorem mX2_addSignOrNone {l : Launch} {G : Cx} {A : Nat → Prop} (hst : l.stackTraces = false) {SA : Nat → Nat} {T : Nat → List Nat} {es es2 : List Nat} {k : Int32} {x : Int32} (hAS : ∀ i : Nat, i < 39 → A (SA i)) : vx_Met l yX2_addSignOrNone (.code yX2_addSignOrNone cX2_addSignOrNone 2 (none : Option Jvm.ClassFile.FieldType) :: GW) rmX2_addSignOrNone (PC G A [.ref (SA 0), .int x] (SW G SA T es es2 k)) (qV A (fun H => ∃ w, addS (T 12) x w ∧ SW G SA (updT T 12 w) es es2 k H)) (xE A (fun E H => E = "java/lang/IllegalArgumentException" ∧ x ≠ -1 ∧ (¬ ∃ i : Nat, i < 24 ∧ x = nI i) ∧ SW G SA T es es2 k H)) 1 6 A := by
  refine mstartX "Signtext" (by decide +kernel) rfl (Nat.le_of_ble_eq_true rfl) ?_
  intro p e s m below meth c ls hx hb hr hts hown hml hlocks hnx hC hA hW hl
  have hl : lv_has ls 2 [(0, .ref (SA 0)), (1, .int x)] := hl
  have hK := hC.1
  have hS : va_S A s.heap s.heap [] := va_S.rf
  have hO := hW.2.1
  have hR1 := hW.2.2.1
  have hR2 := hW.2.2.2.1
  refine lv_iload_n hx hb dX2_addSignOrNone_0 rfl (lv_at hl 1 rfl) ?_
  refine lv_iconst (v := (-1)) hx hb dX2_addSignOrNone_1 (by decide) ?_
  refine lv_icmp_eq (tgt := 16) hx hb dX2_addSignOrNone_2 (by decide) (fun c_1 => ?_) (fun c_1 => ?_)
  · exact vx_ret (q_v hx hb hr hlocks dX2_addSignOrNone_16 hS (by omega) (by omega) ⟨T 12, Or.inl ⟨c_1, rfl⟩, by rw [updT_id]; exact hW⟩)
  · refine lv_aload_n hx hb dX2_addSignOrNone_5 rfl (lv_at hl 0 rfl) ?_
    refine va_get (D := G.1) (ci := 6) (C := RX2) (T := TX2) (N := 8) hx hb hts inX2 hown hK (at_P hO) 0 rfl rfl 5 (by decide) (hts _ tw_1_142) (fun _ h9 => h9) rfl dX2_addSignOrNone_6 ?_
    refine lv_iload_n hx hb dX2_addSignOrNone_9 rfl (lv_at hl 1 rfl) ?_
    refine xI_S (A := A) (A1 := A)  (As := [.int x]) (rest := .ref (SA 31) :: []) ⟨hx, hb, hml, hown, hts⟩ (mX2_codeOf (A := A) hst ) (va_cwS 1 hts (gS tw_3_27 tw_3_28 tw_1_1 tw_3_29) rfl rfl rfl (by decide +kernel) ⟨Nat.le_of_ble_eq_true rfl, Nat.le_of_ble_eq_true rfl⟩) hC hS (fun _ h => h) (fun q h => hA q (Nat.le_trans hS.1 h))  hW rfl rfl hl.1 (Nat.le_of_ble_eq_true rfl) ⟨Nat.le_trans (show 0 + 1 ≤ 1 by omega) (Nat.le_of_ble_eq_true rfl), Nat.le_trans (show 0 + 6 ≤ 6 by omega) (Nat.le_of_ble_eq_true rfl)⟩ dX2_addSignOrNone_10 hnx hlocks (by omega) (by omega) (fun E H9 q _ => ⟨q.1, c_1, q.2.1, q.2.2⟩) (fun rv2 H2 L2 hP2 hk2 hS => ?_)
    have hZ2 := hS.1
    obtain ⟨⟨i, hi, hxi, hrv⟩, hW⟩ := hP2
    subst hrv
    refine qV_V (A := A) (A1 := ow (SA (7 + 2 * 12)) (SA (8 + 2 * 12)) H2.size) (b := (SA 31)) (As := [.int (nI (codeT.getD i 0))]) (rest := []) ⟨hx, hb, hml, hown, hts⟩ (mX0_addCode (A := ow (SA (7 + 2 * 12)) (SA (8 + 2 * 12)) H2.size) (ca := SA (8 + 2 * 12)) (k0 := codeT.getD i 0) (Or.inl rfl) (Or.inr (Or.inl rfl)) (codeT_lt i)) (cwV 1 hts (gV tw_2_86 tw_1_134 tw_1_135 tw_1_2 tw_1_136) rfl rfl rfl (by decide +kernel) ⟨Nat.le_of_ble_eq_true rfl, Nat.le_of_ble_eq_true rfl⟩) hC hS (ow_in (hAS _ (by omega)) (hAS _ (by omega)) hA hS.1) ow_n ((hW.line (i := 12) (by omega)).recv hK) (hW.line (i := 12) (by omega)) rfl rfl hl.1 (Nat.le_of_ble_eq_true rfl) ⟨Nat.le_trans (show (0 + 1) ≤ 1 by omega) (Nat.le_of_ble_eq_true rfl), Nat.le_trans (show (0 + 6) ≤ 6 by omega) (Nat.le_of_ble_eq_true rfl)⟩ dX2_addSignOrNone_13 (fun H3 L3 hP3 hk3 hS => ?_)
    have hZ3 := hS.1
    have hW := hW.put (q := 12) (t := (T 12 ++ [codeT.getD i 0]).take 60) (by omega) hk3 hP3
    exact vx_ret (q_v hx hb hr hlocks dX2_addSignOrNone_16 hS (by omega) (by omega) ⟨_, Or.inr ⟨i, hi, hxi, rfl⟩, hW⟩)

abbrev rmX2_joinInto : Room := { frames := 7, cells := 1, slots := 6, locals := 109 }
theorem mX2_joinInto {l : Launch} {G : Cx} {A : Nat → Prop} (hst : l.stackTraces = false) {SA : Nat → Nat} {T : Nat → List Nat} {es es2 : List Nat} {k : Int32} {i j q : Nat} (hAS : ∀ i : Nat, i < 39 → A (SA i)) (hi : i < 16) (hj : j < 16) (hi13 : i ≠ 13) (hj13 : j ≠ 13) (hq : q < 4 ∨ 11 ≤ q ∧ q < 13) : vx_Met l yX2_joinInto (.code yX2_joinInto cX2_joinInto 4 (some .int) :: GW) rmX2_joinInto (PC G A [.ref (SA 0), .ref (SA (7 + 2 * i)), .ref (SA (7 + 2 * j)), .ref (SA (7 + 2 * q))] (SW G SA T es es2 k)) (qI A (fun r H => r = nI (T i ++ T j).length ∧ (T i ++ T j).length ≤ 60 ∧ SW G SA (updT (updT T 13 (T i ++ T j)) q (T i ++ T j)) es es2 k H)) (xE A (fun E H => E = "java/lang/IllegalStateException" ∧ 60 < (T i ++ T j).length ∧ SW G SA T es es2 k H)) 1 6 A := by
  refine mstartX "Signtext" (by decide +kernel) rfl (Nat.le_of_ble_eq_true rfl) ?_
  intro p e s m below meth c ls hx hb hr hts hown hml hlocks hnx hC hA hW hl
  have hl : lv_has ls 4 [(0, .ref (SA 0)), (1, .ref (SA (7 + 2 * i))), (2, .ref (SA (7 + 2 * j))), (3, .ref (SA (7 + 2 * q)))] := hl
  have hK := hC.1
  have hS : va_S A s.heap s.heap [] := va_S.rf
  have i60 := (hW.line hi).1
  have j60 := (hW.line hj).1
  have hlen : (T i ++ T j).length = (T i).length + (T j).length := List.length_append
  have hO := hW.2.1
  have hR1 := hW.2.2.1
  have hR2 := hW.2.2.2.1
  refine lv_aload_n hx hb dX2_joinInto_0 rfl (lv_at hl 1 rfl) ?_
  refine kV_i (A := A) (b := (SA (7 + 2 * i))) (As := []) (rest := []) ⟨hx, hb, hml, hown, hts⟩ (mX0_size (A := A) (ca := SA (8 + 2 * i))) (cwV 0 hts (gV tw_2_30 tw_2_12 tw_2_13 tw_1_2 tw_2_14) rfl rfl rfl (by decide +kernel) ⟨Nat.le_of_ble_eq_true rfl, Nat.le_of_ble_eq_true rfl⟩) hC hS hA ((hW.line hi).recv hK) (hW.line hi) rfl rfl hl.1 (Nat.le_of_ble_eq_true rfl) ⟨Nat.zero_le _, Nat.zero_le _⟩ dX2_joinInto_1 (fun r9 h9 => lv_cv h9 ?_)
  refine lv_aload_n hx hb dX2_joinInto_4 rfl (lv_at hl 2 rfl) ?_
  refine kV_i (A := A) (b := (SA (7 + 2 * j))) (As := []) (rest := .int (nI ((T i).length)) :: []) ⟨hx, hb, hml, hown, hts⟩ (mX0_size (A := A) (ca := SA (8 + 2 * j))) (cwV 0 hts (gV tw_2_30 tw_2_12 tw_2_13 tw_1_2 tw_2_14) rfl rfl rfl (by decide +kernel) ⟨Nat.le_of_ble_eq_true rfl, Nat.le_of_ble_eq_true rfl⟩) hC hS hA ((hW.line hj).recv hK) (hW.line hj) rfl rfl hl.1 (Nat.le_of_ble_eq_true rfl) ⟨Nat.zero_le _, Nat.zero_le _⟩ dX2_joinInto_5 (fun r9 h9 => lv_cv h9 ?_)
  refine lv_iadd hx hb dX2_joinInto_8 ?_
  refine lv_cv (nI_add ((T i).length) ((T j).length)) ?_
  rw [← hlen]
  refine xV_S (A := A) (A1 := A)  (As := [.int (nI ((T i ++ T j).length))]) (rest := []) ⟨hx, hb, hml, hown, hts⟩ (mX2_needRoom (A := A) hst (SA := SA) (T := T) (es := es) (es2 := es2) (k := k) (n := (T i ++ T j).length) (by omega)) (va_cwS 1 hts (gS tw_3_36 tw_3_37 tw_1_1 tw_3_38) rfl rfl rfl (by decide +kernel) ⟨Nat.le_of_ble_eq_true rfl, Nat.le_of_ble_eq_true rfl⟩) hC hS (fun _ h => h) (fun q h => hA q (Nat.le_trans hS.1 h))  hW rfl rfl hl.1 (Nat.le_of_ble_eq_true rfl) ⟨Nat.le_trans (show 0 + 1 ≤ 1 by omega) (Nat.le_of_ble_eq_true rfl), Nat.le_trans (show 0 + 6 ≤ 6 by omega) (Nat.le_of_ble_eq_true rfl)⟩ dX2_joinInto_9 hnx hlocks (by omega) (by omega) (fun E H9 q _ => q) (fun H4 L4 hP4 hk4 hS => ?_)
  have hZ4 := hS.1
  obtain ⟨h60, hW⟩ := hP4
  have hO := hW.2.1
  have hR1 := hW.2.2.1
  have hR2 := hW.2.2.2.1
  refine lv_aload_n hx hb dX2_joinInto_12 rfl (lv_at hl 0 rfl) ?_
  refine va_get (D := G.1) (ci := 6) (C := RX2) (T := TX2) (N := 8) hx hb hts inX2 hown hK (at_P hO) 0 rfl rfl 6 (by decide) (hts _ tw_1_143) (fun _ h9 => h9) rfl dX2_joinInto_13 ?_
  refine qV_V (A := A) (A1 := ow (SA (7 + 2 * 13)) (SA (8 + 2 * 13)) H4.size) (b := (SA 33)) (As := []) (rest := []) ⟨hx, hb, hml, hown, hts⟩ (mX0_empty (A := ow (SA (7 + 2 * 13)) (SA (8 + 2 * 13)) H4.size) (ca := SA (8 + 2 * 13)) (Or.inl rfl)) (cwV 0 hts (gV tw_2_31 tw_2_32 tw_2_33 tw_1_2 tw_2_34) rfl rfl rfl (by decide +kernel) ⟨Nat.le_of_ble_eq_true rfl, Nat.le_of_ble_eq_true rfl⟩) hC hS (ow_in (hAS _ (by omega)) (hAS _ (by omega)) hA hS.1) ow_n ((hW.line (i := 13) (by omega)).recv hK) (hW.line (i := 13) (by omega)) rfl rfl hl.1 (Nat.le_of_ble_eq_true rfl) ⟨Nat.le_trans (show (0 + 1) ≤ 1 by omega) (Nat.le_of_ble_eq_true rfl), Nat.le_trans (show (0 + 6) ≤ 6 by omega) (Nat.le_of_ble_eq_true rfl)⟩ dX2_joinInto_16 (fun H5 L5 hP5 hk5 hS => ?_)
  have hZ5 := hS.1
  have hW := hW.put (q := 13) (t := []) (by omega) hk5 hP5
  have hO := hW.2.1
  have hR1 := hW.2.2.1
  have hR2 := hW.2.2.2.1
  refine lv_aload_n hx hb dX2_joinInto_19 rfl (lv_at hl 0 rfl) ?_
  refine va_get (D := G.1) (ci := 6) (C := RX2) (T := TX2) (N := 8) hx hb hts inX2 hown hK (at_P hO) 0 rfl rfl 6 (by decide) (hts _ tw_1_143) (fun _ h9 => h9) rfl dX2_joinInto_20 ?_
  refine lv_aload_n hx hb dX2_joinInto_23 rfl (lv_at hl 1 rfl) ?_
  have e1 : updT T 13 [] i = T i := updT_n hi13
  have e2 : updT T 13 [] j = T j := updT_n hj13
  refine qV_V (A := A) (A1 := ow (SA (7 + 2 * 13)) (SA (8 + 2 * 13)) H5.size) (b := (SA 33)) (As := [.ref (SA (7 + 2 * i))]) (rest := []) ⟨hx, hb, hml, hown, hts⟩ (mX0_addAll (A := ow (SA (7 + 2 * 13)) (SA (8 + 2 * 13)) H5.size) (ca := SA (8 + 2 * 13)) (cb := SA (8 + 2 * i)) (t := []) (u := T i) (Or.inl rfl) (Or.inr (Or.inl rfl)) ⟨hW.ne (i := 7 + 2 * i) (j := 7 + 2 * 13) (by omega) (by omega) (by omega), hW.ne (i := 7 + 2 * i) (j := 8 + 2 * 13) (by omega) (by omega) (by omega), hW.ne (i := 8 + 2 * i) (j := 7 + 2 * 13) (by omega) (by omega) (by omega), hW.ne (i := 8 + 2 * i) (j := 8 + 2 * 13) (by omega) (by omega) (by omega)⟩) (cwV 1 hts (gV tw_3_54 tw_3_55 tw_3_56 tw_1_2 tw_3_57) rfl rfl rfl (by decide +kernel) ⟨Nat.le_of_ble_eq_true rfl, Nat.le_of_ble_eq_true rfl⟩) hC hS (ow_in (hAS _ (by omega)) (hAS _ (by omega)) hA hS.1) ow_n ((hW.line (i := 13) (by omega)).recv hK) ⟨by have h := hW.line (i := 13) (by omega); rw [updT_s] at h; exact h, by rw [← e1]; exact hW.line hi⟩ rfl rfl hl.1 (Nat.le_of_ble_eq_true rfl) ⟨Nat.le_trans (show (0 + 1) ≤ 1 by omega) (Nat.le_of_ble_eq_true rfl), Nat.le_trans (show (0 + 6) ≤ 6 by omega) (Nat.le_of_ble_eq_true rfl)⟩ dX2_joinInto_24 (fun H6 L6 hP6 hk6 hS => ?_)
  have hZ6 := hS.1
  have hW := hW.put (q := 13) (t := T i) (by omega) hk6 (by have h := hP6.1; rw [List.nil_append, List.take_of_length_le i60] at h; exact h)
  rw [updT_2] at hW
  have hO := hW.2.1
  have hR1 := hW.2.2.1
  have hR2 := hW.2.2.2.1
  refine lv_aload_n hx hb dX2_joinInto_27 rfl (lv_at hl 0 rfl) ?_
  refine va_get (D := G.1) (ci := 6) (C := RX2) (T := TX2) (N := 8) hx hb hts inX2 hown hK (at_P hO) 0 rfl rfl 6 (by decide) (hts _ tw_1_143) (fun _ h9 => h9) rfl dX2_joinInto_28 ?_
  refine lv_aload_n hx hb dX2_joinInto_31 rfl (lv_at hl 2 rfl) ?_
  have e2 : updT T 13 (T i) j = T j := updT_n hj13
  refine qV_V (A := A) (A1 := ow (SA (7 + 2 * 13)) (SA (8 + 2 * 13)) H6.size) (b := (SA 33)) (As := [.ref (SA (7 + 2 * j))]) (rest := []) ⟨hx, hb, hml, hown, hts⟩ (mX0_addAll (A := ow (SA (7 + 2 * 13)) (SA (8 + 2 * 13)) H6.size) (ca := SA (8 + 2 * 13)) (cb := SA (8 + 2 * j)) (t := T i) (u := T j) (Or.inl rfl) (Or.inr (Or.inl rfl)) ⟨hW.ne (i := 7 + 2 * j) (j := 7 + 2 * 13) (by omega) (by omega) (by omega), hW.ne (i := 7 + 2 * j) (j := 8 + 2 * 13) (by omega) (by omega) (by omega), hW.ne (i := 8 + 2 * j) (j := 7 + 2 * 13) (by omega) (by omega) (by omega), hW.ne (i := 8 + 2 * j) (j := 8 + 2 * 13) (by omega) (by omega) (by omega)⟩) (cwV 1 hts (gV tw_3_54 tw_3_55 tw_3_56 tw_1_2 tw_3_57) rfl rfl rfl (by decide +kernel) ⟨Nat.le_of_ble_eq_true rfl, Nat.le_of_ble_eq_true rfl⟩) hC hS (ow_in (hAS _ (by omega)) (hAS _ (by omega)) hA hS.1) ow_n ((hW.line (i := 13) (by omega)).recv hK) ⟨by have h := hW.line (i := 13) (by omega); rw [updT_s] at h; exact h, by rw [← e2]; exact hW.line hj⟩ rfl rfl hl.1 (Nat.le_of_ble_eq_true rfl) ⟨Nat.le_trans (show (0 + 1) ≤ 1 by omega) (Nat.le_of_ble_eq_true rfl), Nat.le_trans (show (0 + 6) ≤ 6 by omega) (Nat.le_of_ble_eq_true rfl)⟩ dX2_joinInto_32 (fun H7 L7 hP7 hk7 hS => ?_)
  have hZ7 := hS.1
  have hW := hW.put (q := 13) (t := T i ++ T j) (by omega) hk7 (by have h := hP7.1; rw [List.take_of_length_le h60] at h; exact h)
  rw [updT_2] at hW
  have hO := hW.2.1
  have hR1 := hW.2.2.1
  have hR2 := hW.2.2.2.1
  refine lv_aload_n hx hb dX2_joinInto_35 rfl (lv_at hl 3 rfl) ?_
  refine lv_aload_n hx hb dX2_joinInto_36 rfl (lv_at hl 0 rfl) ?_
  refine va_get (D := G.1) (ci := 6) (C := RX2) (T := TX2) (N := 8) hx hb hts inX2 hown hK (at_P hO) 0 rfl rfl 6 (by decide) (hts _ tw_1_143) (fun _ h9 => h9) rfl dX2_joinInto_37 ?_
  have e3 : updT T 13 (T i ++ T j) q = T q := updT_n (by omega)
  refine qV_V (A := A) (A1 := ow (SA (7 + 2 * q)) (SA (8 + 2 * q)) H7.size) (b := (SA (7 + 2 * q))) (As := [.ref (SA 33)]) (rest := []) ⟨hx, hb, hml, hown, hts⟩ (mX0_become (A := ow (SA (7 + 2 * q)) (SA (8 + 2 * q)) H7.size) (ca := SA (8 + 2 * q)) (cb := SA (8 + 2 * 13)) (t := T q) (u := T i ++ T j) (Or.inl rfl) (Or.inr (Or.inl rfl)) ⟨hW.ne (i := 7 + 2 * 13) (j := 7 + 2 * q) (by omega) (by omega) (by omega), hW.ne (i := 7 + 2 * 13) (j := 8 + 2 * q) (by omega) (by omega) (by omega), hW.ne (i := 8 + 2 * 13) (j := 7 + 2 * q) (by omega) (by omega) (by omega), hW.ne (i := 8 + 2 * 13) (j := 8 + 2 * q) (by omega) (by omega) (by omega)⟩) (cwV 1 hts (gV tw_2_3 tw_2_4 tw_2_5 tw_1_2 tw_2_6) rfl rfl rfl (by decide +kernel) ⟨Nat.le_of_ble_eq_true rfl, Nat.le_of_ble_eq_true rfl⟩) hC hS (ow_in (hAS _ (by omega)) (hAS _ (by omega)) hA hS.1) ow_n ((hW.line (i := q) (by omega)).recv hK) ⟨by rw [← e3]; exact hW.line (i := q) (by omega), by have h := hW.line (i := 13) (by omega); rw [updT_s] at h; exact h⟩ rfl rfl hl.1 (Nat.le_of_ble_eq_true rfl) ⟨Nat.le_trans (show (0 + 1) ≤ 1 by omega) (Nat.le_of_ble_eq_true rfl), Nat.le_trans (show (0 + 6) ≤ 6 by omega) (Nat.le_of_ble_eq_true rfl)⟩ dX2_joinInto_40 (fun H8 L8 hP8 hk8 hS => ?_)
  have hZ8 := hS.1
  have hW := hW.put (q := q) (t := T i ++ T j) (by omega) hk8 hP8.1
  refine lv_aload_n hx hb dX2_joinInto_43 rfl (lv_at hl 3 rfl) ?_
  have hLq := hW.line (i := q) (by omega)
  rw [updT_s] at hLq
  refine kV_i (A := A) (b := (SA (7 + 2 * q))) (As := []) (rest := []) ⟨hx, hb, hml, hown, hts⟩ (mX0_size (A := A) (ca := SA (8 + 2 * q))) (cwV 0 hts (gV tw_2_30 tw_2_12 tw_2_13 tw_1_2 tw_2_14) rfl rfl rfl (by decide +kernel) ⟨Nat.le_of_ble_eq_true rfl, Nat.le_of_ble_eq_true rfl⟩) hC hS hA (hLq.recv hK) hLq rfl rfl hl.1 (Nat.le_of_ble_eq_true rfl) ⟨Nat.le_trans (show (0 + 1) ≤ 1 by omega) (Nat.le_of_ble_eq_true rfl), Nat.le_trans (show (0 + 6) ≤ 6 by omega) (Nat.le_of_ble_eq_true rfl)⟩ dX2_joinInto_44 (fun r9 h9 => lv_cv h9 ?_)
  exact vx_ret (q_i hx hb hr hlocks dX2_joinInto_47 hS (by omega) (by omega) ⟨rfl, h60, hW⟩)

abbrev rmX2_partInto : Room := { frames := 3, cells := 0, slots := 0, locals := 65 }
theorem mX2_partInto {l : Launch} {G : Cx} {A : Nat → Prop} {SA : Nat → Nat} {T : Nat → List Nat} {es es2 : List Nat} {k : Int32} {i q a9 b9 : Nat} (hAS : ∀ i : Nat, i < 39 → A (SA i)) (hi : i < 16) (hi13 : i ≠ 13) (hq : q < 4 ∨ 11 ≤ q ∧ q < 13) (hab : a9 ≤ b9) (hb9 : b9 ≤ (T i).length) : Met l yX2_partInto (.code yX2_partInto cX2_partInto 5 (some .int) :: GW) rmX2_partInto (PC G A [.ref (SA 0), .ref (SA (7 + 2 * i)), .int (nI a9), .int (nI b9), .ref (SA (7 + 2 * q))] (SW G SA T es es2 k)) (qI A (fun r H => r = nI (cutL (T i) a9 b9).length ∧ SW G SA (updT (updT T 13 (cutL (T i) a9 b9)) q (cutL (T i) a9 b9)) es es2 k H)) 0 0 (A) := by
  refine mstart "Signtext" (by decide +kernel) rfl (Nat.le_of_ble_eq_true rfl) ?_
  intro p e s m below meth c ls hx hb hr hts hown hml hlocks hname hC hA hW hl
  have hl : lv_has ls 5 [(0, .ref (SA 0)), (1, .ref (SA (7 + 2 * i))), (2, .int (nI a9)), (3, .int (nI b9)), (4, .ref (SA (7 + 2 * q)))] := hl
  have hK := hC.1
  have hS : va_S A s.heap s.heap [] := va_S.rf
  have i60 := (hW.line hi).1
  have h60 : (cutL (T i) a9 b9).length ≤ 60 := Nat.le_trans (cutL_le _ _ _) i60
  have hO := hW.2.1
  have hR1 := hW.2.2.1
  have hR2 := hW.2.2.2.1
  refine lv_aload_n hx hb dX2_partInto_0 rfl (lv_at hl 0 rfl) ?_
  refine va_get (D := G.1) (ci := 6) (C := RX2) (T := TX2) (N := 8) hx hb hts inX2 hown hK (at_P hO) 0 rfl rfl 6 (by decide) (hts _ tw_1_143) (fun _ h9 => h9) rfl dX2_partInto_1 ?_
  refine qV_V (A := A) (A1 := ow (SA (7 + 2 * 13)) (SA (8 + 2 * 13)) s.heap.size) (b := (SA 33)) (As := []) (rest := []) ⟨hx, hb, hml, hown, hts⟩ (mX0_empty (A := ow (SA (7 + 2 * 13)) (SA (8 + 2 * 13)) s.heap.size) (ca := SA (8 + 2 * 13)) (Or.inl rfl)) (cwV 0 hts (gV tw_2_31 tw_2_32 tw_2_33 tw_1_2 tw_2_34) rfl rfl rfl (by decide +kernel) ⟨Nat.le_of_ble_eq_true rfl, Nat.le_of_ble_eq_true rfl⟩) hC hS (ow_in (hAS _ (by omega)) (hAS _ (by omega)) hA (Nat.le_refl _)) ow_n ((hW.line (i := 13) (by omega)).recv hK) (hW.line (i := 13) (by omega)) rfl rfl hl.1 (Nat.le_of_ble_eq_true rfl) ⟨Nat.zero_le _, Nat.zero_le _⟩ dX2_partInto_4 (fun H9 L9 hP9 hk9 hS => ?_)
  have hZ9 := hS.1
  have hW := hW.put (q := 13) (t := []) (by omega) hk9 hP9
  have hO := hW.2.1
  have hR1 := hW.2.2.1
  have hR2 := hW.2.2.2.1
  refine lv_aload_n hx hb dX2_partInto_7 rfl (lv_at hl 0 rfl) ?_
  refine va_get (D := G.1) (ci := 6) (C := RX2) (T := TX2) (N := 8) hx hb hts inX2 hown hK (at_P hO) 0 rfl rfl 6 (by decide) (hts _ tw_1_143) (fun _ h9 => h9) rfl dX2_partInto_8 ?_
  refine lv_aload_n hx hb dX2_partInto_11 rfl (lv_at hl 1 rfl) ?_
  refine lv_iload_n hx hb dX2_partInto_12 rfl (lv_at hl 2 rfl) ?_
  refine lv_iload_n hx hb dX2_partInto_13 rfl (lv_at hl 3 rfl) ?_
  have e1 : updT T 13 [] i = T i := updT_n hi13
  refine qV_V (A := A) (A1 := ow (SA (7 + 2 * 13)) (SA (8 + 2 * 13)) H9.size) (b := (SA 33)) (As := [.ref (SA (7 + 2 * i)), .int (nI a9), .int (nI b9)]) (rest := []) ⟨hx, hb, hml, hown, hts⟩ (mX0_addPart (A := ow (SA (7 + 2 * 13)) (SA (8 + 2 * 13)) H9.size) (ca := SA (8 + 2 * 13)) (cb := SA (8 + 2 * i)) (t := []) (u := T i) (i := a9) (i2 := b9) (Or.inl rfl) (Or.inr (Or.inl rfl)) ⟨hW.ne (i := 7 + 2 * i) (j := 7 + 2 * 13) (by omega) (by omega) (by omega), hW.ne (i := 7 + 2 * i) (j := 8 + 2 * 13) (by omega) (by omega) (by omega), hW.ne (i := 8 + 2 * i) (j := 7 + 2 * 13) (by omega) (by omega) (by omega), hW.ne (i := 8 + 2 * i) (j := 8 + 2 * 13) (by omega) (by omega) (by omega)⟩ hab hb9) (cwV 3 hts (gV tw_2_35 tw_2_36 tw_2_37 tw_1_2 tw_2_38) rfl rfl rfl (by decide +kernel) ⟨Nat.le_of_ble_eq_true rfl, Nat.le_of_ble_eq_true rfl⟩) hC hS (ow_in (hAS _ (by omega)) (hAS _ (by omega)) hA hS.1) ow_n ((hW.line (i := 13) (by omega)).recv hK) ⟨by have h := hW.line (i := 13) (by omega); rw [updT_s] at h; exact h, by rw [← e1]; exact hW.line hi⟩ rfl rfl hl.1 (Nat.le_of_ble_eq_true rfl) ⟨Nat.zero_le _, Nat.zero_le _⟩ dX2_partInto_14 (fun H10 L10 hP10 hk10 hS => ?_)
  have hZ10 := hS.1
  have hW := hW.put (q := 13) (t := cutL (T i) a9 b9) (by omega) hk10 (by have h := hP10.1; rw [List.nil_append, List.take_of_length_le h60] at h; exact h)
  rw [updT_2] at hW
  have hO := hW.2.1
  have hR1 := hW.2.2.1
  have hR2 := hW.2.2.2.1
  refine lv_aload hx hb dX2_partInto_17 (lv_at hl 4 rfl) ?_
  refine lv_aload_n hx hb dX2_partInto_19 rfl (lv_at hl 0 rfl) ?_
  refine va_get (D := G.1) (ci := 6) (C := RX2) (T := TX2) (N := 8) hx hb hts inX2 hown hK (at_P hO) 0 rfl rfl 6 (by decide) (hts _ tw_1_143) (fun _ h9 => h9) rfl dX2_partInto_20 ?_
  have e3 : updT T 13 (cutL (T i) a9 b9) q = T q := updT_n (by omega)
  refine qV_V (A := A) (A1 := ow (SA (7 + 2 * q)) (SA (8 + 2 * q)) H10.size) (b := (SA (7 + 2 * q))) (As := [.ref (SA 33)]) (rest := []) ⟨hx, hb, hml, hown, hts⟩ (mX0_become (A := ow (SA (7 + 2 * q)) (SA (8 + 2 * q)) H10.size) (ca := SA (8 + 2 * q)) (cb := SA (8 + 2 * 13)) (t := T q) (u := cutL (T i) a9 b9) (Or.inl rfl) (Or.inr (Or.inl rfl)) ⟨hW.ne (i := 7 + 2 * 13) (j := 7 + 2 * q) (by omega) (by omega) (by omega), hW.ne (i := 7 + 2 * 13) (j := 8 + 2 * q) (by omega) (by omega) (by omega), hW.ne (i := 8 + 2 * 13) (j := 7 + 2 * q) (by omega) (by omega) (by omega), hW.ne (i := 8 + 2 * 13) (j := 8 + 2 * q) (by omega) (by omega) (by omega)⟩) (cwV 1 hts (gV tw_2_3 tw_2_4 tw_2_5 tw_1_2 tw_2_6) rfl rfl rfl (by decide +kernel) ⟨Nat.le_of_ble_eq_true rfl, Nat.le_of_ble_eq_true rfl⟩) hC hS (ow_in (hAS _ (by omega)) (hAS _ (by omega)) hA hS.1) ow_n ((hW.line (i := q) (by omega)).recv hK) ⟨by rw [← e3]; exact hW.line (i := q) (by omega), by have h := hW.line (i := 13) (by omega); rw [updT_s] at h; exact h⟩ rfl rfl hl.1 (Nat.le_of_ble_eq_true rfl) ⟨Nat.zero_le _, Nat.zero_le _⟩ dX2_partInto_23 (fun H11 L11 hP11 hk11 hS => ?_)
  have hZ11 := hS.1
  have hW := hW.put (q := q) (t := cutL (T i) a9 b9) (by omega) hk11 hP11.1
  refine lv_aload hx hb dX2_partInto_26 (lv_at hl 4 rfl) ?_
  have hLq := hW.line (i := q) (by omega)
  rw [updT_s] at hLq
  refine kV_i (A := A) (b := (SA (7 + 2 * q))) (As := []) (rest := []) ⟨hx, hb, hml, hown, hts⟩ (mX0_size (A := A) (ca := SA (8 + 2 * q))) (cwV 0 hts (gV tw_2_30 tw_2_12 tw_2_13 tw_1_2 tw_2_14) rfl rfl rfl (by decide +kernel) ⟨Nat.le_of_ble_eq_true rfl, Nat.le_of_ble_eq_true rfl⟩) hC hS hA (hLq.recv hK) hLq rfl rfl hl.1 (Nat.le_of_ble_eq_true rfl) ⟨Nat.zero_le _, Nat.zero_le _⟩ dX2_partInto_28 (fun r9 h9 => lv_cv h9 ?_)
  exact q_i hx hb hr hlocks dX2_partInto_31 hS (Nat.le_refl _) (Nat.le_refl _) ⟨rfl, hW⟩

abbrev rmX2_pieceInto : Room := { frames := 4, cells := 0, slots := 0, locals := 89 }
theorem mX2_pieceInto {l : Launch} {G : Cx} {A : Nat → Prop} {SA : Nat → Nat} {T : Nat → List Nat} {es es2 : List Nat} {k : Int32} {q j : Nat} (hAS : ∀ i : Nat, i < 39 → A (SA i)) (hq : q < 4 ∨ 11 ≤ q ∧ q < 13) (hj : j < es.length) : Met l yX2_pieceInto (.code yX2_pieceInto cX2_pieceInto 3 (some .int) :: GW) rmX2_pieceInto (PC G A [.ref (SA 0), .int (nI j), .ref (SA (7 + 2 * q))] (SW G SA T es es2 k)) (qI A (fun r H => r = nI (cutL (T 14) (bgE es j) (es.getD j 0)).length ∧ SW G SA (updT (updT T 13 (cutL (T 14) (bgE es j) (es.getD j 0))) q (cutL (T 14) (bgE es j) (es.getD j 0))) es es2 k H)) 0 0 (A) := by
  refine mstart "Signtext" (by decide +kernel) rfl (Nat.le_of_ble_eq_true rfl) ?_
  intro p e s m below meth c ls hx hb hr hts hown hml hlocks hname hC hA hW hl
  have hl : lv_has ls 3 [(0, .ref (SA 0)), (1, .int (nI j)), (2, .ref (SA (7 + 2 * q)))] := hl
  have hK := hC.1
  have hS : va_S A s.heap s.heap [] := va_S.rf
  have hPB := hW.pcs.1
  have e61 := hPB.1
  have hok := hW.pcs.2.2.1 j hj
  have hO := hW.2.1
  have hR1 := hW.2.2.1
  have hR2 := hW.2.2.2.1
  refine lv_aload_n hx hb dX2_pieceInto_0 rfl (lv_at hl 0 rfl) ?_
  refine lv_aload_n hx hb dX2_pieceInto_1 rfl (lv_at hl 0 rfl) ?_
  refine va_get (D := G.1) (ci := 6) (C := RX2) (T := TX2) (N := 8) hx hb hts inX2 hown hK (at_P hO) 0 rfl rfl 3 (by decide) (hts _ tw_1_140) (fun _ h9 => h9) rfl dX2_pieceInto_2 ?_
  refine kV_a (A := A) (b := (SA 3)) (As := []) (rest := .ref (SA 0) :: []) ⟨hx, hb, hml, hown, hts⟩ (mX1_line (A := A) (la := SA 35) (ea := SA 4)) (cwV 0 hts (gV tw_2_87 tw_2_88 tw_2_89 tw_1_3 tw_2_90) rfl rfl rfl (by decide +kernel) ⟨Nat.le_of_ble_eq_true rfl, Nat.le_of_ble_eq_true rfl⟩) hC hS hA (hPB.recv hK) hPB rfl rfl hl.1 (Nat.le_of_ble_eq_true rfl) ⟨Nat.zero_le _, Nat.zero_le _⟩ dX2_pieceInto_5 (fun a_12 ha_12 => ?_)
  obtain rfl : a_12 = SA 35 := ha_12
  refine lv_aload_n hx hb dX2_pieceInto_8 rfl (lv_at hl 0 rfl) ?_
  refine va_get (D := G.1) (ci := 6) (C := RX2) (T := TX2) (N := 8) hx hb hts inX2 hown hK (at_P hO) 0 rfl rfl 3 (by decide) (hts _ tw_1_140) (fun _ h9 => h9) rfl dX2_pieceInto_9 ?_
  refine lv_iload_n hx hb dX2_pieceInto_12 rfl (lv_at hl 1 rfl) ?_
  refine kV_i (A := A) (b := (SA 3)) (As := [.int (nI j)]) (rest := .ref (SA 35) :: .ref (SA 0) :: []) ⟨hx, hb, hml, hown, hts⟩ (mX1_beginOf (A := A) (la := SA 35) (ea := SA 4) (es := es) (k := j) (by omega)) (cwV 1 hts (gV tw_2_91 tw_2_75 tw_2_76 tw_1_3 tw_2_77) rfl rfl rfl (by decide +kernel) ⟨Nat.le_of_ble_eq_true rfl, Nat.le_of_ble_eq_true rfl⟩) hC hS hA (hPB.recv hK) hPB rfl rfl hl.1 (Nat.le_of_ble_eq_true rfl) ⟨Nat.zero_le _, Nat.zero_le _⟩ dX2_pieceInto_13 (fun r9 h9 => lv_cv h9 ?_)
  refine lv_aload_n hx hb dX2_pieceInto_16 rfl (lv_at hl 0 rfl) ?_
  refine va_get (D := G.1) (ci := 6) (C := RX2) (T := TX2) (N := 8) hx hb hts inX2 hown hK (at_P hO) 0 rfl rfl 3 (by decide) (hts _ tw_1_140) (fun _ h9 => h9) rfl dX2_pieceInto_17 ?_
  refine lv_iload_n hx hb dX2_pieceInto_20 rfl (lv_at hl 1 rfl) ?_
  refine kV_i (A := A) (b := (SA 3)) (As := [.int (nI j)]) (rest := .int (nI (bgE es j)) :: .ref (SA 35) :: .ref (SA 0) :: []) ⟨hx, hb, hml, hown, hts⟩ (mX1_endOf (A := A) (la := SA 35) (ea := SA 4) (es := es) (k := j) hj) (cwV 1 hts (gV tw_2_92 tw_2_79 tw_2_80 tw_1_3 tw_2_81) rfl rfl rfl (by decide +kernel) ⟨Nat.le_of_ble_eq_true rfl, Nat.le_of_ble_eq_true rfl⟩) hC hS hA (hPB.recv hK) hPB rfl rfl hl.1 (Nat.le_of_ble_eq_true rfl) ⟨Nat.zero_le _, Nat.zero_le _⟩ dX2_pieceInto_21 (fun r9 h9 => lv_cv h9 ?_)
  refine lv_aload_n hx hb dX2_pieceInto_24 rfl (lv_at hl 2 rfl) ?_
  refine qI_V (A := A) (A1 := A) (b := (SA 0)) (As := [.ref (SA 35), .int (nI (bgE es j)), .int (nI (es.getD j 0)), .ref (SA (7 + 2 * q))]) (rest := []) ⟨hx, hb, hml, hown, hts⟩ (mX2_partInto (A := A) (SA := SA) (T := T) (es := es) (es2 := es2) (k := k) (i := 14) (q := q) (a9 := bgE es j) (b9 := es.getD j 0) hAS (by decide) (by decide) hq hok.1 hok.2) (cwV 4 hts (gV tw_2_55 tw_2_57 sel_X2_partInto tw_1_1 tw_2_58) rfl rfl rfl (by decide +kernel) ⟨Nat.le_of_ble_eq_true rfl, Nat.le_of_ble_eq_true rfl⟩) hC hS (fun _ h => h) (fun q h => hA q (Nat.le_trans hS.1 h)) (hW.recv hK) hW rfl rfl hl.1 (Nat.le_of_ble_eq_true rfl) ⟨Nat.zero_le _, Nat.zero_le _⟩ dX2_pieceInto_25 (fun rv13 H13 L13 hP13 hk13 hS => ?_)
  have hZ13 := hS.1
  exact q_i hx hb hr hlocks dX2_pieceInto_28 hS (Nat.le_refl _) (Nat.le_refl _) hP13

abbrev rmX2_addMade : Room := { frames := 8, cells := 1, slots := 6, locals := 132 }
theorem mX2_addMade {l : Launch} {G : Cx} {A : Nat → Prop} (hst : l.stackTraces = false) {SA : Nat → Nat} {T : Nat → List Nat} {es es2 : List Nat} {k : Int32} {i : Nat} {b : Bool} (hAS : ∀ i : Nat, i < 39 → A (SA i)) (hi : i < 4) : vx_Met l yX2_addMade (.code yX2_addMade cX2_addMade 3 (some .int) :: GW) rmX2_addMade (PC G A [.ref (SA 0), .ref (SA (7 + 2 * i)), .int (bI b)] (SW G SA T es es2 k)) (qI A (fun r H => r = nI ((if b then T 12 ++ T i else T i ++ T 12)).length ∧ ((if b then T 12 ++ T i else T i ++ T 12)).length ≤ 60 ∧ SW G SA (updT (updT T 13 (if b then T 12 ++ T i else T i ++ T 12)) i (if b then T 12 ++ T i else T i ++ T 12)) es es2 k H)) (xE A (fun E H => E = "java/lang/IllegalStateException" ∧ 60 < ((if b then T 12 ++ T i else T i ++ T 12)).length ∧ SW G SA T es es2 k H)) 1 6 A := by
  refine mstartX "Signtext" (by decide +kernel) rfl (Nat.le_of_ble_eq_true rfl) ?_
  intro p e s m below meth c ls hx hb hr hts hown hml hlocks hnx hC hA hW hl
  have hl : lv_has ls 3 [(0, .ref (SA 0)), (1, .ref (SA (7 + 2 * i))), (2, .int (bI b))] := hl
  have hK := hC.1
  have hS : va_S A s.heap s.heap [] := va_S.rf
  have hO := hW.2.1
  have hR1 := hW.2.2.1
  have hR2 := hW.2.2.2.1
  refine lv_iload_n hx hb dX2_addMade_0 rfl (lv_at hl 2 rfl) ?_
  refine f_eq (tgt := 17) hx hb dX2_addMade_1 (by decide) (fun c_14 => ?_) (fun c_14 => ?_)
  · subst c_14
    refine lv_aload_n hx hb dX2_addMade_17 rfl (lv_at hl 0 rfl) ?_
    refine lv_aload_n hx hb dX2_addMade_18 rfl (lv_at hl 1 rfl) ?_
    refine lv_aload_n hx hb dX2_addMade_19 rfl (lv_at hl 0 rfl) ?_
    refine va_get (D := G.1) (ci := 6) (C := RX2) (T := TX2) (N := 8) hx hb hts inX2 hown hK (at_P hO) 0 rfl rfl 5 (by decide) (hts _ tw_1_142) (fun _ h9 => h9) rfl dX2_addMade_20 ?_
    refine lv_aload_n hx hb dX2_addMade_23 rfl (lv_at hl 1 rfl) ?_
    refine xI_V (A := A) (A1 := A) (b := (SA 0)) (As := [.ref (SA (7 + 2 * i)), .ref (SA 31), .ref (SA (7 + 2 * i))]) (rest := []) ⟨hx, hb, hml, hown, hts⟩ (mX2_joinInto (A := A) hst (SA := SA) (T := T) (es := es) (es2 := es2) (k := k) (i := i) (j := 12) (q := i) hAS (by omega) (by omega) (by omega) (by omega) (by omega)) (cwV 3 hts (gV tw_3_32 tw_3_34 sel_X2_joinInto tw_1_1 tw_3_35) rfl rfl rfl (by decide +kernel) ⟨Nat.le_of_ble_eq_true rfl, Nat.le_of_ble_eq_true rfl⟩) hC hS (fun _ h => h) (fun q h => hA q (Nat.le_trans hS.1 h)) (hW.recv hK) hW rfl rfl hl.1 (Nat.le_of_ble_eq_true rfl) ⟨Nat.le_trans (show 0 + 1 ≤ 1 by omega) (Nat.le_of_ble_eq_true rfl), Nat.le_trans (show 0 + 6 ≤ 6 by omega) (Nat.le_of_ble_eq_true rfl)⟩ dX2_addMade_24 hnx hlocks (by omega) (by omega) (fun E H9 q _ => q) (fun rv15 H15 L15 hP15 hk15 hS => ?_)
    have hZ15 := hS.1
    exact vx_ret (q_i hx hb hr hlocks dX2_addMade_27 hS (by omega) (by omega) hP15)
  · subst c_14
    refine lv_aload_n hx hb dX2_addMade_4 rfl (lv_at hl 0 rfl) ?_
    refine lv_aload_n hx hb dX2_addMade_5 rfl (lv_at hl 0 rfl) ?_
    refine va_get (D := G.1) (ci := 6) (C := RX2) (T := TX2) (N := 8) hx hb hts inX2 hown hK (at_P hO) 0 rfl rfl 5 (by decide) (hts _ tw_1_142) (fun _ h9 => h9) rfl dX2_addMade_6 ?_
    refine lv_aload_n hx hb dX2_addMade_9 rfl (lv_at hl 1 rfl) ?_
    refine lv_aload_n hx hb dX2_addMade_10 rfl (lv_at hl 1 rfl) ?_
    refine xI_V (A := A) (A1 := A) (b := (SA 0)) (As := [.ref (SA 31), .ref (SA (7 + 2 * i)), .ref (SA (7 + 2 * i))]) (rest := []) ⟨hx, hb, hml, hown, hts⟩ (mX2_joinInto (A := A) hst (SA := SA) (T := T) (es := es) (es2 := es2) (k := k) (i := 12) (j := i) (q := i) hAS (by omega) (by omega) (by omega) (by omega) (by omega)) (cwV 3 hts (gV tw_3_32 tw_3_34 sel_X2_joinInto tw_1_1 tw_3_35) rfl rfl rfl (by decide +kernel) ⟨Nat.le_of_ble_eq_true rfl, Nat.le_of_ble_eq_true rfl⟩) hC hS (fun _ h => h) (fun q h => hA q (Nat.le_trans hS.1 h)) (hW.recv hK) hW rfl rfl hl.1 (Nat.le_of_ble_eq_true rfl) ⟨Nat.le_trans (show 0 + 1 ≤ 1 by omega) (Nat.le_of_ble_eq_true rfl), Nat.le_trans (show 0 + 6 ≤ 6 by omega) (Nat.le_of_ble_eq_true rfl)⟩ dX2_addMade_11 hnx hlocks (by omega) (by omega) (fun E H9 q _ => q) (fun rv16 H16 L16 hP16 hk16 hS => ?_)
    have hZ16 := hS.1
    refine lv_goto (tgt := 27) hx hb dX2_addMade_14 (by decide) ?_
    exact vx_ret (q_i hx hb hr hlocks dX2_addMade_27 hS (by omega) (by omega) hP16)

abbrev rmX2_wordOfKnown : Room := { frames := 0, cells := 0, slots := 0, locals := 0 }
theorem mX2_wordOfKnown {l : Launch} {G : Cx} {A : Nat → Prop} {i : Nat} (hi : i < 7) : Met l yX2_wordOfKnown (.code yX2_wordOfKnown cX2_wordOfKnown 1 (some (.object "java/lang/String")) :: GW) rmX2_wordOfKnown (PC G A [.int (nI i)] (fun _ => True)) (pR (fun r => r = G.2.2 (20 + wkN i))) 0 0 (fun _ => False) := by
  refine mstart "Signtext" (by decide +kernel) rfl (Nat.le_of_ble_eq_true rfl) ?_
  intro p e s m below meth c ls hx hb hr hts hown hml hlocks hname hC hA hW hl
  have hl : lv_has ls 1 [(0, .int (nI i))] := hl
  have hK := hC.1
  have hS : va_S A s.heap s.heap [] := va_S.rf
  match i, hi with
  | 0, _ =>
    have hl : lv_has ls 1 [(0, .int (nI 0))] := hl
    refine lv_iload_n hx hb dX2_wordOfKnown_0 rfl (lv_at hl 0 rfl) ?_
    refine lv_tableOut (tgt := 58) hx hb dX2_wordOfKnown_1 (Or.inl (by decide)) (by decide) ?_
    refine va_ldcS hx hb hown (hC.2.2.2.2.1 ("Signtext", 255, "", 6) (by unfold sRl; simp)) dX2_wordOfKnown_58 ?_
    exact p_a hx hb hr (Or.inl ⟨_, rfl⟩) hlocks dX2_wordOfKnown_60 rfl
  | 1, _ =>
    have hl : lv_has ls 1 [(0, .int (nI 1))] := hl
    refine lv_iload_n hx hb dX2_wordOfKnown_0 rfl (lv_at hl 0 rfl) ?_
    refine lv_tableIn (tgt := 40) (off := 39) hx hb dX2_wordOfKnown_1 (by decide) (by decide) (by decide) (by decide) ?_
    refine va_ldcS hx hb hown (hC.2.2.2.2.1 ("Signtext", 243, "a", 0) (by unfold sRl; simp)) dX2_wordOfKnown_40 ?_
    exact p_a hx hb hr (Or.inl ⟨_, rfl⟩) hlocks dX2_wordOfKnown_42 rfl
  | 2, _ =>
    have hl : lv_has ls 1 [(0, .int (nI 2))] := hl
    refine lv_iload_n hx hb dX2_wordOfKnown_0 rfl (lv_at hl 0 rfl) ?_
    refine lv_tableIn (tgt := 43) (off := 42) hx hb dX2_wordOfKnown_1 (by decide) (by decide) (by decide) (by decide) ?_
    refine va_ldcS hx hb hown (hC.2.2.2.2.1 ("Signtext", 245, "ab", 1) (by unfold sRl; simp)) dX2_wordOfKnown_43 ?_
    exact p_a hx hb hr (Or.inl ⟨_, rfl⟩) hlocks dX2_wordOfKnown_45 rfl
  | 3, _ =>
    have hl : lv_has ls 1 [(0, .int (nI 3))] := hl
    refine lv_iload_n hx hb dX2_wordOfKnown_0 rfl (lv_at hl 0 rfl) ?_
    refine lv_tableIn (tgt := 46) (off := 45) hx hb dX2_wordOfKnown_1 (by decide) (by decide) (by decide) (by decide) ?_
    refine va_ldcS hx hb hown (hC.2.2.2.2.1 ("Signtext", 247, "A", 2) (by unfold sRl; simp)) dX2_wordOfKnown_46 ?_
    exact p_a hx hb hr (Or.inl ⟨_, rfl⟩) hlocks dX2_wordOfKnown_48 rfl
  | 4, _ =>
    have hl : lv_has ls 1 [(0, .int (nI 4))] := hl
    refine lv_iload_n hx hb dX2_wordOfKnown_0 rfl (lv_at hl 0 rfl) ?_
    refine lv_tableIn (tgt := 49) (off := 48) hx hb dX2_wordOfKnown_1 (by decide) (by decide) (by decide) (by decide) ?_
    refine va_ldcS hx hb hown (hC.2.2.2.2.1 ("Signtext", 249, ",", 3) (by unfold sRl; simp)) dX2_wordOfKnown_49 ?_
    exact p_a hx hb hr (Or.inl ⟨_, rfl⟩) hlocks dX2_wordOfKnown_51 rfl
  | 5, _ =>
    have hl : lv_has ls 1 [(0, .int (nI 5))] := hl
    refine lv_iload_n hx hb dX2_wordOfKnown_0 rfl (lv_at hl 0 rfl) ?_
    refine lv_tableIn (tgt := 52) (off := 51) hx hb dX2_wordOfKnown_1 (by decide) (by decide) (by decide) (by decide) ?_
    refine va_ldcS hx hb hown (hC.2.2.2.2.1 ("Signtext", 251, "x.x", 4) (by unfold sRl; simp)) dX2_wordOfKnown_52 ?_
    exact p_a hx hb hr (Or.inl ⟨_, rfl⟩) hlocks dX2_wordOfKnown_54 rfl
  | 6, _ =>
    have hl : lv_has ls 1 [(0, .int (nI 6))] := hl
    refine lv_iload_n hx hb dX2_wordOfKnown_0 rfl (lv_at hl 0 rfl) ?_
    refine lv_tableIn (tgt := 55) (off := 54) hx hb dX2_wordOfKnown_1 (by decide) (by decide) (by decide) (by decide) ?_
    refine va_ldcS hx hb hown (hC.2.2.2.2.1 ("Signtext", 253, "aB-1", 5) (by unfold sRl; simp)) dX2_wordOfKnown_55 ?_
    exact p_a hx hb hr (Or.inl ⟨_, rfl⟩) hlocks dX2_wordOfKnown_57 rfl
