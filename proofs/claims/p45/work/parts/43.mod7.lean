/-! The model, 7: calls of two texts -/
theorem dX4_copy_0 : decode cX4_copy 0 = .ok (.aload_n 0, 1) := by decide +kernel
theorem dX4_copy_1 : decode cX4_copy 1 = .ok (.iload_n 1, 1) := by decide +kernel
theorem dX4_copy_2 : decode cX4_copy 2 = .ok (.invokestatic 107, 3) := by decide +kernel
theorem dX4_copy_5 : decode cX4_copy 5 = .ok (.ifCond .ne 10, 3) := by decide +kernel
theorem dX4_copy_8 : decode cX4_copy 8 = .ok (.iload_n 2, 1) := by decide +kernel
theorem dX4_copy_9 : decode cX4_copy 9 = .ok (.invokestatic 107, 3) := by decide +kernel
theorem dX4_copy_12 : decode cX4_copy 12 = .ok (.ifCond .eq 7, 3) := by decide +kernel
theorem dX4_copy_15 : decode cX4_copy 15 = .ok (.iconst 1, 1) := by decide +kernel
theorem dX4_copy_16 : decode cX4_copy 16 = .ok (.goto 4, 3) := by decide +kernel
theorem dX4_copy_19 : decode cX4_copy 19 = .ok (.iconst 0, 1) := by decide +kernel
theorem dX4_copy_20 : decode cX4_copy 20 = .ok (.iconst 1, 1) := by decide +kernel
theorem dX4_copy_21 : decode cX4_copy 21 = .ok (.invokevirtual 110, 3) := by decide +kernel
theorem dX4_copy_24 : decode cX4_copy 24 = .ok (.ifCond .eq 7, 3) := by decide +kernel
theorem dX4_copy_27 : decode cX4_copy 27 = .ok (.iconst 0, 1) := by decide +kernel
theorem dX4_copy_28 : decode cX4_copy 28 = .ok (.goto 25, 3) := by decide +kernel
theorem dX4_copy_31 : decode cX4_copy 31 = .ok (.aload_n 0, 1) := by decide +kernel
theorem dX4_copy_32 : decode cX4_copy 32 = .ok (.iload_n 2, 1) := by decide +kernel
theorem dX4_copy_33 : decode cX4_copy 33 = .ok (.aload_n 0, 1) := by decide +kernel
theorem dX4_copy_34 : decode cX4_copy 34 = .ok (.getfield 72, 3) := by decide +kernel
theorem dX4_copy_37 : decode cX4_copy 37 = .ok (.iload_n 1, 1) := by decide +kernel
theorem dX4_copy_38 : decode cX4_copy 38 = .ok (.aaload, 1) := by decide +kernel
theorem dX4_copy_39 : decode cX4_copy 39 = .ok (.iconst 0, 1) := by decide +kernel
theorem dX4_copy_40 : decode cX4_copy 40 = .ok (.aload_n 0, 1) := by decide +kernel
theorem dX4_copy_41 : decode cX4_copy 41 = .ok (.getfield 72, 3) := by decide +kernel
theorem dX4_copy_44 : decode cX4_copy 44 = .ok (.iload_n 1, 1) := by decide +kernel
theorem dX4_copy_45 : decode cX4_copy 45 = .ok (.aaload, 1) := by decide +kernel
theorem dX4_copy_46 : decode cX4_copy 46 = .ok (.arraylength, 1) := by decide +kernel
theorem dX4_copy_47 : decode cX4_copy 47 = .ok (.invokestatic 31, 3) := by decide +kernel
theorem dX4_copy_50 : decode cX4_copy 50 = .ok (.invokevirtual 113, 3) := by decide +kernel
theorem dX4_copy_53 : decode cX4_copy 53 = .ok (.ireturn, 1) := by decide +kernel
theorem dX4_trim_0 : decode cX4_trim 0 = .ok (.aload_n 0, 1) := by decide +kernel
theorem dX4_trim_1 : decode cX4_trim 1 = .ok (.iload_n 1, 1) := by decide +kernel
theorem dX4_trim_2 : decode cX4_trim 2 = .ok (.invokestatic 107, 3) := by decide +kernel
theorem dX4_trim_5 : decode cX4_trim 5 = .ok (.ifCond .ne 10, 3) := by decide +kernel
theorem dX4_trim_8 : decode cX4_trim 8 = .ok (.iload_n 3, 1) := by decide +kernel
theorem dX4_trim_9 : decode cX4_trim 9 = .ok (.invokestatic 107, 3) := by decide +kernel
theorem dX4_trim_12 : decode cX4_trim 12 = .ok (.ifCond .eq 7, 3) := by decide +kernel
theorem dX4_trim_15 : decode cX4_trim 15 = .ok (.iconst 1, 1) := by decide +kernel
theorem dX4_trim_16 : decode cX4_trim 16 = .ok (.goto 4, 3) := by decide +kernel
theorem dX4_trim_19 : decode cX4_trim 19 = .ok (.iconst 0, 1) := by decide +kernel
theorem dX4_trim_20 : decode cX4_trim 20 = .ok (.iconst 1, 1) := by decide +kernel
theorem dX4_trim_21 : decode cX4_trim 21 = .ok (.invokevirtual 110, 3) := by decide +kernel
theorem dX4_trim_24 : decode cX4_trim 24 = .ok (.ifCond .eq 7, 3) := by decide +kernel
theorem dX4_trim_27 : decode cX4_trim 27 = .ok (.iconst 0, 1) := by decide +kernel
theorem dX4_trim_28 : decode cX4_trim 28 = .ok (.goto 18, 3) := by decide +kernel
theorem dX4_trim_31 : decode cX4_trim 31 = .ok (.aload_n 0, 1) := by decide +kernel
theorem dX4_trim_32 : decode cX4_trim 32 = .ok (.iload_n 3, 1) := by decide +kernel
theorem dX4_trim_33 : decode cX4_trim 33 = .ok (.aload_n 0, 1) := by decide +kernel
theorem dX4_trim_34 : decode cX4_trim 34 = .ok (.getfield 72, 3) := by decide +kernel
theorem dX4_trim_37 : decode cX4_trim 37 = .ok (.iload_n 1, 1) := by decide +kernel
theorem dX4_trim_38 : decode cX4_trim 38 = .ok (.aaload, 1) := by decide +kernel
theorem dX4_trim_39 : decode cX4_trim 39 = .ok (.iload_n 2, 1) := by decide +kernel
theorem dX4_trim_40 : decode cX4_trim 40 = .ok (.invokestatic 117, 3) := by decide +kernel
theorem dX4_trim_43 : decode cX4_trim 43 = .ok (.invokevirtual 113, 3) := by decide +kernel
theorem dX4_trim_46 : decode cX4_trim 46 = .ok (.ireturn, 1) := by decide +kernel
abbrev rmX4_copy : Room := { frames := 3, cells := 1, slots := 61, locals := 64 }
theorem mX4_copy {l : Launch} {G : Cx} {A : Nat → Prop} {am xa : Nat} {X : Nat → List Nat} {P : List (List Nat)} {k : Int32} {x y th : Int32} : Met l yX4_copy (.code yX4_copy cX4_copy 3 (some .int) :: GW) rmX4_copy (PC G A [.ref am, .int x, .int y] (MW G A am xa X P k th)) (qI A (fun r H => ((NT x ∨ NT y) ∧ r = 0 ∧ MW G A am xa X P k 1 H) ∨ ∃ i j : Nat, i < 4 ∧ x = nI i ∧ j < 4 ∧ y = nI j ∧ r = nI (X i).length ∧ MW G A am xa (updT X j (X i)) P k 0 H)) 1 61 (A) := by
  refine mstart "SigntextModel" (by decide +kernel) rfl (Nat.le_of_ble_eq_true rfl) ?_
  intro p e s m below meth c ls hx hb hr hts hown hml hlocks hname hC hA hW hl
  have hl : lv_has ls 3 [(0, .ref am), (1, .int x), (2, .int y)] := hl
  have hK := hC.1
  have hS : va_S A s.heap s.heap [] := va_S.rf
  obtain ⟨ra, pa, tx, hW⟩ := hW
  have hO := hW.obj
  have hAm := hW.1
  refine lv_aload_n hx hb dX4_copy_0 rfl (lv_at hl 0 rfl) ?_
  refine lv_iload_n hx hb dX4_copy_1 rfl (lv_at hl 1 rfl) ?_
  refine kS_i (A := A) (As := [.int x]) (rest := .ref am :: []) ⟨hx, hb, hml, hown, hts⟩ (mX4_isNone (A := A) ) (va_cwS 1 hts (gS tw_4_203 tw_4_204 tw_1_8 tw_4_205) rfl rfl rfl (by decide +kernel) ⟨Nat.le_of_ble_eq_true rfl, Nat.le_of_ble_eq_true rfl⟩) hC hS hA  trivial rfl rfl hl.1 (Nat.le_of_ble_eq_true rfl) ⟨Nat.zero_le _, Nat.zero_le _⟩ dX4_copy_2 (fun r_1 hr_1 => ?_)
  obtain ⟨r_1v, hr_1v, rfl⟩ := hr_1
  refine f_ne (tgt := 15) hx hb dX4_copy_5 (by decide) (fun c_2 => ?_) (fun c_2 => ?_)
  · refine lv_iconst (v := nI 1) hx hb dX4_copy_15 (by decide) ?_
    refine lv_goto (tgt := 20) hx hb dX4_copy_16 (by decide) ?_
    refine lv_iconst (v := nI 1) hx hb dX4_copy_20 (by decide) ?_
    refine qI_V (A := A) (A1 := A) (b := am) (As := [.int (bI true), .int (nI 1)]) (rest := []) ⟨hx, hb, hml, hown, hts⟩ (mX4_start (A := A) (b := true) (w9 := 1) (by decide)) (cwV 2 hts (gV tw_4_206 tw_4_208 sel_X4_start tw_1_8 tw_4_209) rfl rfl rfl (by decide +kernel) ⟨Nat.le_of_ble_eq_true rfl, Nat.le_of_ble_eq_true rfl⟩) hC hS (fun _ h => h) (fun q h => hA q (Nat.le_trans hS.1 h)) (hW.recv hK) ⟨ra, pa, tx, hW⟩ rfl rfl hl.1 (Nat.le_of_ble_eq_true rfl) ⟨Nat.zero_le _, Nat.zero_le _⟩ dX4_copy_21 (fun rv3 H3 L3 hP3 hk3 hS => ?_)
    have hZ3 := hS.1
    obtain ⟨hr3, hM3⟩ := hP3
    subst hr3
    obtain ⟨ra, pa, tx, hW⟩ := hM3
    have hO := hW.obj
    have hAm := hW.1
    refine f_eq (tgt := 31) hx hb dX4_copy_24 (by decide) (fun c_4 => ?_) (fun c_4 => ?_)
    · exact absurd c_4 (by decide)
    · refine lv_iconst (v := nI 0) hx hb dX4_copy_27 (by decide) ?_
      refine lv_goto (tgt := 53) hx hb dX4_copy_28 (by decide) ?_
      exact q_i hx hb hr hlocks dX4_copy_53 hS (by omega) (by omega) (Or.inl ⟨(Or.inl (hr_1v.mp c_2)), rfl, ra, pa, tx, hW⟩)
  · obtain ⟨i, hi, rfl⟩ : ∃ i : Nat, i < 4 ∧ x = nI i := Classical.byContradiction (fun q => absurd (hr_1v.mpr q) (by rw [c_2]; decide))
    refine lv_iload_n hx hb dX4_copy_8 rfl (lv_at hl 2 rfl) ?_
    refine kS_i (A := A) (As := [.int y]) (rest := .ref am :: []) ⟨hx, hb, hml, hown, hts⟩ (mX4_isNone (A := A) ) (va_cwS 1 hts (gS tw_4_203 tw_4_204 tw_1_8 tw_4_205) rfl rfl rfl (by decide +kernel) ⟨Nat.le_of_ble_eq_true rfl, Nat.le_of_ble_eq_true rfl⟩) hC hS hA  trivial rfl rfl hl.1 (Nat.le_of_ble_eq_true rfl) ⟨Nat.zero_le _, Nat.zero_le _⟩ dX4_copy_9 (fun r_5 hr_5 => ?_)
    obtain ⟨r_5v, hr_5v, rfl⟩ := hr_5
    refine f_eq (tgt := 19) hx hb dX4_copy_12 (by decide) (fun c_6 => ?_) (fun c_6 => ?_)
    · obtain ⟨j, hj, rfl⟩ : ∃ j : Nat, j < 4 ∧ y = nI j := Classical.byContradiction (fun q => absurd (hr_5v.mpr q) (by rw [c_6]; decide))
      refine lv_iconst (v := nI 0) hx hb dX4_copy_19 (by decide) ?_
      refine lv_iconst (v := nI 1) hx hb dX4_copy_20 (by decide) ?_
      refine qI_V (A := A) (A1 := A) (b := am) (As := [.int (bI false), .int (nI 1)]) (rest := []) ⟨hx, hb, hml, hown, hts⟩ (mX4_start (A := A) (b := false) (w9 := 1) (by decide)) (cwV 2 hts (gV tw_4_206 tw_4_208 sel_X4_start tw_1_8 tw_4_209) rfl rfl rfl (by decide +kernel) ⟨Nat.le_of_ble_eq_true rfl, Nat.le_of_ble_eq_true rfl⟩) hC hS (fun _ h => h) (fun q h => hA q (Nat.le_trans hS.1 h)) (hW.recv hK) ⟨ra, pa, tx, hW⟩ rfl rfl hl.1 (Nat.le_of_ble_eq_true rfl) ⟨Nat.zero_le _, Nat.zero_le _⟩ dX4_copy_21 (fun rv7 H7 L7 hP7 hk7 hS => ?_)
      have hZ7 := hS.1
      obtain ⟨hr7, hM7⟩ := hP7
      subst hr7
      obtain ⟨ra, pa, tx, hW⟩ := hM7
      have hO := hW.obj
      have hAm := hW.1
      refine f_eq (tgt := 31) hx hb dX4_copy_24 (by decide) (fun c_8 => ?_) (fun c_8 => ?_)
      · refine lv_aload_n hx hb dX4_copy_31 rfl (lv_at hl 0 rfl) ?_
        refine lv_iload_n hx hb dX4_copy_32 rfl (lv_at hl 2 rfl) ?_
        refine lv_aload_n hx hb dX4_copy_33 rfl (lv_at hl 0 rfl) ?_
        refine va_get (D := G.1) (ci := 8) (C := RX4) (T := TX4) (N := 5) hx hb hts inX4 hown hK (at_P hO) 0 rfl rfl 1 (by decide) (hts _ tw_4_173) (fun _ h9 => h9) rfl dX4_copy_34 ?_
        refine lv_iload_n hx hb dX4_copy_37 rfl (lv_at hl 1 rfl) ?_
        refine h_aaldI (D := G.1) hx hb hK 4 hW.txs rfl (vp_in_nI (n := i) (N := 4) (by omega) (by omega)) dX4_copy_38 ?_
        refine v_cv (show va_rf _ = .ref (tx i) from by rw [nI_clamp (n := i) (by omega)]; rfl) ?_
        have hTi := (hW.tx (j := i) (by omega)).ia hC.2.1.2
        have x60i := hW.2.2.1 i (Or.inl (by omega))
        refine lv_iconst (v := nI 0) hx hb dX4_copy_39 (by decide) ?_
        refine lv_aload_n hx hb dX4_copy_40 rfl (lv_at hl 0 rfl) ?_
        refine va_get (D := G.1) (ci := 8) (C := RX4) (T := TX4) (N := 5) hx hb hts inX4 hown hK (at_P hO) 0 rfl rfl 1 (by decide) (hts _ tw_4_173) (fun _ h9 => h9) rfl dX4_copy_41 ?_
        refine lv_iload_n hx hb dX4_copy_44 rfl (lv_at hl 1 rfl) ?_
        refine h_aaldI (D := G.1) hx hb hK 4 hW.txs rfl (vp_in_nI (n := i) (N := 4) (by omega) (by omega)) dX4_copy_45 ?_
        refine v_cv (show va_rf _ = .ref (tx i) from by rw [nI_clamp (n := i) (by omega)]; rfl) ?_
        refine h_ilen hx hb hC.2.1 hTi dX4_copy_46 ?_
        have hra := hW.row.lt
        refine qR_S (A := A) (A1 := nw H7.size)  (As := [.ref (tx i), .int (nI 0), .int (nI ((X i).length))]) (rest := .int (nI j) :: .ref am :: []) ⟨hx, hb, hml, hown, hts⟩ (mX4_cut (A := nw H7.size) (sz := H7.size) (t := X i) (i := 0) (i2 := (X i).length) (Nat.zero_le _) (Nat.le_refl _) (by omega)) (va_cwS 3 hts (gS tw_4_226 tw_4_227 tw_1_8 tw_4_228) rfl rfl rfl (by decide +kernel) ⟨Nat.le_of_ble_eq_true rfl, Nat.le_of_ble_eq_true rfl⟩) hC hS (nw_in hA hS.1) nw_n  ⟨rfl, hTi⟩ rfl rfl hl.1 (Nat.le_of_ble_eq_true rfl) ⟨Nat.le_trans (show 0 + 1 ≤ 1 by omega) (Nat.le_of_ble_eq_true rfl), Nat.le_trans (show 0 + 61 ≤ 61 by omega) (Nat.le_of_ble_eq_true rfl)⟩ dX4_copy_47 (fun rv9 H9 L9 hP9 hk9 hS => ?_)
        have hZ9 := hS.1
        rw [cutL_all] at hP9
        have hW := hW.nw hk9
        refine qI_V (A := A) (A1 := A) (b := am) (As := [.int (nI j), .ref rv9]) (rest := []) ⟨hx, hb, hml, hown, hts⟩ (mX4_become (A := A) (X := X) (P := P) (k := k) (xa := xa) (t := X i) hj x60i) (cwV 2 hts (gV tw_4_214 tw_4_216 sel_X4_become tw_1_8 tw_4_217) rfl rfl rfl (by decide +kernel) ⟨Nat.le_of_ble_eq_true rfl, Nat.le_of_ble_eq_true rfl⟩) hC hS (fun _ h => h) (fun q h => hA q (Nat.le_trans hS.1 h)) (hW.recv hK) ⟨ra, pa, tx, hW, hP9.2, (by have := hP9.1; omega)⟩ rfl rfl hl.1 (Nat.le_of_ble_eq_true rfl) ⟨Nat.le_trans (show (0 + 1) ≤ 1 by omega) (Nat.le_of_ble_eq_true rfl), Nat.le_trans (show (0 + 61) ≤ 61 by omega) (Nat.le_of_ble_eq_true rfl)⟩ dX4_copy_50 (fun rv10 H10 L10 hP10 hk10 hS => ?_)
        have hZ10 := hS.1
        exact q_i hx hb hr hlocks dX4_copy_53 hS (by omega) (by omega) (Or.inr ⟨i, j, hi, rfl, hj, rfl, hP10.1, hP10.2⟩)
      · exact absurd c_8 (by decide)
    · refine lv_iconst (v := nI 1) hx hb dX4_copy_15 (by decide) ?_
      refine lv_goto (tgt := 20) hx hb dX4_copy_16 (by decide) ?_
      refine lv_iconst (v := nI 1) hx hb dX4_copy_20 (by decide) ?_
      refine qI_V (A := A) (A1 := A) (b := am) (As := [.int (bI true), .int (nI 1)]) (rest := []) ⟨hx, hb, hml, hown, hts⟩ (mX4_start (A := A) (b := true) (w9 := 1) (by decide)) (cwV 2 hts (gV tw_4_206 tw_4_208 sel_X4_start tw_1_8 tw_4_209) rfl rfl rfl (by decide +kernel) ⟨Nat.le_of_ble_eq_true rfl, Nat.le_of_ble_eq_true rfl⟩) hC hS (fun _ h => h) (fun q h => hA q (Nat.le_trans hS.1 h)) (hW.recv hK) ⟨ra, pa, tx, hW⟩ rfl rfl hl.1 (Nat.le_of_ble_eq_true rfl) ⟨Nat.zero_le _, Nat.zero_le _⟩ dX4_copy_21 (fun rv11 H11 L11 hP11 hk11 hS => ?_)
      have hZ11 := hS.1
      obtain ⟨hr11, hM11⟩ := hP11
      subst hr11
      obtain ⟨ra, pa, tx, hW⟩ := hM11
      have hO := hW.obj
      have hAm := hW.1
      refine f_eq (tgt := 31) hx hb dX4_copy_24 (by decide) (fun c_12 => ?_) (fun c_12 => ?_)
      · exact absurd c_12 (by decide)
      · refine lv_iconst (v := nI 0) hx hb dX4_copy_27 (by decide) ?_
        refine lv_goto (tgt := 53) hx hb dX4_copy_28 (by decide) ?_
        exact q_i hx hb hr hlocks dX4_copy_53 hS (by omega) (by omega) (Or.inl ⟨(Or.inr (hr_5v.mp c_6)), rfl, ra, pa, tx, hW⟩)

abbrev rmX4_trim : Room := { frames := 3, cells := 1, slots := 61, locals := 67 }
theorem mX4_trim {l : Launch} {G : Cx} {A : Nat → Prop} {am xa : Nat} {X : Nat → List Nat} {P : List (List Nat)} {k : Int32} {x y th : Int32} {b : Bool} : Met l yX4_trim (.code yX4_trim cX4_trim 4 (some .int) :: GW) rmX4_trim (PC G A [.ref am, .int x, .int (bI b), .int y] (MW G A am xa X P k th)) (qI A (fun r H => ((NT x ∨ NT y) ∧ r = 0 ∧ MW G A am xa X P k 1 H) ∨ ∃ i j : Nat, i < 4 ∧ x = nI i ∧ j < 4 ∧ y = nI j ∧ (∃ e9, isTe b (X i) e9 ∧ r = nI (cutL (X i) (tbL b (X i)) e9).length ∧ MW G A am xa (updT X j (cutL (X i) (tbL b (X i)) e9)) P k 0 H))) 1 61 (A) := by
  refine mstart "SigntextModel" (by decide +kernel) rfl (Nat.le_of_ble_eq_true rfl) ?_
  intro p e s m below meth c ls hx hb hr hts hown hml hlocks hname hC hA hW hl
  have hl : lv_has ls 4 [(0, .ref am), (1, .int x), (2, .int (bI b)), (3, .int y)] := hl
  have hK := hC.1
  have hS : va_S A s.heap s.heap [] := va_S.rf
  obtain ⟨ra, pa, tx, hW⟩ := hW
  have hO := hW.obj
  have hAm := hW.1
  refine lv_aload_n hx hb dX4_trim_0 rfl (lv_at hl 0 rfl) ?_
  refine lv_iload_n hx hb dX4_trim_1 rfl (lv_at hl 1 rfl) ?_
  refine kS_i (A := A) (As := [.int x]) (rest := .ref am :: []) ⟨hx, hb, hml, hown, hts⟩ (mX4_isNone (A := A) ) (va_cwS 1 hts (gS tw_4_203 tw_4_204 tw_1_8 tw_4_205) rfl rfl rfl (by decide +kernel) ⟨Nat.le_of_ble_eq_true rfl, Nat.le_of_ble_eq_true rfl⟩) hC hS hA  trivial rfl rfl hl.1 (Nat.le_of_ble_eq_true rfl) ⟨Nat.zero_le _, Nat.zero_le _⟩ dX4_trim_2 (fun r_13 hr_13 => ?_)
  obtain ⟨r_13v, hr_13v, rfl⟩ := hr_13
  refine f_ne (tgt := 15) hx hb dX4_trim_5 (by decide) (fun c_14 => ?_) (fun c_14 => ?_)
  · refine lv_iconst (v := nI 1) hx hb dX4_trim_15 (by decide) ?_
    refine lv_goto (tgt := 20) hx hb dX4_trim_16 (by decide) ?_
    refine lv_iconst (v := nI 1) hx hb dX4_trim_20 (by decide) ?_
    refine qI_V (A := A) (A1 := A) (b := am) (As := [.int (bI true), .int (nI 1)]) (rest := []) ⟨hx, hb, hml, hown, hts⟩ (mX4_start (A := A) (b := true) (w9 := 1) (by decide)) (cwV 2 hts (gV tw_4_206 tw_4_208 sel_X4_start tw_1_8 tw_4_209) rfl rfl rfl (by decide +kernel) ⟨Nat.le_of_ble_eq_true rfl, Nat.le_of_ble_eq_true rfl⟩) hC hS (fun _ h => h) (fun q h => hA q (Nat.le_trans hS.1 h)) (hW.recv hK) ⟨ra, pa, tx, hW⟩ rfl rfl hl.1 (Nat.le_of_ble_eq_true rfl) ⟨Nat.zero_le _, Nat.zero_le _⟩ dX4_trim_21 (fun rv15 H15 L15 hP15 hk15 hS => ?_)
    have hZ15 := hS.1
    obtain ⟨hr15, hM15⟩ := hP15
    subst hr15
    obtain ⟨ra, pa, tx, hW⟩ := hM15
    have hO := hW.obj
    have hAm := hW.1
    refine f_eq (tgt := 31) hx hb dX4_trim_24 (by decide) (fun c_16 => ?_) (fun c_16 => ?_)
    · exact absurd c_16 (by decide)
    · refine lv_iconst (v := nI 0) hx hb dX4_trim_27 (by decide) ?_
      refine lv_goto (tgt := 46) hx hb dX4_trim_28 (by decide) ?_
      exact q_i hx hb hr hlocks dX4_trim_46 hS (by omega) (by omega) (Or.inl ⟨(Or.inl (hr_13v.mp c_14)), rfl, ra, pa, tx, hW⟩)
  · obtain ⟨i, hi, rfl⟩ : ∃ i : Nat, i < 4 ∧ x = nI i := Classical.byContradiction (fun q => absurd (hr_13v.mpr q) (by rw [c_14]; decide))
    refine lv_iload_n hx hb dX4_trim_8 rfl (lv_at hl 3 rfl) ?_
    refine kS_i (A := A) (As := [.int y]) (rest := .ref am :: []) ⟨hx, hb, hml, hown, hts⟩ (mX4_isNone (A := A) ) (va_cwS 1 hts (gS tw_4_203 tw_4_204 tw_1_8 tw_4_205) rfl rfl rfl (by decide +kernel) ⟨Nat.le_of_ble_eq_true rfl, Nat.le_of_ble_eq_true rfl⟩) hC hS hA  trivial rfl rfl hl.1 (Nat.le_of_ble_eq_true rfl) ⟨Nat.zero_le _, Nat.zero_le _⟩ dX4_trim_9 (fun r_17 hr_17 => ?_)
    obtain ⟨r_17v, hr_17v, rfl⟩ := hr_17
    refine f_eq (tgt := 19) hx hb dX4_trim_12 (by decide) (fun c_18 => ?_) (fun c_18 => ?_)
    · obtain ⟨j, hj, rfl⟩ : ∃ j : Nat, j < 4 ∧ y = nI j := Classical.byContradiction (fun q => absurd (hr_17v.mpr q) (by rw [c_18]; decide))
      refine lv_iconst (v := nI 0) hx hb dX4_trim_19 (by decide) ?_
      refine lv_iconst (v := nI 1) hx hb dX4_trim_20 (by decide) ?_
      refine qI_V (A := A) (A1 := A) (b := am) (As := [.int (bI false), .int (nI 1)]) (rest := []) ⟨hx, hb, hml, hown, hts⟩ (mX4_start (A := A) (b := false) (w9 := 1) (by decide)) (cwV 2 hts (gV tw_4_206 tw_4_208 sel_X4_start tw_1_8 tw_4_209) rfl rfl rfl (by decide +kernel) ⟨Nat.le_of_ble_eq_true rfl, Nat.le_of_ble_eq_true rfl⟩) hC hS (fun _ h => h) (fun q h => hA q (Nat.le_trans hS.1 h)) (hW.recv hK) ⟨ra, pa, tx, hW⟩ rfl rfl hl.1 (Nat.le_of_ble_eq_true rfl) ⟨Nat.zero_le _, Nat.zero_le _⟩ dX4_trim_21 (fun rv19 H19 L19 hP19 hk19 hS => ?_)
      have hZ19 := hS.1
      obtain ⟨hr19, hM19⟩ := hP19
      subst hr19
      obtain ⟨ra, pa, tx, hW⟩ := hM19
      have hO := hW.obj
      have hAm := hW.1
      refine f_eq (tgt := 31) hx hb dX4_trim_24 (by decide) (fun c_20 => ?_) (fun c_20 => ?_)
      · refine lv_aload_n hx hb dX4_trim_31 rfl (lv_at hl 0 rfl) ?_
        refine lv_iload_n hx hb dX4_trim_32 rfl (lv_at hl 3 rfl) ?_
        refine lv_aload_n hx hb dX4_trim_33 rfl (lv_at hl 0 rfl) ?_
        refine va_get (D := G.1) (ci := 8) (C := RX4) (T := TX4) (N := 5) hx hb hts inX4 hown hK (at_P hO) 0 rfl rfl 1 (by decide) (hts _ tw_4_173) (fun _ h9 => h9) rfl dX4_trim_34 ?_
        refine lv_iload_n hx hb dX4_trim_37 rfl (lv_at hl 1 rfl) ?_
        refine h_aaldI (D := G.1) hx hb hK 4 hW.txs rfl (vp_in_nI (n := i) (N := 4) (by omega) (by omega)) dX4_trim_38 ?_
        refine v_cv (show va_rf _ = .ref (tx i) from by rw [nI_clamp (n := i) (by omega)]; rfl) ?_
        have hTi := (hW.tx (j := i) (by omega)).ia hC.2.1.2
        have x60i := hW.2.2.1 i (Or.inl (by omega))
        refine lv_iload_n hx hb dX4_trim_39 rfl (lv_at hl 2 rfl) ?_
        have hra := hW.row.lt
        refine qR_S (A := A) (A1 := nw H19.size)  (As := [.ref (tx i), .int (bI b)]) (rest := .int (nI j) :: .ref am :: []) ⟨hx, hb, hml, hown, hts⟩ (mX4_trimmed (A := nw H19.size) (sz := H19.size) (t := X i) (b := b) x60i.1 (by omega)) (va_cwS 2 hts (gS tw_5_9 tw_5_10 tw_1_8 tw_5_11) rfl rfl rfl (by decide +kernel) ⟨Nat.le_of_ble_eq_true rfl, Nat.le_of_ble_eq_true rfl⟩) hC hS (nw_in hA hS.1) nw_n  ⟨rfl, hTi⟩ rfl rfl hl.1 (Nat.le_of_ble_eq_true rfl) ⟨Nat.le_trans (show 0 + 1 ≤ 1 by omega) (Nat.le_of_ble_eq_true rfl), Nat.le_trans (show 0 + 61 ≤ 61 by omega) (Nat.le_of_ble_eq_true rfl)⟩ dX4_trim_40 (fun rv21 H21 L21 hP21 hk21 hS => ?_)
        have hZ21 := hS.1
        obtain ⟨hsz9, e9, he9, hR9⟩ := hP21
        have hW := hW.nw hk21
        refine qI_V (A := A) (A1 := A) (b := am) (As := [.int (nI j), .ref rv21]) (rest := []) ⟨hx, hb, hml, hown, hts⟩ (mX4_become (A := A) (X := X) (P := P) (k := k) (xa := xa) (t := cutL (X i) (tbL b (X i)) e9) hj ⟨okc_cut x60i.1 _ _, Nat.le_trans (cutL_le _ _ _) x60i.2⟩) (cwV 2 hts (gV tw_4_214 tw_4_216 sel_X4_become tw_1_8 tw_4_217) rfl rfl rfl (by decide +kernel) ⟨Nat.le_of_ble_eq_true rfl, Nat.le_of_ble_eq_true rfl⟩) hC hS (fun _ h => h) (fun q h => hA q (Nat.le_trans hS.1 h)) (hW.recv hK) ⟨ra, pa, tx, hW, hR9, (by omega)⟩ rfl rfl hl.1 (Nat.le_of_ble_eq_true rfl) ⟨Nat.le_trans (show (0 + 1) ≤ 1 by omega) (Nat.le_of_ble_eq_true rfl), Nat.le_trans (show (0 + 61) ≤ 61 by omega) (Nat.le_of_ble_eq_true rfl)⟩ dX4_trim_43 (fun rv22 H22 L22 hP22 hk22 hS => ?_)
        have hZ22 := hS.1
        exact q_i hx hb hr hlocks dX4_trim_46 hS (by omega) (by omega) (Or.inr ⟨i, j, hi, rfl, hj, rfl, e9, he9, hP22.1, hP22.2⟩)
      · exact absurd c_20 (by decide)
    · refine lv_iconst (v := nI 1) hx hb dX4_trim_15 (by decide) ?_
      refine lv_goto (tgt := 20) hx hb dX4_trim_16 (by decide) ?_
      refine lv_iconst (v := nI 1) hx hb dX4_trim_20 (by decide) ?_
      refine qI_V (A := A) (A1 := A) (b := am) (As := [.int (bI true), .int (nI 1)]) (rest := []) ⟨hx, hb, hml, hown, hts⟩ (mX4_start (A := A) (b := true) (w9 := 1) (by decide)) (cwV 2 hts (gV tw_4_206 tw_4_208 sel_X4_start tw_1_8 tw_4_209) rfl rfl rfl (by decide +kernel) ⟨Nat.le_of_ble_eq_true rfl, Nat.le_of_ble_eq_true rfl⟩) hC hS (fun _ h => h) (fun q h => hA q (Nat.le_trans hS.1 h)) (hW.recv hK) ⟨ra, pa, tx, hW⟩ rfl rfl hl.1 (Nat.le_of_ble_eq_true rfl) ⟨Nat.zero_le _, Nat.zero_le _⟩ dX4_trim_21 (fun rv23 H23 L23 hP23 hk23 hS => ?_)
      have hZ23 := hS.1
      obtain ⟨hr23, hM23⟩ := hP23
      subst hr23
      obtain ⟨ra, pa, tx, hW⟩ := hM23
      have hO := hW.obj
      have hAm := hW.1
      refine f_eq (tgt := 31) hx hb dX4_trim_24 (by decide) (fun c_24 => ?_) (fun c_24 => ?_)
      · exact absurd c_24 (by decide)
      · refine lv_iconst (v := nI 0) hx hb dX4_trim_27 (by decide) ?_
        refine lv_goto (tgt := 46) hx hb dX4_trim_28 (by decide) ?_
        exact q_i hx hb hr hlocks dX4_trim_46 hS (by omega) (by omega) (Or.inl ⟨(Or.inr (hr_17v.mp c_18)), rfl, ra, pa, tx, hW⟩)
