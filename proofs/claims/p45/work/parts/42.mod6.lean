/-! The model, 6: calls of one text -/
theorem dX4_take_0 : decode cX4_take 0 = .ok (.aload_n 0, 1) := by decide +kernel
theorem dX4_take_1 : decode cX4_take 1 = .ok (.iload_n 1, 1) := by decide +kernel
theorem dX4_take_2 : decode cX4_take 2 = .ok (.invokestatic 107, 3) := by decide +kernel
theorem dX4_take_5 : decode cX4_take 5 = .ok (.iconst 1, 1) := by decide +kernel
theorem dX4_take_6 : decode cX4_take 6 = .ok (.invokevirtual 110, 3) := by decide +kernel
theorem dX4_take_9 : decode cX4_take 9 = .ok (.ifCond .eq 7, 3) := by decide +kernel
theorem dX4_take_12 : decode cX4_take 12 = .ok (.iconst 0, 1) := by decide +kernel
theorem dX4_take_13 : decode cX4_take 13 = .ok (.goto 21, 3) := by decide +kernel
theorem dX4_take_16 : decode cX4_take 16 = .ok (.aload_n 0, 1) := by decide +kernel
theorem dX4_take_17 : decode cX4_take 17 = .ok (.iload_n 1, 1) := by decide +kernel
theorem dX4_take_18 : decode cX4_take 18 = .ok (.aload_n 0, 1) := by decide +kernel
theorem dX4_take_19 : decode cX4_take 19 = .ok (.getfield 75, 3) := by decide +kernel
theorem dX4_take_22 : decode cX4_take 22 = .ok (.iconst 0, 1) := by decide +kernel
theorem dX4_take_23 : decode cX4_take 23 = .ok (.aload_n 0, 1) := by decide +kernel
theorem dX4_take_24 : decode cX4_take 24 = .ok (.getfield 75, 3) := by decide +kernel
theorem dX4_take_27 : decode cX4_take 27 = .ok (.arraylength, 1) := by decide +kernel
theorem dX4_take_28 : decode cX4_take 28 = .ok (.invokestatic 31, 3) := by decide +kernel
theorem dX4_take_31 : decode cX4_take 31 = .ok (.invokevirtual 113, 3) := by decide +kernel
theorem dX4_take_34 : decode cX4_take 34 = .ok (.ireturn, 1) := by decide +kernel
theorem dX4_length_0 : decode cX4_length 0 = .ok (.aload_n 0, 1) := by decide +kernel
theorem dX4_length_1 : decode cX4_length 1 = .ok (.iload_n 1, 1) := by decide +kernel
theorem dX4_length_2 : decode cX4_length 2 = .ok (.invokestatic 107, 3) := by decide +kernel
theorem dX4_length_5 : decode cX4_length 5 = .ok (.iconst 1, 1) := by decide +kernel
theorem dX4_length_6 : decode cX4_length 6 = .ok (.invokevirtual 110, 3) := by decide +kernel
theorem dX4_length_9 : decode cX4_length 9 = .ok (.ifCond .eq 7, 3) := by decide +kernel
theorem dX4_length_12 : decode cX4_length 12 = .ok (.iconst 0, 1) := by decide +kernel
theorem dX4_length_13 : decode cX4_length 13 = .ok (.goto 10, 3) := by decide +kernel
theorem dX4_length_16 : decode cX4_length 16 = .ok (.aload_n 0, 1) := by decide +kernel
theorem dX4_length_17 : decode cX4_length 17 = .ok (.getfield 72, 3) := by decide +kernel
theorem dX4_length_20 : decode cX4_length 20 = .ok (.iload_n 1, 1) := by decide +kernel
theorem dX4_length_21 : decode cX4_length 21 = .ok (.aaload, 1) := by decide +kernel
theorem dX4_length_22 : decode cX4_length 22 = .ok (.arraylength, 1) := by decide +kernel
theorem dX4_length_23 : decode cX4_length 23 = .ok (.ireturn, 1) := by decide +kernel
abbrev rmX4_length : Room := { frames := 3, cells := 0, slots := 0, locals := 64 }
theorem mX4_length {l : Launch} {G : Cx} {A : Nat → Prop} {am xa : Nat} {X : Nat → List Nat} {P : List (List Nat)} {k : Int32} {x th : Int32} : Met l yX4_length (.code yX4_length cX4_length 2 (some .int) :: GW) rmX4_length (PC G A [.ref am, .int x] (MW G A am xa X P k th)) (qI A (fun r H => (NT x ∧ r = 0 ∧ MW G A am xa X P k 1 H) ∨ ∃ i : Nat, i < 4 ∧ x = nI i ∧ r = nI (X i).length ∧ MW G A am xa X P k 0 H)) 0 0 (A) := by
  refine mstart "SigntextModel" (by decide +kernel) rfl (Nat.le_of_ble_eq_true rfl) ?_
  intro p e s m below meth c ls hx hb hr hts hown hml hlocks hname hC hA hW hl
  have hl : lv_has ls 2 [(0, .ref am), (1, .int x)] := hl
  have hK := hC.1
  have hS : va_S A s.heap s.heap [] := va_S.rf
  obtain ⟨ra, pa, tx, hW⟩ := hW
  have hO := hW.obj
  have hAm := hW.1
  refine lv_aload_n hx hb dX4_length_0 rfl (lv_at hl 0 rfl) ?_
  refine lv_iload_n hx hb dX4_length_1 rfl (lv_at hl 1 rfl) ?_
  refine kS_i (A := A) (As := [.int x]) (rest := .ref am :: []) ⟨hx, hb, hml, hown, hts⟩ (mX4_isNone (A := A) ) (va_cwS 1 hts (gS tw_4_203 tw_4_204 tw_1_8 tw_4_205) rfl rfl rfl (by decide +kernel) ⟨Nat.le_of_ble_eq_true rfl, Nat.le_of_ble_eq_true rfl⟩) hC hS hA  trivial rfl rfl hl.1 (Nat.le_of_ble_eq_true rfl) ⟨Nat.zero_le _, Nat.zero_le _⟩ dX4_length_2 (fun r_1 hr_1 => ?_)
  obtain ⟨r_1v, hr_1v, rfl⟩ := hr_1
  refine lv_iconst (v := nI 1) hx hb dX4_length_5 (by decide) ?_
  refine qI_V (A := A) (A1 := A) (b := am) (As := [.int (bI r_1v), .int (nI 1)]) (rest := []) ⟨hx, hb, hml, hown, hts⟩ (mX4_start (A := A) (b := r_1v) (w9 := 1) (by decide)) (cwV 2 hts (gV tw_4_206 tw_4_208 sel_X4_start tw_1_8 tw_4_209) rfl rfl rfl (by decide +kernel) ⟨Nat.le_of_ble_eq_true rfl, Nat.le_of_ble_eq_true rfl⟩) hC hS (fun _ h => h) (fun q h => hA q (Nat.le_trans hS.1 h)) (hW.recv hK) ⟨ra, pa, tx, hW⟩ rfl rfl hl.1 (Nat.le_of_ble_eq_true rfl) ⟨Nat.zero_le _, Nat.zero_le _⟩ dX4_length_6 (fun rv2 H2 L2 hP2 hk2 hS => ?_)
  have hZ2 := hS.1
  obtain ⟨hr2, hM2⟩ := hP2
  subst hr2
  obtain ⟨ra, pa, tx, hW⟩ := hM2
  have hO := hW.obj
  have hAm := hW.1
  refine f_eq (tgt := 16) hx hb dX4_length_9 (by decide) (fun c_3 => ?_) (fun c_3 => ?_)
  · have hv : r_1v = false := by cases q : r_1v; rfl; rw [q] at c_3; exact absurd c_3 (by decide)
    rw [hv] at hW hO
    obtain ⟨i, hi, rfl⟩ : ∃ i : Nat, i < 4 ∧ x = nI i := Classical.byContradiction (fun q => absurd (hr_1v.mpr q) (by rw [hv]; decide))
    have hO := hW.obj
    have hAm := hW.1
    refine lv_aload_n hx hb dX4_length_16 rfl (lv_at hl 0 rfl) ?_
    refine va_get (D := G.1) (ci := 8) (C := RX4) (T := TX4) (N := 5) hx hb hts inX4 hown hK (at_P hO) 0 rfl rfl 1 (by decide) (hts _ tw_4_173) (fun _ h9 => h9) rfl dX4_length_17 ?_
    refine lv_iload_n hx hb dX4_length_20 rfl (lv_at hl 1 rfl) ?_
    refine h_aaldI (D := G.1) hx hb hK 4 hW.txs rfl (vp_in_nI (n := i) (N := 4) (by omega) (by omega)) dX4_length_21 ?_
    refine v_cv (show va_rf _ = .ref (tx i) from by rw [nI_clamp (n := i) (by omega)]; rfl) ?_
    have hTi := (hW.tx (j := i) (by omega)).ia hC.2.1.2
    have x60i := hW.2.2.1 i (Or.inl (by omega))
    refine h_ilen hx hb hC.2.1 hTi dX4_length_22 ?_
    exact q_i hx hb hr hlocks dX4_length_23 hS (Nat.le_refl _) (Nat.le_refl _) (Or.inr ⟨i, hi, rfl, rfl, ra, pa, tx, hW⟩)
  · have hv : r_1v = true := by cases q : r_1v; rw [q] at c_3; exact absurd c_3 (by decide); rfl
    rw [hv] at hW hO
    refine lv_iconst (v := nI 0) hx hb dX4_length_12 (by decide) ?_
    refine lv_goto (tgt := 23) hx hb dX4_length_13 (by decide) ?_
    exact q_i hx hb hr hlocks dX4_length_23 hS (Nat.le_refl _) (Nat.le_refl _) (Or.inl ⟨hr_1v.mp hv, rfl, ra, pa, tx, hW⟩)

abbrev rmX4_take : Room := { frames := 3, cells := 1, slots := 61, locals := 64 }
theorem mX4_take {l : Launch} {G : Cx} {A : Nat → Prop} {am xa : Nat} {X : Nat → List Nat} {P : List (List Nat)} {k : Int32} {x th : Int32} : Met l yX4_take (.code yX4_take cX4_take 2 (some .int) :: GW) rmX4_take (PC G A [.ref am, .int x] (MW G A am xa X P k th)) (qI A (fun r H => (NT x ∧ r = 0 ∧ MW G A am xa X P k 1 H) ∨ ∃ i : Nat, i < 4 ∧ x = nI i ∧ r = nI (X 11).length ∧ MW G A am xa (updT X i (X 11)) P k 0 H)) 1 61 (A) := by
  refine mstart "SigntextModel" (by decide +kernel) rfl (Nat.le_of_ble_eq_true rfl) ?_
  intro p e s m below meth c ls hx hb hr hts hown hml hlocks hname hC hA hW hl
  have hl : lv_has ls 2 [(0, .ref am), (1, .int x)] := hl
  have hK := hC.1
  have hS : va_S A s.heap s.heap [] := va_S.rf
  obtain ⟨ra, pa, tx, hW⟩ := hW
  have hO := hW.obj
  have hAm := hW.1
  refine lv_aload_n hx hb dX4_take_0 rfl (lv_at hl 0 rfl) ?_
  refine lv_iload_n hx hb dX4_take_1 rfl (lv_at hl 1 rfl) ?_
  refine kS_i (A := A) (As := [.int x]) (rest := .ref am :: []) ⟨hx, hb, hml, hown, hts⟩ (mX4_isNone (A := A) ) (va_cwS 1 hts (gS tw_4_203 tw_4_204 tw_1_8 tw_4_205) rfl rfl rfl (by decide +kernel) ⟨Nat.le_of_ble_eq_true rfl, Nat.le_of_ble_eq_true rfl⟩) hC hS hA  trivial rfl rfl hl.1 (Nat.le_of_ble_eq_true rfl) ⟨Nat.zero_le _, Nat.zero_le _⟩ dX4_take_2 (fun r_4 hr_4 => ?_)
  obtain ⟨r_4v, hr_4v, rfl⟩ := hr_4
  refine lv_iconst (v := nI 1) hx hb dX4_take_5 (by decide) ?_
  refine qI_V (A := A) (A1 := A) (b := am) (As := [.int (bI r_4v), .int (nI 1)]) (rest := []) ⟨hx, hb, hml, hown, hts⟩ (mX4_start (A := A) (b := r_4v) (w9 := 1) (by decide)) (cwV 2 hts (gV tw_4_206 tw_4_208 sel_X4_start tw_1_8 tw_4_209) rfl rfl rfl (by decide +kernel) ⟨Nat.le_of_ble_eq_true rfl, Nat.le_of_ble_eq_true rfl⟩) hC hS (fun _ h => h) (fun q h => hA q (Nat.le_trans hS.1 h)) (hW.recv hK) ⟨ra, pa, tx, hW⟩ rfl rfl hl.1 (Nat.le_of_ble_eq_true rfl) ⟨Nat.zero_le _, Nat.zero_le _⟩ dX4_take_6 (fun rv5 H5 L5 hP5 hk5 hS => ?_)
  have hZ5 := hS.1
  obtain ⟨hr5, hM5⟩ := hP5
  subst hr5
  obtain ⟨ra, pa, tx, hW⟩ := hM5
  have hO := hW.obj
  have hAm := hW.1
  refine f_eq (tgt := 16) hx hb dX4_take_9 (by decide) (fun c_6 => ?_) (fun c_6 => ?_)
  · have hv : r_4v = false := by cases q : r_4v; rfl; rw [q] at c_6; exact absurd c_6 (by decide)
    rw [hv] at hW hO
    obtain ⟨i, hi, rfl⟩ : ∃ i : Nat, i < 4 ∧ x = nI i := Classical.byContradiction (fun q => absurd (hr_4v.mpr q) (by rw [hv]; decide))
    have hO := hW.obj
    have hAm := hW.1
    have hR1 := hW.row.ia hC.2.1.2
    have x11 := hW.2.2.1 11 (Or.inr rfl)
    refine lv_aload_n hx hb dX4_take_16 rfl (lv_at hl 0 rfl) ?_
    refine lv_iload_n hx hb dX4_take_17 rfl (lv_at hl 1 rfl) ?_
    refine lv_aload_n hx hb dX4_take_18 rfl (lv_at hl 0 rfl) ?_
    refine va_get (D := G.1) (ci := 8) (C := RX4) (T := TX4) (N := 5) hx hb hts inX4 hown hK (at_P hO) 0 rfl rfl 2 (by decide) (hts _ tw_4_174) (fun _ h9 => h9) rfl dX4_take_19 ?_
    refine lv_iconst (v := nI 0) hx hb dX4_take_22 (by decide) ?_
    refine lv_aload_n hx hb dX4_take_23 rfl (lv_at hl 0 rfl) ?_
    refine va_get (D := G.1) (ci := 8) (C := RX4) (T := TX4) (N := 5) hx hb hts inX4 hown hK (at_P hO) 0 rfl rfl 2 (by decide) (hts _ tw_4_174) (fun _ h9 => h9) rfl dX4_take_24 ?_
    refine h_ilen hx hb hC.2.1 hR1 dX4_take_27 ?_
    have hra := hW.row.lt
    refine qR_S (A := A) (A1 := nw H5.size)  (As := [.ref ra, .int (nI 0), .int (nI ((X 11).length))]) (rest := .int (nI i) :: .ref am :: []) ⟨hx, hb, hml, hown, hts⟩ (mX4_cut (A := nw H5.size) (sz := H5.size) (t := X 11) (i := 0) (i2 := (X 11).length) (Nat.zero_le _) (Nat.le_refl _) (by omega)) (va_cwS 3 hts (gS tw_4_226 tw_4_227 tw_1_8 tw_4_228) rfl rfl rfl (by decide +kernel) ⟨Nat.le_of_ble_eq_true rfl, Nat.le_of_ble_eq_true rfl⟩) hC hS (nw_in hA hS.1) nw_n  ⟨rfl, hR1⟩ rfl rfl hl.1 (Nat.le_of_ble_eq_true rfl) ⟨Nat.le_trans (show 0 + 1 ≤ 1 by omega) (Nat.le_of_ble_eq_true rfl), Nat.le_trans (show 0 + 61 ≤ 61 by omega) (Nat.le_of_ble_eq_true rfl)⟩ dX4_take_28 (fun rv7 H7 L7 hP7 hk7 hS => ?_)
    have hZ7 := hS.1
    rw [cutL_all] at hP7
    have hW := hW.nw hk7
    refine qI_V (A := A) (A1 := A) (b := am) (As := [.int (nI i), .ref rv7]) (rest := []) ⟨hx, hb, hml, hown, hts⟩ (mX4_become (A := A) (X := X) (P := P) (k := k) (xa := xa) (t := X 11) hi x11) (cwV 2 hts (gV tw_4_214 tw_4_216 sel_X4_become tw_1_8 tw_4_217) rfl rfl rfl (by decide +kernel) ⟨Nat.le_of_ble_eq_true rfl, Nat.le_of_ble_eq_true rfl⟩) hC hS (fun _ h => h) (fun q h => hA q (Nat.le_trans hS.1 h)) (hW.recv hK) ⟨ra, pa, tx, hW, hP7.2, (by have := hP7.1; omega)⟩ rfl rfl hl.1 (Nat.le_of_ble_eq_true rfl) ⟨Nat.le_trans (show (0 + 1) ≤ 1 by omega) (Nat.le_of_ble_eq_true rfl), Nat.le_trans (show (0 + 61) ≤ 61 by omega) (Nat.le_of_ble_eq_true rfl)⟩ dX4_take_31 (fun rv8 H8 L8 hP8 hk8 hS => ?_)
    have hZ8 := hS.1
    exact q_i hx hb hr hlocks dX4_take_34 hS (by omega) (by omega) (Or.inr ⟨i, hi, rfl, hP8.1, hP8.2⟩)
  · have hv : r_4v = true := by cases q : r_4v; rw [q] at c_6; exact absurd c_6 (by decide); rfl
    rw [hv] at hW hO
    refine lv_iconst (v := nI 0) hx hb dX4_take_12 (by decide) ?_
    refine lv_goto (tgt := 34) hx hb dX4_take_13 (by decide) ?_
    exact q_i hx hb hr hlocks dX4_take_34 hS (by omega) (by omega) (Or.inl ⟨hr_4v.mp hv, rfl, ra, pa, tx, hW⟩)
