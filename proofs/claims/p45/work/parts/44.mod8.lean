/-! The model, 8: what is asked of two texts -/
theorem dX4_areNone_0 : decode cX4_areNone 0 = .ok (.iload_n 1, 1) := by decide +kernel
theorem dX4_areNone_1 : decode cX4_areNone 1 = .ok (.invokestatic 107, 3) := by decide +kernel
theorem dX4_areNone_4 : decode cX4_areNone 4 = .ok (.ifCond .ne 10, 3) := by decide +kernel
theorem dX4_areNone_7 : decode cX4_areNone 7 = .ok (.iload_n 2, 1) := by decide +kernel
theorem dX4_areNone_8 : decode cX4_areNone 8 = .ok (.invokestatic 107, 3) := by decide +kernel
theorem dX4_areNone_11 : decode cX4_areNone 11 = .ok (.ifCond .eq 7, 3) := by decide +kernel
theorem dX4_areNone_14 : decode cX4_areNone 14 = .ok (.iconst 1, 1) := by decide +kernel
theorem dX4_areNone_15 : decode cX4_areNone 15 = .ok (.goto 4, 3) := by decide +kernel
theorem dX4_areNone_18 : decode cX4_areNone 18 = .ok (.iconst 0, 1) := by decide +kernel
theorem dX4_areNone_19 : decode cX4_areNone 19 = .ok (.ireturn, 1) := by decide +kernel
theorem dX4_firstOf_0 : decode cX4_firstOf 0 = .ok (.aload_n 0, 1) := by decide +kernel
theorem dX4_firstOf_1 : decode cX4_firstOf 1 = .ok (.aload_n 0, 1) := by decide +kernel
theorem dX4_firstOf_2 : decode cX4_firstOf 2 = .ok (.iload_n 1, 1) := by decide +kernel
theorem dX4_firstOf_3 : decode cX4_firstOf 3 = .ok (.iload_n 2, 1) := by decide +kernel
theorem dX4_firstOf_4 : decode cX4_firstOf 4 = .ok (.invokevirtual 167, 3) := by decide +kernel
theorem dX4_firstOf_7 : decode cX4_firstOf 7 = .ok (.iconst 1, 1) := by decide +kernel
theorem dX4_firstOf_8 : decode cX4_firstOf 8 = .ok (.invokevirtual 110, 3) := by decide +kernel
theorem dX4_firstOf_11 : decode cX4_firstOf 11 = .ok (.ifCond .eq 7, 3) := by decide +kernel
theorem dX4_firstOf_14 : decode cX4_firstOf 14 = .ok (.iconst 0, 1) := by decide +kernel
theorem dX4_firstOf_15 : decode cX4_firstOf 15 = .ok (.goto 18, 3) := by decide +kernel
theorem dX4_firstOf_18 : decode cX4_firstOf 18 = .ok (.aload_n 0, 1) := by decide +kernel
theorem dX4_firstOf_19 : decode cX4_firstOf 19 = .ok (.getfield 72, 3) := by decide +kernel
theorem dX4_firstOf_22 : decode cX4_firstOf 22 = .ok (.iload_n 1, 1) := by decide +kernel
theorem dX4_firstOf_23 : decode cX4_firstOf 23 = .ok (.aaload, 1) := by decide +kernel
theorem dX4_firstOf_24 : decode cX4_firstOf 24 = .ok (.aload_n 0, 1) := by decide +kernel
theorem dX4_firstOf_25 : decode cX4_firstOf 25 = .ok (.getfield 72, 3) := by decide +kernel
theorem dX4_firstOf_28 : decode cX4_firstOf 28 = .ok (.iload_n 2, 1) := by decide +kernel
theorem dX4_firstOf_29 : decode cX4_firstOf 29 = .ok (.aaload, 1) := by decide +kernel
theorem dX4_firstOf_30 : decode cX4_firstOf 30 = .ok (.invokestatic 160, 3) := by decide +kernel
theorem dX4_firstOf_33 : decode cX4_firstOf 33 = .ok (.ireturn, 1) := by decide +kernel
theorem dX4_lastOf_0 : decode cX4_lastOf 0 = .ok (.aload_n 0, 1) := by decide +kernel
theorem dX4_lastOf_1 : decode cX4_lastOf 1 = .ok (.aload_n 0, 1) := by decide +kernel
theorem dX4_lastOf_2 : decode cX4_lastOf 2 = .ok (.iload_n 1, 1) := by decide +kernel
theorem dX4_lastOf_3 : decode cX4_lastOf 3 = .ok (.iload_n 2, 1) := by decide +kernel
theorem dX4_lastOf_4 : decode cX4_lastOf 4 = .ok (.invokevirtual 167, 3) := by decide +kernel
theorem dX4_lastOf_7 : decode cX4_lastOf 7 = .ok (.iconst 1, 1) := by decide +kernel
theorem dX4_lastOf_8 : decode cX4_lastOf 8 = .ok (.invokevirtual 110, 3) := by decide +kernel
theorem dX4_lastOf_11 : decode cX4_lastOf 11 = .ok (.ifCond .eq 7, 3) := by decide +kernel
theorem dX4_lastOf_14 : decode cX4_lastOf 14 = .ok (.iconst 0, 1) := by decide +kernel
theorem dX4_lastOf_15 : decode cX4_lastOf 15 = .ok (.goto 18, 3) := by decide +kernel
theorem dX4_lastOf_18 : decode cX4_lastOf 18 = .ok (.aload_n 0, 1) := by decide +kernel
theorem dX4_lastOf_19 : decode cX4_lastOf 19 = .ok (.getfield 72, 3) := by decide +kernel
theorem dX4_lastOf_22 : decode cX4_lastOf 22 = .ok (.iload_n 1, 1) := by decide +kernel
theorem dX4_lastOf_23 : decode cX4_lastOf 23 = .ok (.aaload, 1) := by decide +kernel
theorem dX4_lastOf_24 : decode cX4_lastOf 24 = .ok (.aload_n 0, 1) := by decide +kernel
theorem dX4_lastOf_25 : decode cX4_lastOf 25 = .ok (.getfield 72, 3) := by decide +kernel
theorem dX4_lastOf_28 : decode cX4_lastOf 28 = .ok (.iload_n 2, 1) := by decide +kernel
theorem dX4_lastOf_29 : decode cX4_lastOf 29 = .ok (.aaload, 1) := by decide +kernel
theorem dX4_lastOf_30 : decode cX4_lastOf 30 = .ok (.invokestatic 164, 3) := by decide +kernel
theorem dX4_lastOf_33 : decode cX4_lastOf 33 = .ok (.ireturn, 1) := by decide +kernel
theorem dX4_isSame__0 : decode cX4_isSame_ 0 = .ok (.aload_n 0, 1) := by decide +kernel
theorem dX4_isSame__1 : decode cX4_isSame_ 1 = .ok (.aload_n 0, 1) := by decide +kernel
theorem dX4_isSame__2 : decode cX4_isSame_ 2 = .ok (.iload_n 1, 1) := by decide +kernel
theorem dX4_isSame__3 : decode cX4_isSame_ 3 = .ok (.iload_n 2, 1) := by decide +kernel
theorem dX4_isSame__4 : decode cX4_isSame_ 4 = .ok (.invokevirtual 167, 3) := by decide +kernel
theorem dX4_isSame__7 : decode cX4_isSame_ 7 = .ok (.iconst 1, 1) := by decide +kernel
theorem dX4_isSame__8 : decode cX4_isSame_ 8 = .ok (.invokevirtual 110, 3) := by decide +kernel
theorem dX4_isSame__11 : decode cX4_isSame_ 11 = .ok (.ifCond .ne 26, 3) := by decide +kernel
theorem dX4_isSame__14 : decode cX4_isSame_ 14 = .ok (.aload_n 0, 1) := by decide +kernel
theorem dX4_isSame__15 : decode cX4_isSame_ 15 = .ok (.getfield 72, 3) := by decide +kernel
theorem dX4_isSame__18 : decode cX4_isSame_ 18 = .ok (.iload_n 1, 1) := by decide +kernel
theorem dX4_isSame__19 : decode cX4_isSame_ 19 = .ok (.aaload, 1) := by decide +kernel
theorem dX4_isSame__20 : decode cX4_isSame_ 20 = .ok (.aload_n 0, 1) := by decide +kernel
theorem dX4_isSame__21 : decode cX4_isSame_ 21 = .ok (.getfield 72, 3) := by decide +kernel
theorem dX4_isSame__24 : decode cX4_isSame_ 24 = .ok (.iload_n 2, 1) := by decide +kernel
theorem dX4_isSame__25 : decode cX4_isSame_ 25 = .ok (.aaload, 1) := by decide +kernel
theorem dX4_isSame__26 : decode cX4_isSame_ 26 = .ok (.iload_n 3, 1) := by decide +kernel
theorem dX4_isSame__27 : decode cX4_isSame_ 27 = .ok (.invokestatic 171, 3) := by decide +kernel
theorem dX4_isSame__30 : decode cX4_isSame_ 30 = .ok (.ifCond .eq 7, 3) := by decide +kernel
theorem dX4_isSame__33 : decode cX4_isSame_ 33 = .ok (.iconst 1, 1) := by decide +kernel
theorem dX4_isSame__34 : decode cX4_isSame_ 34 = .ok (.goto 4, 3) := by decide +kernel
theorem dX4_isSame__37 : decode cX4_isSame_ 37 = .ok (.iconst 0, 1) := by decide +kernel
theorem dX4_isSame__38 : decode cX4_isSame_ 38 = .ok (.ireturn, 1) := by decide +kernel
theorem dX4_order__0 : decode cX4_order_ 0 = .ok (.aload_n 0, 1) := by decide +kernel
theorem dX4_order__1 : decode cX4_order_ 1 = .ok (.aload_n 0, 1) := by decide +kernel
theorem dX4_order__2 : decode cX4_order_ 2 = .ok (.iload_n 1, 1) := by decide +kernel
theorem dX4_order__3 : decode cX4_order_ 3 = .ok (.iload_n 2, 1) := by decide +kernel
theorem dX4_order__4 : decode cX4_order_ 4 = .ok (.invokevirtual 167, 3) := by decide +kernel
theorem dX4_order__7 : decode cX4_order_ 7 = .ok (.iconst 1, 1) := by decide +kernel
theorem dX4_order__8 : decode cX4_order_ 8 = .ok (.invokevirtual 110, 3) := by decide +kernel
theorem dX4_order__11 : decode cX4_order_ 11 = .ok (.ifCond .eq 7, 3) := by decide +kernel
theorem dX4_order__14 : decode cX4_order_ 14 = .ok (.iconst 0, 1) := by decide +kernel
theorem dX4_order__15 : decode cX4_order_ 15 = .ok (.goto 19, 3) := by decide +kernel
theorem dX4_order__18 : decode cX4_order_ 18 = .ok (.aload_n 0, 1) := by decide +kernel
theorem dX4_order__19 : decode cX4_order_ 19 = .ok (.getfield 72, 3) := by decide +kernel
theorem dX4_order__22 : decode cX4_order_ 22 = .ok (.iload_n 1, 1) := by decide +kernel
theorem dX4_order__23 : decode cX4_order_ 23 = .ok (.aaload, 1) := by decide +kernel
theorem dX4_order__24 : decode cX4_order_ 24 = .ok (.aload_n 0, 1) := by decide +kernel
theorem dX4_order__25 : decode cX4_order_ 25 = .ok (.getfield 72, 3) := by decide +kernel
theorem dX4_order__28 : decode cX4_order_ 28 = .ok (.iload_n 2, 1) := by decide +kernel
theorem dX4_order__29 : decode cX4_order_ 29 = .ok (.aaload, 1) := by decide +kernel
theorem dX4_order__30 : decode cX4_order_ 30 = .ok (.iconst 0, 1) := by decide +kernel
theorem dX4_order__31 : decode cX4_order_ 31 = .ok (.invokestatic 175, 3) := by decide +kernel
theorem dX4_order__34 : decode cX4_order_ 34 = .ok (.ireturn, 1) := by decide +kernel
theorem dX4_orderLike_0 : decode cX4_orderLike 0 = .ok (.aload_n 0, 1) := by decide +kernel
theorem dX4_orderLike_1 : decode cX4_orderLike 1 = .ok (.aload_n 0, 1) := by decide +kernel
theorem dX4_orderLike_2 : decode cX4_orderLike 2 = .ok (.iload_n 1, 1) := by decide +kernel
theorem dX4_orderLike_3 : decode cX4_orderLike 3 = .ok (.iload_n 2, 1) := by decide +kernel
theorem dX4_orderLike_4 : decode cX4_orderLike 4 = .ok (.invokevirtual 167, 3) := by decide +kernel
theorem dX4_orderLike_7 : decode cX4_orderLike 7 = .ok (.iconst 1, 1) := by decide +kernel
theorem dX4_orderLike_8 : decode cX4_orderLike 8 = .ok (.invokevirtual 110, 3) := by decide +kernel
theorem dX4_orderLike_11 : decode cX4_orderLike 11 = .ok (.ifCond .eq 7, 3) := by decide +kernel
theorem dX4_orderLike_14 : decode cX4_orderLike 14 = .ok (.iconst 0, 1) := by decide +kernel
theorem dX4_orderLike_15 : decode cX4_orderLike 15 = .ok (.goto 19, 3) := by decide +kernel
theorem dX4_orderLike_18 : decode cX4_orderLike 18 = .ok (.aload_n 0, 1) := by decide +kernel
theorem dX4_orderLike_19 : decode cX4_orderLike 19 = .ok (.getfield 72, 3) := by decide +kernel
theorem dX4_orderLike_22 : decode cX4_orderLike 22 = .ok (.iload_n 1, 1) := by decide +kernel
theorem dX4_orderLike_23 : decode cX4_orderLike 23 = .ok (.aaload, 1) := by decide +kernel
theorem dX4_orderLike_24 : decode cX4_orderLike 24 = .ok (.aload_n 0, 1) := by decide +kernel
theorem dX4_orderLike_25 : decode cX4_orderLike 25 = .ok (.getfield 72, 3) := by decide +kernel
theorem dX4_orderLike_28 : decode cX4_orderLike 28 = .ok (.iload_n 2, 1) := by decide +kernel
theorem dX4_orderLike_29 : decode cX4_orderLike 29 = .ok (.aaload, 1) := by decide +kernel
theorem dX4_orderLike_30 : decode cX4_orderLike 30 = .ok (.iconst 1, 1) := by decide +kernel
theorem dX4_orderLike_31 : decode cX4_orderLike 31 = .ok (.invokestatic 175, 3) := by decide +kernel
theorem dX4_orderLike_34 : decode cX4_orderLike 34 = .ok (.ireturn, 1) := by decide +kernel
abbrev rmX4_areNone : Room := { frames := 2, cells := 0, slots := 0, locals := 42 }
theorem mX4_areNone {l : Launch} {G : Cx} {A : Nat → Prop} {am xa : Nat} {X : Nat → List Nat} {P : List (List Nat)} {k : Int32} {x y th : Int32} : Met l yX4_areNone (.code yX4_areNone cX4_areNone 3 (some .boolean) :: GW) rmX4_areNone (PC G A [.ref am, .int x, .int y] (MW G A am xa X P k th)) (vp_Si (fun r => ∃ v : Bool, (v = true ↔ (NT x ∨ NT y)) ∧ r = bI v)) 0 0 (fun _ => False) := by
  refine mstart "SigntextModel" (by decide +kernel) rfl (Nat.le_of_ble_eq_true rfl) ?_
  intro p e s m below meth c ls hx hb hr hts hown hml hlocks hname hC hA hW hl
  have hl : lv_has ls 3 [(0, .ref am), (1, .int x), (2, .int y)] := hl
  have hK := hC.1
  have hS : va_S A s.heap s.heap [] := va_S.rf
  refine lv_iload_n hx hb dX4_areNone_0 rfl (lv_at hl 1 rfl) ?_
  refine kS_i (A := A) (As := [.int x]) (rest := []) ⟨hx, hb, hml, hown, hts⟩ (mX4_isNone (A := A) ) (va_cwS 1 hts (gS tw_4_203 tw_4_204 tw_1_8 tw_4_205) rfl rfl rfl (by decide +kernel) ⟨Nat.le_of_ble_eq_true rfl, Nat.le_of_ble_eq_true rfl⟩) hC hS hA  trivial rfl rfl hl.1 (Nat.le_of_ble_eq_true rfl) ⟨Nat.zero_le _, Nat.zero_le _⟩ dX4_areNone_1 (fun r_1 hr_1 => ?_)
  obtain ⟨r_1v, hr_1v, rfl⟩ := hr_1
  refine f_ne (tgt := 14) hx hb dX4_areNone_4 (by decide) (fun c_2 => ?_) (fun c_2 => ?_)
  · refine lv_iconst (v := nI 1) hx hb dX4_areNone_14 (by decide) ?_
    refine lv_goto (tgt := 19) hx hb dX4_areNone_15 (by decide) ?_
    exact p_z (b := true) hx hb hr hlocks dX4_areNone_19 ⟨true, ⟨fun _ => Or.inl (hr_1v.mp c_2), fun _ => rfl⟩, rfl⟩
  · refine lv_iload_n hx hb dX4_areNone_7 rfl (lv_at hl 2 rfl) ?_
    refine kS_i (A := A) (As := [.int y]) (rest := []) ⟨hx, hb, hml, hown, hts⟩ (mX4_isNone (A := A) ) (va_cwS 1 hts (gS tw_4_203 tw_4_204 tw_1_8 tw_4_205) rfl rfl rfl (by decide +kernel) ⟨Nat.le_of_ble_eq_true rfl, Nat.le_of_ble_eq_true rfl⟩) hC hS hA  trivial rfl rfl hl.1 (Nat.le_of_ble_eq_true rfl) ⟨Nat.zero_le _, Nat.zero_le _⟩ dX4_areNone_8 (fun r_3 hr_3 => ?_)
    obtain ⟨r_3v, hr_3v, rfl⟩ := hr_3
    refine f_eq (tgt := 18) hx hb dX4_areNone_11 (by decide) (fun c_4 => ?_) (fun c_4 => ?_)
    · refine lv_iconst (v := nI 0) hx hb dX4_areNone_18 (by decide) ?_
      exact p_z (b := false) hx hb hr hlocks dX4_areNone_19 ⟨false, ⟨fun q => Bool.noConfusion q, fun q => by rcases q with q | q; exact absurd (hr_1v.mpr q) (by rw [c_2]; decide); exact absurd (hr_3v.mpr q) (by rw [c_4]; decide)⟩, rfl⟩
    · refine lv_iconst (v := nI 1) hx hb dX4_areNone_14 (by decide) ?_
      refine lv_goto (tgt := 19) hx hb dX4_areNone_15 (by decide) ?_
      exact p_z (b := true) hx hb hr hlocks dX4_areNone_19 ⟨true, ⟨fun _ => Or.inr (hr_3v.mp c_4), fun _ => rfl⟩, rfl⟩

abbrev rmX4_firstOf : Room := { frames := 3, cells := 0, slots := 0, locals := 66 }
theorem mX4_firstOf {l : Launch} {G : Cx} {A : Nat → Prop} {am xa : Nat} {X : Nat → List Nat} {P : List (List Nat)} {k : Int32} {x y th : Int32} : Met l yX4_firstOf (.code yX4_firstOf cX4_firstOf 3 (some .int) :: GW) rmX4_firstOf (PC G A [.ref am, .int x, .int y] (MW G A am xa X P k th)) (qI A (fun r H => ((NT x ∨ NT y) ∧ r = 0 ∧ MW G A am xa X P k 1 H) ∨ ∃ i j : Nat, i < 4 ∧ x = nI i ∧ j < 4 ∧ y = nI j ∧ fstR (fun k9 => stL false (X i) (X j) k9) r ∧ MW G A am xa X P k 0 H)) 0 0 (A) := by
  refine mstart "SigntextModel" (by decide +kernel) rfl (Nat.le_of_ble_eq_true rfl) ?_
  intro p e s m below meth c ls hx hb hr hts hown hml hlocks hname hC hA hW hl
  have hl : lv_has ls 3 [(0, .ref am), (1, .int x), (2, .int y)] := hl
  have hK := hC.1
  have hS : va_S A s.heap s.heap [] := va_S.rf
  obtain ⟨ra, pa, tx, hW⟩ := hW
  have hO := hW.obj
  have hAm := hW.1
  refine lv_aload_n hx hb dX4_firstOf_0 rfl (lv_at hl 0 rfl) ?_
  refine lv_aload_n hx hb dX4_firstOf_1 rfl (lv_at hl 0 rfl) ?_
  refine lv_iload_n hx hb dX4_firstOf_2 rfl (lv_at hl 1 rfl) ?_
  refine lv_iload_n hx hb dX4_firstOf_3 rfl (lv_at hl 2 rfl) ?_
  refine kV_i (A := A) (b := am) (As := [.int x, .int y]) (rest := .ref am :: []) ⟨hx, hb, hml, hown, hts⟩ (mX4_areNone (A := A) (xa := xa) (X := X) (P := P) (k := k)) (cwV 2 hts (gV tw_6_204 tw_6_206 sel_X4_areNone tw_1_8 tw_6_207) rfl rfl rfl (by decide +kernel) ⟨Nat.le_of_ble_eq_true rfl, Nat.le_of_ble_eq_true rfl⟩) hC hS hA (hW.recv hK) ⟨ra, pa, tx, hW⟩ rfl rfl hl.1 (Nat.le_of_ble_eq_true rfl) ⟨Nat.zero_le _, Nat.zero_le _⟩ dX4_firstOf_4 (fun r_5 hr_5 => ?_)
  obtain ⟨r_5v, hr_5v, rfl⟩ := hr_5
  refine lv_iconst (v := nI 1) hx hb dX4_firstOf_7 (by decide) ?_
  refine qI_V (A := A) (A1 := A) (b := am) (As := [.int (bI r_5v), .int (nI 1)]) (rest := []) ⟨hx, hb, hml, hown, hts⟩ (mX4_start (A := A) (b := r_5v) (w9 := 1) (by decide)) (cwV 2 hts (gV tw_4_206 tw_4_208 sel_X4_start tw_1_8 tw_4_209) rfl rfl rfl (by decide +kernel) ⟨Nat.le_of_ble_eq_true rfl, Nat.le_of_ble_eq_true rfl⟩) hC hS (fun _ h => h) (fun q h => hA q (Nat.le_trans hS.1 h)) (hW.recv hK) ⟨ra, pa, tx, hW⟩ rfl rfl hl.1 (Nat.le_of_ble_eq_true rfl) ⟨Nat.zero_le _, Nat.zero_le _⟩ dX4_firstOf_8 (fun rv6 H6 L6 hP6 hk6 hS => ?_)
  have hZ6 := hS.1
  obtain ⟨hr6, hM6⟩ := hP6
  subst hr6
  obtain ⟨ra, pa, tx, hW⟩ := hM6
  have hO := hW.obj
  have hAm := hW.1
  refine f_eq (tgt := 18) hx hb dX4_firstOf_11 (by decide) (fun c_7 => ?_) (fun c_7 => ?_)
  · have hv : r_5v = false := by cases q : r_5v; rfl; rw [q] at c_7; exact absurd c_7 (by decide)
    rw [hv] at hW hO
    have hno : ¬ (NT x ∨ NT y) := fun q => absurd (hr_5v.mpr q) (by rw [hv]; decide)
    obtain ⟨i, hi, rfl⟩ : ∃ i : Nat, i < 4 ∧ x = nI i := Classical.byContradiction (fun q => hno (Or.inl q))
    obtain ⟨j, hj, rfl⟩ : ∃ j : Nat, j < 4 ∧ y = nI j := Classical.byContradiction (fun q => hno (Or.inr q))
    have hO := hW.obj
    have hAm := hW.1
    refine lv_aload_n hx hb dX4_firstOf_18 rfl (lv_at hl 0 rfl) ?_
    refine va_get (D := G.1) (ci := 8) (C := RX4) (T := TX4) (N := 5) hx hb hts inX4 hown hK (at_P hO) 0 rfl rfl 1 (by decide) (hts _ tw_4_173) (fun _ h9 => h9) rfl dX4_firstOf_19 ?_
    refine lv_iload_n hx hb dX4_firstOf_22 rfl (lv_at hl 1 rfl) ?_
    refine h_aaldI (D := G.1) hx hb hK 4 hW.txs rfl (vp_in_nI (n := i) (N := 4) (by omega) (by omega)) dX4_firstOf_23 ?_
    refine v_cv (show va_rf _ = .ref (tx i) from by rw [nI_clamp (n := i) (by omega)]; rfl) ?_
    have hTi := (hW.tx (j := i) (by omega)).ia hC.2.1.2
    have x60i := hW.2.2.1 i (Or.inl (by omega))
    refine lv_aload_n hx hb dX4_firstOf_24 rfl (lv_at hl 0 rfl) ?_
    refine va_get (D := G.1) (ci := 8) (C := RX4) (T := TX4) (N := 5) hx hb hts inX4 hown hK (at_P hO) 0 rfl rfl 1 (by decide) (hts _ tw_4_173) (fun _ h9 => h9) rfl dX4_firstOf_25 ?_
    refine lv_iload_n hx hb dX4_firstOf_28 rfl (lv_at hl 2 rfl) ?_
    refine h_aaldI (D := G.1) hx hb hK 4 hW.txs rfl (vp_in_nI (n := j) (N := 4) (by omega) (by omega)) dX4_firstOf_29 ?_
    refine v_cv (show va_rf _ = .ref (tx j) from by rw [nI_clamp (n := j) (by omega)]; rfl) ?_
    have hTj := (hW.tx (j := j) (by omega)).ia hC.2.1.2
    have x60j := hW.2.2.1 j (Or.inl (by omega))
    refine kS_i (A := A) (As := [.ref (tx i), .ref (tx j)]) (rest := []) ⟨hx, hb, hml, hown, hts⟩ (mX4_first (A := A) (t := X i) (u := X j) x60i.1 x60j.1 (by omega) (by omega)) (va_cwS 2 hts (gS tw_6_172 tw_6_173 tw_1_8 tw_6_174) rfl rfl rfl (by decide +kernel) ⟨Nat.le_of_ble_eq_true rfl, Nat.le_of_ble_eq_true rfl⟩) hC hS hA  ⟨hTi, hTj⟩ rfl rfl hl.1 (Nat.le_of_ble_eq_true rfl) ⟨Nat.zero_le _, Nat.zero_le _⟩ dX4_firstOf_30 (fun r_8 hr_8 => ?_)
    have h7 : fstR (fun k9 => stL false (X i) (X j) k9) r_8 := hr_8
    exact q_i hx hb hr hlocks dX4_firstOf_33 hS (Nat.le_refl _) (Nat.le_refl _) (Or.inr ⟨i, j, hi, rfl, hj, rfl, h7, ra, pa, tx, hW⟩)
  · have hv : r_5v = true := by cases q : r_5v; rw [q] at c_7; exact absurd c_7 (by decide); rfl
    rw [hv] at hW hO
    refine lv_iconst (v := nI 0) hx hb dX4_firstOf_14 (by decide) ?_
    refine lv_goto (tgt := 33) hx hb dX4_firstOf_15 (by decide) ?_
    exact q_i hx hb hr hlocks dX4_firstOf_33 hS (Nat.le_refl _) (Nat.le_refl _) (Or.inl ⟨hr_5v.mp hv, rfl, ra, pa, tx, hW⟩)

abbrev rmX4_lastOf : Room := { frames := 3, cells := 0, slots := 0, locals := 66 }
theorem mX4_lastOf {l : Launch} {G : Cx} {A : Nat → Prop} {am xa : Nat} {X : Nat → List Nat} {P : List (List Nat)} {k : Int32} {x y th : Int32} : Met l yX4_lastOf (.code yX4_lastOf cX4_lastOf 3 (some .int) :: GW) rmX4_lastOf (PC G A [.ref am, .int x, .int y] (MW G A am xa X P k th)) (qI A (fun r H => ((NT x ∨ NT y) ∧ r = 0 ∧ MW G A am xa X P k 1 H) ∨ ∃ i j : Nat, i < 4 ∧ x = nI i ∧ j < 4 ∧ y = nI j ∧ lstR (fun k9 => stL false (X i) (X j) k9) r ∧ MW G A am xa X P k 0 H)) 0 0 (A) := by
  refine mstart "SigntextModel" (by decide +kernel) rfl (Nat.le_of_ble_eq_true rfl) ?_
  intro p e s m below meth c ls hx hb hr hts hown hml hlocks hname hC hA hW hl
  have hl : lv_has ls 3 [(0, .ref am), (1, .int x), (2, .int y)] := hl
  have hK := hC.1
  have hS : va_S A s.heap s.heap [] := va_S.rf
  obtain ⟨ra, pa, tx, hW⟩ := hW
  have hO := hW.obj
  have hAm := hW.1
  refine lv_aload_n hx hb dX4_lastOf_0 rfl (lv_at hl 0 rfl) ?_
  refine lv_aload_n hx hb dX4_lastOf_1 rfl (lv_at hl 0 rfl) ?_
  refine lv_iload_n hx hb dX4_lastOf_2 rfl (lv_at hl 1 rfl) ?_
  refine lv_iload_n hx hb dX4_lastOf_3 rfl (lv_at hl 2 rfl) ?_
  refine kV_i (A := A) (b := am) (As := [.int x, .int y]) (rest := .ref am :: []) ⟨hx, hb, hml, hown, hts⟩ (mX4_areNone (A := A) (xa := xa) (X := X) (P := P) (k := k)) (cwV 2 hts (gV tw_6_204 tw_6_206 sel_X4_areNone tw_1_8 tw_6_207) rfl rfl rfl (by decide +kernel) ⟨Nat.le_of_ble_eq_true rfl, Nat.le_of_ble_eq_true rfl⟩) hC hS hA (hW.recv hK) ⟨ra, pa, tx, hW⟩ rfl rfl hl.1 (Nat.le_of_ble_eq_true rfl) ⟨Nat.zero_le _, Nat.zero_le _⟩ dX4_lastOf_4 (fun r_9 hr_9 => ?_)
  obtain ⟨r_9v, hr_9v, rfl⟩ := hr_9
  refine lv_iconst (v := nI 1) hx hb dX4_lastOf_7 (by decide) ?_
  refine qI_V (A := A) (A1 := A) (b := am) (As := [.int (bI r_9v), .int (nI 1)]) (rest := []) ⟨hx, hb, hml, hown, hts⟩ (mX4_start (A := A) (b := r_9v) (w9 := 1) (by decide)) (cwV 2 hts (gV tw_4_206 tw_4_208 sel_X4_start tw_1_8 tw_4_209) rfl rfl rfl (by decide +kernel) ⟨Nat.le_of_ble_eq_true rfl, Nat.le_of_ble_eq_true rfl⟩) hC hS (fun _ h => h) (fun q h => hA q (Nat.le_trans hS.1 h)) (hW.recv hK) ⟨ra, pa, tx, hW⟩ rfl rfl hl.1 (Nat.le_of_ble_eq_true rfl) ⟨Nat.zero_le _, Nat.zero_le _⟩ dX4_lastOf_8 (fun rv10 H10 L10 hP10 hk10 hS => ?_)
  have hZ10 := hS.1
  obtain ⟨hr10, hM10⟩ := hP10
  subst hr10
  obtain ⟨ra, pa, tx, hW⟩ := hM10
  have hO := hW.obj
  have hAm := hW.1
  refine f_eq (tgt := 18) hx hb dX4_lastOf_11 (by decide) (fun c_11 => ?_) (fun c_11 => ?_)
  · have hv : r_9v = false := by cases q : r_9v; rfl; rw [q] at c_11; exact absurd c_11 (by decide)
    rw [hv] at hW hO
    have hno : ¬ (NT x ∨ NT y) := fun q => absurd (hr_9v.mpr q) (by rw [hv]; decide)
    obtain ⟨i, hi, rfl⟩ : ∃ i : Nat, i < 4 ∧ x = nI i := Classical.byContradiction (fun q => hno (Or.inl q))
    obtain ⟨j, hj, rfl⟩ : ∃ j : Nat, j < 4 ∧ y = nI j := Classical.byContradiction (fun q => hno (Or.inr q))
    have hO := hW.obj
    have hAm := hW.1
    refine lv_aload_n hx hb dX4_lastOf_18 rfl (lv_at hl 0 rfl) ?_
    refine va_get (D := G.1) (ci := 8) (C := RX4) (T := TX4) (N := 5) hx hb hts inX4 hown hK (at_P hO) 0 rfl rfl 1 (by decide) (hts _ tw_4_173) (fun _ h9 => h9) rfl dX4_lastOf_19 ?_
    refine lv_iload_n hx hb dX4_lastOf_22 rfl (lv_at hl 1 rfl) ?_
    refine h_aaldI (D := G.1) hx hb hK 4 hW.txs rfl (vp_in_nI (n := i) (N := 4) (by omega) (by omega)) dX4_lastOf_23 ?_
    refine v_cv (show va_rf _ = .ref (tx i) from by rw [nI_clamp (n := i) (by omega)]; rfl) ?_
    have hTi := (hW.tx (j := i) (by omega)).ia hC.2.1.2
    have x60i := hW.2.2.1 i (Or.inl (by omega))
    refine lv_aload_n hx hb dX4_lastOf_24 rfl (lv_at hl 0 rfl) ?_
    refine va_get (D := G.1) (ci := 8) (C := RX4) (T := TX4) (N := 5) hx hb hts inX4 hown hK (at_P hO) 0 rfl rfl 1 (by decide) (hts _ tw_4_173) (fun _ h9 => h9) rfl dX4_lastOf_25 ?_
    refine lv_iload_n hx hb dX4_lastOf_28 rfl (lv_at hl 2 rfl) ?_
    refine h_aaldI (D := G.1) hx hb hK 4 hW.txs rfl (vp_in_nI (n := j) (N := 4) (by omega) (by omega)) dX4_lastOf_29 ?_
    refine v_cv (show va_rf _ = .ref (tx j) from by rw [nI_clamp (n := j) (by omega)]; rfl) ?_
    have hTj := (hW.tx (j := j) (by omega)).ia hC.2.1.2
    have x60j := hW.2.2.1 j (Or.inl (by omega))
    refine kS_i (A := A) (As := [.ref (tx i), .ref (tx j)]) (rest := []) ⟨hx, hb, hml, hown, hts⟩ (mX4_last (A := A) (t := X i) (u := X j) x60i.1 x60j.1 (by omega) (by omega)) (va_cwS 2 hts (gS tw_6_185 tw_6_186 tw_1_8 tw_6_187) rfl rfl rfl (by decide +kernel) ⟨Nat.le_of_ble_eq_true rfl, Nat.le_of_ble_eq_true rfl⟩) hC hS hA  ⟨hTi, hTj⟩ rfl rfl hl.1 (Nat.le_of_ble_eq_true rfl) ⟨Nat.zero_le _, Nat.zero_le _⟩ dX4_lastOf_30 (fun r_12 hr_12 => ?_)
    have h7 : lstR (fun k9 => stL false (X i) (X j) k9) r_12 := hr_12
    exact q_i hx hb hr hlocks dX4_lastOf_33 hS (Nat.le_refl _) (Nat.le_refl _) (Or.inr ⟨i, j, hi, rfl, hj, rfl, h7, ra, pa, tx, hW⟩)
  · have hv : r_9v = true := by cases q : r_9v; rw [q] at c_11; exact absurd c_11 (by decide); rfl
    rw [hv] at hW hO
    refine lv_iconst (v := nI 0) hx hb dX4_lastOf_14 (by decide) ?_
    refine lv_goto (tgt := 33) hx hb dX4_lastOf_15 (by decide) ?_
    exact q_i hx hb hr hlocks dX4_lastOf_33 hS (Nat.le_refl _) (Nat.le_refl _) (Or.inl ⟨hr_9v.mp hv, rfl, ra, pa, tx, hW⟩)

abbrev rmX4_isSame_ : Room := { frames := 3, cells := 0, slots := 0, locals := 66 }
theorem mX4_isSame_ {l : Launch} {G : Cx} {A : Nat → Prop} {am xa : Nat} {X : Nat → List Nat} {P : List (List Nat)} {k : Int32} {x y th : Int32} {b : Bool} : Met l yX4_isSame_ (.code yX4_isSame_ cX4_isSame_ 4 (some .boolean) :: GW) rmX4_isSame_ (PC G A [.ref am, .int x, .int y, .int (bI b)] (MW G A am xa X P k th)) (qI A (fun r H => ((NT x ∨ NT y) ∧ r = 0 ∧ MW G A am xa X P k 1 H) ∨ ∃ i j : Nat, i < 4 ∧ x = nI i ∧ j < 4 ∧ y = nI j ∧ (∃ z9 : Bool, (z9 = true ↔ (X i).length = (X j).length ∧ stL b (X i) (X j) 0) ∧ r = bI z9) ∧ MW G A am xa X P k 0 H)) 0 0 (A) := by
  refine mstart "SigntextModel" (by decide +kernel) rfl (Nat.le_of_ble_eq_true rfl) ?_
  intro p e s m below meth c ls hx hb hr hts hown hml hlocks hname hC hA hW hl
  have hl : lv_has ls 4 [(0, .ref am), (1, .int x), (2, .int y), (3, .int (bI b))] := hl
  have hK := hC.1
  have hS : va_S A s.heap s.heap [] := va_S.rf
  obtain ⟨ra, pa, tx, hW⟩ := hW
  have hO := hW.obj
  have hAm := hW.1
  refine lv_aload_n hx hb dX4_isSame__0 rfl (lv_at hl 0 rfl) ?_
  refine lv_aload_n hx hb dX4_isSame__1 rfl (lv_at hl 0 rfl) ?_
  refine lv_iload_n hx hb dX4_isSame__2 rfl (lv_at hl 1 rfl) ?_
  refine lv_iload_n hx hb dX4_isSame__3 rfl (lv_at hl 2 rfl) ?_
  refine kV_i (A := A) (b := am) (As := [.int x, .int y]) (rest := .ref am :: []) ⟨hx, hb, hml, hown, hts⟩ (mX4_areNone (A := A) (xa := xa) (X := X) (P := P) (k := k)) (cwV 2 hts (gV tw_6_204 tw_6_206 sel_X4_areNone tw_1_8 tw_6_207) rfl rfl rfl (by decide +kernel) ⟨Nat.le_of_ble_eq_true rfl, Nat.le_of_ble_eq_true rfl⟩) hC hS hA (hW.recv hK) ⟨ra, pa, tx, hW⟩ rfl rfl hl.1 (Nat.le_of_ble_eq_true rfl) ⟨Nat.zero_le _, Nat.zero_le _⟩ dX4_isSame__4 (fun r_13 hr_13 => ?_)
  obtain ⟨r_13v, hr_13v, rfl⟩ := hr_13
  refine lv_iconst (v := nI 1) hx hb dX4_isSame__7 (by decide) ?_
  refine qI_V (A := A) (A1 := A) (b := am) (As := [.int (bI r_13v), .int (nI 1)]) (rest := []) ⟨hx, hb, hml, hown, hts⟩ (mX4_start (A := A) (b := r_13v) (w9 := 1) (by decide)) (cwV 2 hts (gV tw_4_206 tw_4_208 sel_X4_start tw_1_8 tw_4_209) rfl rfl rfl (by decide +kernel) ⟨Nat.le_of_ble_eq_true rfl, Nat.le_of_ble_eq_true rfl⟩) hC hS (fun _ h => h) (fun q h => hA q (Nat.le_trans hS.1 h)) (hW.recv hK) ⟨ra, pa, tx, hW⟩ rfl rfl hl.1 (Nat.le_of_ble_eq_true rfl) ⟨Nat.zero_le _, Nat.zero_le _⟩ dX4_isSame__8 (fun rv14 H14 L14 hP14 hk14 hS => ?_)
  have hZ14 := hS.1
  obtain ⟨hr14, hM14⟩ := hP14
  subst hr14
  obtain ⟨ra, pa, tx, hW⟩ := hM14
  have hO := hW.obj
  have hAm := hW.1
  refine f_ne (tgt := 37) hx hb dX4_isSame__11 (by decide) (fun c_15 => ?_) (fun c_15 => ?_)
  · have hv : r_13v = true := by cases q : r_13v; rw [q] at c_15; exact absurd c_15 (by decide); rfl
    rw [hv] at hW hO
    refine lv_iconst (v := nI 0) hx hb dX4_isSame__37 (by decide) ?_
    exact q_z (b9 := false) hx hb hr hlocks dX4_isSame__38 hS (Nat.le_refl _) (Nat.le_refl _) (Or.inl ⟨hr_13v.mp hv, rfl, ra, pa, tx, hW⟩)
  · have hv : r_13v = false := by cases q : r_13v; rfl; rw [q] at c_15; exact absurd c_15 (by decide)
    rw [hv] at hW hO
    have hno : ¬ (NT x ∨ NT y) := fun q => absurd (hr_13v.mpr q) (by rw [hv]; decide)
    obtain ⟨i, hi, rfl⟩ : ∃ i : Nat, i < 4 ∧ x = nI i := Classical.byContradiction (fun q => hno (Or.inl q))
    obtain ⟨j, hj, rfl⟩ : ∃ j : Nat, j < 4 ∧ y = nI j := Classical.byContradiction (fun q => hno (Or.inr q))
    have hO := hW.obj
    have hAm := hW.1
    refine lv_aload_n hx hb dX4_isSame__14 rfl (lv_at hl 0 rfl) ?_
    refine va_get (D := G.1) (ci := 8) (C := RX4) (T := TX4) (N := 5) hx hb hts inX4 hown hK (at_P hO) 0 rfl rfl 1 (by decide) (hts _ tw_4_173) (fun _ h9 => h9) rfl dX4_isSame__15 ?_
    refine lv_iload_n hx hb dX4_isSame__18 rfl (lv_at hl 1 rfl) ?_
    refine h_aaldI (D := G.1) hx hb hK 4 hW.txs rfl (vp_in_nI (n := i) (N := 4) (by omega) (by omega)) dX4_isSame__19 ?_
    refine v_cv (show va_rf _ = .ref (tx i) from by rw [nI_clamp (n := i) (by omega)]; rfl) ?_
    have hTi := (hW.tx (j := i) (by omega)).ia hC.2.1.2
    have x60i := hW.2.2.1 i (Or.inl (by omega))
    refine lv_aload_n hx hb dX4_isSame__20 rfl (lv_at hl 0 rfl) ?_
    refine va_get (D := G.1) (ci := 8) (C := RX4) (T := TX4) (N := 5) hx hb hts inX4 hown hK (at_P hO) 0 rfl rfl 1 (by decide) (hts _ tw_4_173) (fun _ h9 => h9) rfl dX4_isSame__21 ?_
    refine lv_iload_n hx hb dX4_isSame__24 rfl (lv_at hl 2 rfl) ?_
    refine h_aaldI (D := G.1) hx hb hK 4 hW.txs rfl (vp_in_nI (n := j) (N := 4) (by omega) (by omega)) dX4_isSame__25 ?_
    refine v_cv (show va_rf _ = .ref (tx j) from by rw [nI_clamp (n := j) (by omega)]; rfl) ?_
    have hTj := (hW.tx (j := j) (by omega)).ia hC.2.1.2
    have x60j := hW.2.2.1 j (Or.inl (by omega))
    refine lv_iload_n hx hb dX4_isSame__26 rfl (lv_at hl 3 rfl) ?_
    refine kS_i (A := A) (As := [.ref (tx i), .ref (tx j), .int (bI b)]) (rest := []) ⟨hx, hb, hml, hown, hts⟩ (mX4_isSame (A := A) (t := X i) (u := X j) (b0 := b) x60i.1 x60j.1 (by omega) (by omega)) (va_cwS 3 hts (gS tw_6_220 tw_6_221 tw_1_8 tw_6_222) rfl rfl rfl (by decide +kernel) ⟨Nat.le_of_ble_eq_true rfl, Nat.le_of_ble_eq_true rfl⟩) hC hS hA  ⟨hTi, hTj⟩ rfl rfl hl.1 (Nat.le_of_ble_eq_true rfl) ⟨Nat.zero_le _, Nat.zero_le _⟩ dX4_isSame__27 (fun r_16 hr_16 => ?_)
    obtain ⟨z9, hz9, rfl⟩ := hr_16
    refine f_eq (tgt := 37) hx hb dX4_isSame__30 (by decide) (fun c_17 => ?_) (fun c_17 => ?_)
    · refine lv_iconst (v := nI 0) hx hb dX4_isSame__37 (by decide) ?_
      exact q_z (b9 := false) hx hb hr hlocks dX4_isSame__38 hS (Nat.le_refl _) (Nat.le_refl _) (Or.inr ⟨i, j, hi, rfl, hj, rfl, ⟨z9, hz9, by rw [c_17]⟩, ra, pa, tx, hW⟩)
    · refine lv_iconst (v := nI 1) hx hb dX4_isSame__33 (by decide) ?_
      refine lv_goto (tgt := 38) hx hb dX4_isSame__34 (by decide) ?_
      exact q_z (b9 := true) hx hb hr hlocks dX4_isSame__38 hS (Nat.le_refl _) (Nat.le_refl _) (Or.inr ⟨i, j, hi, rfl, hj, rfl, ⟨z9, hz9, by rw [c_17]⟩, ra, pa, tx, hW⟩)

abbrev rmX4_order_ : Room := { frames := 3, cells := 0, slots := 0, locals := 64 }
theorem mX4_order_ {l : Launch} {G : Cx} {A : Nat → Prop} {am xa : Nat} {X : Nat → List Nat} {P : List (List Nat)} {k : Int32} {x y th : Int32} : Met l yX4_order_ (.code yX4_order_ cX4_order_ 3 (some .int) :: GW) rmX4_order_ (PC G A [.ref am, .int x, .int y] (MW G A am xa X P k th)) (qI A (fun r H => ((NT x ∨ NT y) ∧ r = 0 ∧ MW G A am xa X P k 1 H) ∨ ∃ i j : Nat, i < 4 ∧ x = nI i ∧ j < 4 ∧ y = nI j ∧ ordR false (X i) (X j) r ∧ MW G A am xa X P k 0 H)) 0 0 (A) := by
  refine mstart "SigntextModel" (by decide +kernel) rfl (Nat.le_of_ble_eq_true rfl) ?_
  intro p e s m below meth c ls hx hb hr hts hown hml hlocks hname hC hA hW hl
  have hl : lv_has ls 3 [(0, .ref am), (1, .int x), (2, .int y)] := hl
  have hK := hC.1
  have hS : va_S A s.heap s.heap [] := va_S.rf
  obtain ⟨ra, pa, tx, hW⟩ := hW
  have hO := hW.obj
  have hAm := hW.1
  refine lv_aload_n hx hb dX4_order__0 rfl (lv_at hl 0 rfl) ?_
  refine lv_aload_n hx hb dX4_order__1 rfl (lv_at hl 0 rfl) ?_
  refine lv_iload_n hx hb dX4_order__2 rfl (lv_at hl 1 rfl) ?_
  refine lv_iload_n hx hb dX4_order__3 rfl (lv_at hl 2 rfl) ?_
  refine kV_i (A := A) (b := am) (As := [.int x, .int y]) (rest := .ref am :: []) ⟨hx, hb, hml, hown, hts⟩ (mX4_areNone (A := A) (xa := xa) (X := X) (P := P) (k := k)) (cwV 2 hts (gV tw_6_204 tw_6_206 sel_X4_areNone tw_1_8 tw_6_207) rfl rfl rfl (by decide +kernel) ⟨Nat.le_of_ble_eq_true rfl, Nat.le_of_ble_eq_true rfl⟩) hC hS hA (hW.recv hK) ⟨ra, pa, tx, hW⟩ rfl rfl hl.1 (Nat.le_of_ble_eq_true rfl) ⟨Nat.zero_le _, Nat.zero_le _⟩ dX4_order__4 (fun r_18 hr_18 => ?_)
  obtain ⟨r_18v, hr_18v, rfl⟩ := hr_18
  refine lv_iconst (v := nI 1) hx hb dX4_order__7 (by decide) ?_
  refine qI_V (A := A) (A1 := A) (b := am) (As := [.int (bI r_18v), .int (nI 1)]) (rest := []) ⟨hx, hb, hml, hown, hts⟩ (mX4_start (A := A) (b := r_18v) (w9 := 1) (by decide)) (cwV 2 hts (gV tw_4_206 tw_4_208 sel_X4_start tw_1_8 tw_4_209) rfl rfl rfl (by decide +kernel) ⟨Nat.le_of_ble_eq_true rfl, Nat.le_of_ble_eq_true rfl⟩) hC hS (fun _ h => h) (fun q h => hA q (Nat.le_trans hS.1 h)) (hW.recv hK) ⟨ra, pa, tx, hW⟩ rfl rfl hl.1 (Nat.le_of_ble_eq_true rfl) ⟨Nat.zero_le _, Nat.zero_le _⟩ dX4_order__8 (fun rv19 H19 L19 hP19 hk19 hS => ?_)
  have hZ19 := hS.1
  obtain ⟨hr19, hM19⟩ := hP19
  subst hr19
  obtain ⟨ra, pa, tx, hW⟩ := hM19
  have hO := hW.obj
  have hAm := hW.1
  refine f_eq (tgt := 18) hx hb dX4_order__11 (by decide) (fun c_20 => ?_) (fun c_20 => ?_)
  · have hv : r_18v = false := by cases q : r_18v; rfl; rw [q] at c_20; exact absurd c_20 (by decide)
    rw [hv] at hW hO
    have hno : ¬ (NT x ∨ NT y) := fun q => absurd (hr_18v.mpr q) (by rw [hv]; decide)
    obtain ⟨i, hi, rfl⟩ : ∃ i : Nat, i < 4 ∧ x = nI i := Classical.byContradiction (fun q => hno (Or.inl q))
    obtain ⟨j, hj, rfl⟩ : ∃ j : Nat, j < 4 ∧ y = nI j := Classical.byContradiction (fun q => hno (Or.inr q))
    have hO := hW.obj
    have hAm := hW.1
    refine lv_aload_n hx hb dX4_order__18 rfl (lv_at hl 0 rfl) ?_
    refine va_get (D := G.1) (ci := 8) (C := RX4) (T := TX4) (N := 5) hx hb hts inX4 hown hK (at_P hO) 0 rfl rfl 1 (by decide) (hts _ tw_4_173) (fun _ h9 => h9) rfl dX4_order__19 ?_
    refine lv_iload_n hx hb dX4_order__22 rfl (lv_at hl 1 rfl) ?_
    refine h_aaldI (D := G.1) hx hb hK 4 hW.txs rfl (vp_in_nI (n := i) (N := 4) (by omega) (by omega)) dX4_order__23 ?_
    refine v_cv (show va_rf _ = .ref (tx i) from by rw [nI_clamp (n := i) (by omega)]; rfl) ?_
    have hTi := (hW.tx (j := i) (by omega)).ia hC.2.1.2
    have x60i := hW.2.2.1 i (Or.inl (by omega))
    refine lv_aload_n hx hb dX4_order__24 rfl (lv_at hl 0 rfl) ?_
    refine va_get (D := G.1) (ci := 8) (C := RX4) (T := TX4) (N := 5) hx hb hts inX4 hown hK (at_P hO) 0 rfl rfl 1 (by decide) (hts _ tw_4_173) (fun _ h9 => h9) rfl dX4_order__25 ?_
    refine lv_iload_n hx hb dX4_order__28 rfl (lv_at hl 2 rfl) ?_
    refine h_aaldI (D := G.1) hx hb hK 4 hW.txs rfl (vp_in_nI (n := j) (N := 4) (by omega) (by omega)) dX4_order__29 ?_
    refine v_cv (show va_rf _ = .ref (tx j) from by rw [nI_clamp (n := j) (by omega)]; rfl) ?_
    have hTj := (hW.tx (j := j) (by omega)).ia hC.2.1.2
    have x60j := hW.2.2.1 j (Or.inl (by omega))
    refine lv_iconst (v := nI 0) hx hb dX4_order__30 (by decide) ?_
    refine kS_i (A := A) (As := [.ref (tx i), .ref (tx j), .int (bI false)]) (rest := []) ⟨hx, hb, hml, hown, hts⟩ (mX4_order (A := A) (t := X i) (u := X j) (b0 := false) x60i.1 x60j.1 (by omega) (by omega)) (va_cwS 3 hts (gS tw_6_227 tw_6_228 tw_1_8 tw_6_229) rfl rfl rfl (by decide +kernel) ⟨Nat.le_of_ble_eq_true rfl, Nat.le_of_ble_eq_true rfl⟩) hC hS hA  ⟨hTi, hTj⟩ rfl rfl hl.1 (Nat.le_of_ble_eq_true rfl) ⟨Nat.zero_le _, Nat.zero_le _⟩ dX4_order__31 (fun r_21 hr_21 => ?_)
    obtain ⟨o9, h7, rfl⟩ := hr_21
    exact q_i hx hb hr hlocks dX4_order__34 hS (Nat.le_refl _) (Nat.le_refl _) (Or.inr ⟨i, j, hi, rfl, hj, rfl, h7, ra, pa, tx, hW⟩)
  · have hv : r_18v = true := by cases q : r_18v; rw [q] at c_20; exact absurd c_20 (by decide); rfl
    rw [hv] at hW hO
    refine lv_iconst (v := nI 0) hx hb dX4_order__14 (by decide) ?_
    refine lv_goto (tgt := 34) hx hb dX4_order__15 (by decide) ?_
    exact q_i hx hb hr hlocks dX4_order__34 hS (Nat.le_refl _) (Nat.le_refl _) (Or.inl ⟨hr_18v.mp hv, rfl, ra, pa, tx, hW⟩)

abbrev rmX4_orderLike : Room := { frames := 3, cells := 0, slots := 0, locals := 64 }
theorem mX4_orderLike {l : Launch} {G : Cx} {A : Nat → Prop} {am xa : Nat} {X : Nat → List Nat} {P : List (List Nat)} {k : Int32} {x y th : Int32} : Met l yX4_orderLike (.code yX4_orderLike cX4_orderLike 3 (some .int) :: GW) rmX4_orderLike (PC G A [.ref am, .int x, .int y] (MW G A am xa X P k th)) (qI A (fun r H => ((NT x ∨ NT y) ∧ r = 0 ∧ MW G A am xa X P k 1 H) ∨ ∃ i j : Nat, i < 4 ∧ x = nI i ∧ j < 4 ∧ y = nI j ∧ (∃ o9, ordR true (X i) (X j) o9 ∧ r = sgI o9) ∧ MW G A am xa X P k 0 H)) 0 0 (A) := by
  refine mstart "SigntextModel" (by decide +kernel) rfl (Nat.le_of_ble_eq_true rfl) ?_
  intro p e s m below meth c ls hx hb hr hts hown hml hlocks hname hC hA hW hl
  have hl : lv_has ls 3 [(0, .ref am), (1, .int x), (2, .int y)] := hl
  have hK := hC.1
  have hS : va_S A s.heap s.heap [] := va_S.rf
  obtain ⟨ra, pa, tx, hW⟩ := hW
  have hO := hW.obj
  have hAm := hW.1
  refine lv_aload_n hx hb dX4_orderLike_0 rfl (lv_at hl 0 rfl) ?_
  refine lv_aload_n hx hb dX4_orderLike_1 rfl (lv_at hl 0 rfl) ?_
  refine lv_iload_n hx hb dX4_orderLike_2 rfl (lv_at hl 1 rfl) ?_
  refine lv_iload_n hx hb dX4_orderLike_3 rfl (lv_at hl 2 rfl) ?_
  refine kV_i (A := A) (b := am) (As := [.int x, .int y]) (rest := .ref am :: []) ⟨hx, hb, hml, hown, hts⟩ (mX4_areNone (A := A) (xa := xa) (X := X) (P := P) (k := k)) (cwV 2 hts (gV tw_6_204 tw_6_206 sel_X4_areNone tw_1_8 tw_6_207) rfl rfl rfl (by decide +kernel) ⟨Nat.le_of_ble_eq_true rfl, Nat.le_of_ble_eq_true rfl⟩) hC hS hA (hW.recv hK) ⟨ra, pa, tx, hW⟩ rfl rfl hl.1 (Nat.le_of_ble_eq_true rfl) ⟨Nat.zero_le _, Nat.zero_le _⟩ dX4_orderLike_4 (fun r_22 hr_22 => ?_)
  obtain ⟨r_22v, hr_22v, rfl⟩ := hr_22
  refine lv_iconst (v := nI 1) hx hb dX4_orderLike_7 (by decide) ?_
  refine qI_V (A := A) (A1 := A) (b := am) (As := [.int (bI r_22v), .int (nI 1)]) (rest := []) ⟨hx, hb, hml, hown, hts⟩ (mX4_start (A := A) (b := r_22v) (w9 := 1) (by decide)) (cwV 2 hts (gV tw_4_206 tw_4_208 sel_X4_start tw_1_8 tw_4_209) rfl rfl rfl (by decide +kernel) ⟨Nat.le_of_ble_eq_true rfl, Nat.le_of_ble_eq_true rfl⟩) hC hS (fun _ h => h) (fun q h => hA q (Nat.le_trans hS.1 h)) (hW.recv hK) ⟨ra, pa, tx, hW⟩ rfl rfl hl.1 (Nat.le_of_ble_eq_true rfl) ⟨Nat.zero_le _, Nat.zero_le _⟩ dX4_orderLike_8 (fun rv23 H23 L23 hP23 hk23 hS => ?_)
  have hZ23 := hS.1
  obtain ⟨hr23, hM23⟩ := hP23
  subst hr23
  obtain ⟨ra, pa, tx, hW⟩ := hM23
  have hO := hW.obj
  have hAm := hW.1
  refine f_eq (tgt := 18) hx hb dX4_orderLike_11 (by decide) (fun c_24 => ?_) (fun c_24 => ?_)
  · have hv : r_22v = false := by cases q : r_22v; rfl; rw [q] at c_24; exact absurd c_24 (by decide)
    rw [hv] at hW hO
    have hno : ¬ (NT x ∨ NT y) := fun q => absurd (hr_22v.mpr q) (by rw [hv]; decide)
    obtain ⟨i, hi, rfl⟩ : ∃ i : Nat, i < 4 ∧ x = nI i := Classical.byContradiction (fun q => hno (Or.inl q))
    obtain ⟨j, hj, rfl⟩ : ∃ j : Nat, j < 4 ∧ y = nI j := Classical.byContradiction (fun q => hno (Or.inr q))
    have hO := hW.obj
    have hAm := hW.1
    refine lv_aload_n hx hb dX4_orderLike_18 rfl (lv_at hl 0 rfl) ?_
    refine va_get (D := G.1) (ci := 8) (C := RX4) (T := TX4) (N := 5) hx hb hts inX4 hown hK (at_P hO) 0 rfl rfl 1 (by decide) (hts _ tw_4_173) (fun _ h9 => h9) rfl dX4_orderLike_19 ?_
    refine lv_iload_n hx hb dX4_orderLike_22 rfl (lv_at hl 1 rfl) ?_
    refine h_aaldI (D := G.1) hx hb hK 4 hW.txs rfl (vp_in_nI (n := i) (N := 4) (by omega) (by omega)) dX4_orderLike_23 ?_
    refine v_cv (show va_rf _ = .ref (tx i) from by rw [nI_clamp (n := i) (by omega)]; rfl) ?_
    have hTi := (hW.tx (j := i) (by omega)).ia hC.2.1.2
    have x60i := hW.2.2.1 i (Or.inl (by omega))
    refine lv_aload_n hx hb dX4_orderLike_24 rfl (lv_at hl 0 rfl) ?_
    refine va_get (D := G.1) (ci := 8) (C := RX4) (T := TX4) (N := 5) hx hb hts inX4 hown hK (at_P hO) 0 rfl rfl 1 (by decide) (hts _ tw_4_173) (fun _ h9 => h9) rfl dX4_orderLike_25 ?_
    refine lv_iload_n hx hb dX4_orderLike_28 rfl (lv_at hl 2 rfl) ?_
    refine h_aaldI (D := G.1) hx hb hK 4 hW.txs rfl (vp_in_nI (n := j) (N := 4) (by omega) (by omega)) dX4_orderLike_29 ?_
    refine v_cv (show va_rf _ = .ref (tx j) from by rw [nI_clamp (n := j) (by omega)]; rfl) ?_
    have hTj := (hW.tx (j := j) (by omega)).ia hC.2.1.2
    have x60j := hW.2.2.1 j (Or.inl (by omega))
    refine lv_iconst (v := nI 1) hx hb dX4_orderLike_30 (by decide) ?_
    refine kS_i (A := A) (As := [.ref (tx i), .ref (tx j), .int (bI true)]) (rest := []) ⟨hx, hb, hml, hown, hts⟩ (mX4_order (A := A) (t := X i) (u := X j) (b0 := true) x60i.1 x60j.1 (by omega) (by omega)) (va_cwS 3 hts (gS tw_6_227 tw_6_228 tw_1_8 tw_6_229) rfl rfl rfl (by decide +kernel) ⟨Nat.le_of_ble_eq_true rfl, Nat.le_of_ble_eq_true rfl⟩) hC hS hA  ⟨hTi, hTj⟩ rfl rfl hl.1 (Nat.le_of_ble_eq_true rfl) ⟨Nat.zero_le _, Nat.zero_le _⟩ dX4_orderLike_31 (fun r_25 hr_25 => ?_)
    obtain ⟨o9, h7, rfl⟩ := hr_25
    exact q_i hx hb hr hlocks dX4_orderLike_34 hS (Nat.le_refl _) (Nat.le_refl _) (Or.inr ⟨i, j, hi, rfl, hj, rfl, ⟨o9, h7, rfl⟩, ra, pa, tx, hW⟩)
  · have hv : r_22v = true := by cases q : r_22v; rw [q] at c_24; exact absurd c_24 (by decide); rfl
    rw [hv] at hW hO
    refine lv_iconst (v := nI 0) hx hb dX4_orderLike_14 (by decide) ?_
    refine lv_goto (tgt := 34) hx hb dX4_orderLike_15 (by decide) ?_
    exact q_i hx hb hr hlocks dX4_orderLike_34 hS (Nat.le_refl _) (Nat.le_refl _) (Or.inl ⟨hr_22v.mp hv, rfl, ra, pa, tx, hW⟩)
