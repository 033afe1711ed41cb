/-! The model, 9: what is asked of one text -/
theorem dX4_isEmpty_0 : decode cX4_isEmpty 0 = .ok (.aload_n 0, 1) := by decide +kernel
theorem dX4_isEmpty_1 : decode cX4_isEmpty 1 = .ok (.iload_n 1, 1) := by decide +kernel
theorem dX4_isEmpty_2 : decode cX4_isEmpty 2 = .ok (.invokestatic 107, 3) := by decide +kernel
theorem dX4_isEmpty_5 : decode cX4_isEmpty 5 = .ok (.iconst 1, 1) := by decide +kernel
theorem dX4_isEmpty_6 : decode cX4_isEmpty 6 = .ok (.invokevirtual 110, 3) := by decide +kernel
theorem dX4_isEmpty_9 : decode cX4_isEmpty 9 = .ok (.ifCond .ne 17, 3) := by decide +kernel
theorem dX4_isEmpty_12 : decode cX4_isEmpty 12 = .ok (.aload_n 0, 1) := by decide +kernel
theorem dX4_isEmpty_13 : decode cX4_isEmpty 13 = .ok (.getfield 72, 3) := by decide +kernel
theorem dX4_isEmpty_16 : decode cX4_isEmpty 16 = .ok (.iload_n 1, 1) := by decide +kernel
theorem dX4_isEmpty_17 : decode cX4_isEmpty 17 = .ok (.aaload, 1) := by decide +kernel
theorem dX4_isEmpty_18 : decode cX4_isEmpty 18 = .ok (.arraylength, 1) := by decide +kernel
theorem dX4_isEmpty_19 : decode cX4_isEmpty 19 = .ok (.ifCond .ne 7, 3) := by decide +kernel
theorem dX4_isEmpty_22 : decode cX4_isEmpty 22 = .ok (.iconst 1, 1) := by decide +kernel
theorem dX4_isEmpty_23 : decode cX4_isEmpty 23 = .ok (.goto 4, 3) := by decide +kernel
theorem dX4_isEmpty_26 : decode cX4_isEmpty 26 = .ok (.iconst 0, 1) := by decide +kernel
theorem dX4_isEmpty_27 : decode cX4_isEmpty 27 = .ok (.ireturn, 1) := by decide +kernel
theorem dX4_hash__0 : decode cX4_hash_ 0 = .ok (.aload_n 0, 1) := by decide +kernel
theorem dX4_hash__1 : decode cX4_hash_ 1 = .ok (.iload_n 1, 1) := by decide +kernel
theorem dX4_hash__2 : decode cX4_hash_ 2 = .ok (.invokestatic 107, 3) := by decide +kernel
theorem dX4_hash__5 : decode cX4_hash_ 5 = .ok (.iconst 1, 1) := by decide +kernel
theorem dX4_hash__6 : decode cX4_hash_ 6 = .ok (.invokevirtual 110, 3) := by decide +kernel
theorem dX4_hash__9 : decode cX4_hash_ 9 = .ok (.ifCond .eq 7, 3) := by decide +kernel
theorem dX4_hash__12 : decode cX4_hash_ 12 = .ok (.iconst 0, 1) := by decide +kernel
theorem dX4_hash__13 : decode cX4_hash_ 13 = .ok (.goto 12, 3) := by decide +kernel
theorem dX4_hash__16 : decode cX4_hash_ 16 = .ok (.aload_n 0, 1) := by decide +kernel
theorem dX4_hash__17 : decode cX4_hash_ 17 = .ok (.getfield 72, 3) := by decide +kernel
theorem dX4_hash__20 : decode cX4_hash_ 20 = .ok (.iload_n 1, 1) := by decide +kernel
theorem dX4_hash__21 : decode cX4_hash_ 21 = .ok (.aaload, 1) := by decide +kernel
theorem dX4_hash__22 : decode cX4_hash_ 22 = .ok (.invokestatic 156, 3) := by decide +kernel
theorem dX4_hash__25 : decode cX4_hash_ 25 = .ok (.ireturn, 1) := by decide +kernel
abbrev rmX4_hash_ : Room := { frames := 3, cells := 0, slots := 0, locals := 64 }
theorem mX4_hash_ {l : Launch} {G : Cx} {A : Nat → Prop} {am xa : Nat} {X : Nat → List Nat} {P : List (List Nat)} {k : Int32} {x th : Int32} : Met l yX4_hash_ (.code yX4_hash_ cX4_hash_ 2 (some .int) :: GW) rmX4_hash_ (PC G A [.ref am, .int x] (MW G A am xa X P k th)) (qI A (fun r H => (NT x ∧ r = 0 ∧ MW G A am xa X P k 1 H) ∨ ∃ i : Nat, i < 4 ∧ x = nI i ∧ r = hashL (X i) ∧ MW G A am xa X P k 0 H)) 0 0 (A) := by
  refine mstart "SigntextModel" (by decide +kernel) rfl (Nat.le_of_ble_eq_true rfl) ?_
  intro p e s m below meth c ls hx hb hr hts hown hml hlocks hname hC hA hW hl
  have hl : lv_has ls 2 [(0, .ref am), (1, .int x)] := hl
  have hK := hC.1
  have hS : va_S A s.heap s.heap [] := va_S.rf
  obtain ⟨ra, pa, tx, hW⟩ := hW
  have hO := hW.obj
  have hAm := hW.1
  refine lv_aload_n hx hb dX4_hash__0 rfl (lv_at hl 0 rfl) ?_
  refine lv_iload_n hx hb dX4_hash__1 rfl (lv_at hl 1 rfl) ?_
  refine kS_i (A := A) (As := [.int x]) (rest := .ref am :: []) ⟨hx, hb, hml, hown, hts⟩ (mX4_isNone (A := A) ) (va_cwS 1 hts (gS tw_4_203 tw_4_204 tw_1_8 tw_4_205) rfl rfl rfl (by decide +kernel) ⟨Nat.le_of_ble_eq_true rfl, Nat.le_of_ble_eq_true rfl⟩) hC hS hA  trivial rfl rfl hl.1 (Nat.le_of_ble_eq_true rfl) ⟨Nat.zero_le _, Nat.zero_le _⟩ dX4_hash__2 (fun r_1 hr_1 => ?_)
  obtain ⟨r_1v, hr_1v, rfl⟩ := hr_1
  refine lv_iconst (v := nI 1) hx hb dX4_hash__5 (by decide) ?_
  refine qI_V (A := A) (A1 := A) (b := am) (As := [.int (bI r_1v), .int (nI 1)]) (rest := []) ⟨hx, hb, hml, hown, hts⟩ (mX4_start (A := A) (b := r_1v) (w9 := 1) (by decide)) (cwV 2 hts (gV tw_4_206 tw_4_208 sel_X4_start tw_1_8 tw_4_209) rfl rfl rfl (by decide +kernel) ⟨Nat.le_of_ble_eq_true rfl, Nat.le_of_ble_eq_true rfl⟩) hC hS (fun _ h => h) (fun q h => hA q (Nat.le_trans hS.1 h)) (hW.recv hK) ⟨ra, pa, tx, hW⟩ rfl rfl hl.1 (Nat.le_of_ble_eq_true rfl) ⟨Nat.zero_le _, Nat.zero_le _⟩ dX4_hash__6 (fun rv2 H2 L2 hP2 hk2 hS => ?_)
  have hZ2 := hS.1
  obtain ⟨hr2, hM2⟩ := hP2
  subst hr2
  obtain ⟨ra, pa, tx, hW⟩ := hM2
  have hO := hW.obj
  have hAm := hW.1
  refine f_eq (tgt := 16) hx hb dX4_hash__9 (by decide) (fun c_3 => ?_) (fun c_3 => ?_)
  · have hv : r_1v = false := by cases q : r_1v; rfl; rw [q] at c_3; exact absurd c_3 (by decide)
    rw [hv] at hW hO
    obtain ⟨i, hi, rfl⟩ : ∃ i : Nat, i < 4 ∧ x = nI i := Classical.byContradiction (fun q => absurd (hr_1v.mpr q) (by rw [hv]; decide))
    have hO := hW.obj
    have hAm := hW.1
    refine lv_aload_n hx hb dX4_hash__16 rfl (lv_at hl 0 rfl) ?_
    refine va_get (D := G.1) (ci := 8) (C := RX4) (T := TX4) (N := 5) hx hb hts inX4 hown hK (at_P hO) 0 rfl rfl 1 (by decide) (hts _ tw_4_173) (fun _ h9 => h9) rfl dX4_hash__17 ?_
    refine lv_iload_n hx hb dX4_hash__20 rfl (lv_at hl 1 rfl) ?_
    refine h_aaldI (D := G.1) hx hb hK 4 hW.txs rfl (vp_in_nI (n := i) (N := 4) (by omega) (by omega)) dX4_hash__21 ?_
    refine v_cv (show va_rf _ = .ref (tx i) from by rw [nI_clamp (n := i) (by omega)]; rfl) ?_
    have hTi := (hW.tx (j := i) (by omega)).ia hC.2.1.2
    have x60i := hW.2.2.1 i (Or.inl (by omega))
    refine kS_i (A := A) (As := [.ref (tx i)]) (rest := []) ⟨hx, hb, hml, hown, hts⟩ (mX4_hash (A := A) (t := X i) (by omega)) (va_cwS 1 hts (gS tw_6_165 tw_6_166 tw_1_8 tw_6_167) rfl rfl rfl (by decide +kernel) ⟨Nat.le_of_ble_eq_true rfl, Nat.le_of_ble_eq_true rfl⟩) hC hS hA  hTi rfl rfl hl.1 (Nat.le_of_ble_eq_true rfl) ⟨Nat.zero_le _, Nat.zero_le _⟩ dX4_hash__22 (fun r9 h9 => lv_cv h9 ?_)
    exact q_i hx hb hr hlocks dX4_hash__25 hS (Nat.le_refl _) (Nat.le_refl _) (Or.inr ⟨i, hi, rfl, rfl, ra, pa, tx, hW⟩)
  · have hv : r_1v = true := by cases q : r_1v; rw [q] at c_3; exact absurd c_3 (by decide); rfl
    rw [hv] at hW hO
    refine lv_iconst (v := nI 0) hx hb dX4_hash__12 (by decide) ?_
    refine lv_goto (tgt := 25) hx hb dX4_hash__13 (by decide) ?_
    exact q_i hx hb hr hlocks dX4_hash__25 hS (Nat.le_refl _) (Nat.le_refl _) (Or.inl ⟨hr_1v.mp hv, rfl, ra, pa, tx, hW⟩)

abbrev rmX4_isEmpty : Room := { frames := 3, cells := 0, slots := 0, locals := 64 }
theorem mX4_isEmpty {l : Launch} {G : Cx} {A : Nat → Prop} {am xa : Nat} {X : Nat → List Nat} {P : List (List Nat)} {k : Int32} {x th : Int32} : Met l yX4_isEmpty (.code yX4_isEmpty cX4_isEmpty 2 (some .boolean) :: GW) rmX4_isEmpty (PC G A [.ref am, .int x] (MW G A am xa X P k th)) (qI A (fun r H => (NT x ∧ r = 0 ∧ MW G A am xa X P k 1 H) ∨ ∃ i : Nat, i < 4 ∧ x = nI i ∧ r = bI (decide ((X i).length = 0)) ∧ MW G A am xa X P k 0 H)) 0 0 (A) := by
  refine mstart "SigntextModel" (by decide +kernel) rfl (Nat.le_of_ble_eq_true rfl) ?_
  intro p e s m below meth c ls hx hb hr hts hown hml hlocks hname hC hA hW hl
  have hl : lv_has ls 2 [(0, .ref am), (1, .int x)] := hl
  have hK := hC.1
  have hS : va_S A s.heap s.heap [] := va_S.rf
  obtain ⟨ra, pa, tx, hW⟩ := hW
  have hO := hW.obj
  have hAm := hW.1
  refine lv_aload_n hx hb dX4_isEmpty_0 rfl (lv_at hl 0 rfl) ?_
  refine lv_iload_n hx hb dX4_isEmpty_1 rfl (lv_at hl 1 rfl) ?_
  refine kS_i (A := A) (As := [.int x]) (rest := .ref am :: []) ⟨hx, hb, hml, hown, hts⟩ (mX4_isNone (A := A) ) (va_cwS 1 hts (gS tw_4_203 tw_4_204 tw_1_8 tw_4_205) rfl rfl rfl (by decide +kernel) ⟨Nat.le_of_ble_eq_true rfl, Nat.le_of_ble_eq_true rfl⟩) hC hS hA  trivial rfl rfl hl.1 (Nat.le_of_ble_eq_true rfl) ⟨Nat.zero_le _, Nat.zero_le _⟩ dX4_isEmpty_2 (fun r_4 hr_4 => ?_)
  obtain ⟨r_4v, hr_4v, rfl⟩ := hr_4
  refine lv_iconst (v := nI 1) hx hb dX4_isEmpty_5 (by decide) ?_
  refine qI_V (A := A) (A1 := A) (b := am) (As := [.int (bI r_4v), .int (nI 1)]) (rest := []) ⟨hx, hb, hml, hown, hts⟩ (mX4_start (A := A) (b := r_4v) (w9 := 1) (by decide)) (cwV 2 hts (gV tw_4_206 tw_4_208 sel_X4_start tw_1_8 tw_4_209) rfl rfl rfl (by decide +kernel) ⟨Nat.le_of_ble_eq_true rfl, Nat.le_of_ble_eq_true rfl⟩) hC hS (fun _ h => h) (fun q h => hA q (Nat.le_trans hS.1 h)) (hW.recv hK) ⟨ra, pa, tx, hW⟩ rfl rfl hl.1 (Nat.le_of_ble_eq_true rfl) ⟨Nat.zero_le _, Nat.zero_le _⟩ dX4_isEmpty_6 (fun rv5 H5 L5 hP5 hk5 hS => ?_)
  have hZ5 := hS.1
  obtain ⟨hr5, hM5⟩ := hP5
  subst hr5
  obtain ⟨ra, pa, tx, hW⟩ := hM5
  have hO := hW.obj
  have hAm := hW.1
  refine f_ne (tgt := 26) hx hb dX4_isEmpty_9 (by decide) (fun c_6 => ?_) (fun c_6 => ?_)
  · have hv : r_4v = true := by cases q : r_4v; rw [q] at c_6; exact absurd c_6 (by decide); rfl
    rw [hv] at hW hO
    refine lv_iconst (v := nI 0) hx hb dX4_isEmpty_26 (by decide) ?_
    exact q_z (b9 := false) hx hb hr hlocks dX4_isEmpty_27 hS (Nat.le_refl _) (Nat.le_refl _) (Or.inl ⟨hr_4v.mp hv, rfl, ra, pa, tx, hW⟩)
  · have hv : r_4v = false := by cases q : r_4v; rfl; rw [q] at c_6; exact absurd c_6 (by decide)
    rw [hv] at hW hO
    obtain ⟨i, hi, rfl⟩ : ∃ i : Nat, i < 4 ∧ x = nI i := Classical.byContradiction (fun q => absurd (hr_4v.mpr q) (by rw [hv]; decide))
    have hO := hW.obj
    have hAm := hW.1
    refine lv_aload_n hx hb dX4_isEmpty_12 rfl (lv_at hl 0 rfl) ?_
    refine va_get (D := G.1) (ci := 8) (C := RX4) (T := TX4) (N := 5) hx hb hts inX4 hown hK (at_P hO) 0 rfl rfl 1 (by decide) (hts _ tw_4_173) (fun _ h9 => h9) rfl dX4_isEmpty_13 ?_
    refine lv_iload_n hx hb dX4_isEmpty_16 rfl (lv_at hl 1 rfl) ?_
    refine h_aaldI (D := G.1) hx hb hK 4 hW.txs rfl (vp_in_nI (n := i) (N := 4) (by omega) (by omega)) dX4_isEmpty_17 ?_
    refine v_cv (show va_rf _ = .ref (tx i) from by rw [nI_clamp (n := i) (by omega)]; rfl) ?_
    have hTi := (hW.tx (j := i) (by omega)).ia hC.2.1.2
    have x60i := hW.2.2.1 i (Or.inl (by omega))
    refine h_ilen hx hb hC.2.1 hTi dX4_isEmpty_18 ?_
    refine z_ne (tgt := 26) hx hb dX4_isEmpty_19 (by decide) (by omega) (fun c_7 => ?_) (fun c_7 => ?_)
    · refine lv_iconst (v := nI 0) hx hb dX4_isEmpty_26 (by decide) ?_
      exact q_z (b9 := false) hx hb hr hlocks dX4_isEmpty_27 hS (Nat.le_refl _) (Nat.le_refl _) (Or.inr ⟨i, hi, rfl, by rw [decide_eq_false c_7], ra, pa, tx, hW⟩)
    · refine lv_iconst (v := nI 1) hx hb dX4_isEmpty_22 (by decide) ?_
      refine lv_goto (tgt := 27) hx hb dX4_isEmpty_23 (by decide) ?_
      exact q_z (b9 := true) hx hb hr hlocks dX4_isEmpty_27 hS (Nat.le_refl _) (Nat.le_refl _) (Or.inr ⟨i, hi, rfl, by rw [decide_eq_true c_7], ra, pa, tx, hW⟩)
