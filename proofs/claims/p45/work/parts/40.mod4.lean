/-! The model, 4: what is thrown; knock -/
def rfT (b : Bool) (th w9 : Nat) : Nat := if (b && decide (th = 0)) = true then w9 else th
theorem dX4_refuse_0 : decode cX4_refuse 0 = .ok (.iload_n 1, 1) := by decide +kernel
theorem dX4_refuse_1 : decode cX4_refuse 1 = .ok (.ifCond .eq 15, 3) := by decide +kernel
theorem dX4_refuse_4 : decode cX4_refuse 4 = .ok (.aload_n 0, 1) := by decide +kernel
theorem dX4_refuse_5 : decode cX4_refuse 5 = .ok (.getfield 82, 3) := by decide +kernel
theorem dX4_refuse_8 : decode cX4_refuse 8 = .ok (.ifCond .ne 8, 3) := by decide +kernel
theorem dX4_refuse_11 : decode cX4_refuse 11 = .ok (.aload_n 0, 1) := by decide +kernel
theorem dX4_refuse_12 : decode cX4_refuse 12 = .ok (.iload_n 2, 1) := by decide +kernel
theorem dX4_refuse_13 : decode cX4_refuse 13 = .ok (.putfield 82, 3) := by decide +kernel
theorem dX4_refuse_16 : decode cX4_refuse 16 = .ok (.aload_n 0, 1) := by decide +kernel
theorem dX4_refuse_17 : decode cX4_refuse 17 = .ok (.getfield 82, 3) := by decide +kernel
theorem dX4_refuse_20 : decode cX4_refuse 20 = .ok (.ifCond .le 7, 3) := by decide +kernel
theorem dX4_refuse_23 : decode cX4_refuse 23 = .ok (.iconst 1, 1) := by decide +kernel
theorem dX4_refuse_24 : decode cX4_refuse 24 = .ok (.goto 4, 3) := by decide +kernel
theorem dX4_refuse_27 : decode cX4_refuse 27 = .ok (.iconst 0, 1) := by decide +kernel
theorem dX4_refuse_28 : decode cX4_refuse 28 = .ok (.ireturn, 1) := by decide +kernel
theorem dX4_start_0 : decode cX4_start 0 = .ok (.aload_n 0, 1) := by decide +kernel
theorem dX4_start_1 : decode cX4_start 1 = .ok (.iconst 0, 1) := by decide +kernel
theorem dX4_start_2 : decode cX4_start 2 = .ok (.putfield 82, 3) := by decide +kernel
theorem dX4_start_5 : decode cX4_start 5 = .ok (.aload_n 0, 1) := by decide +kernel
theorem dX4_start_6 : decode cX4_start 6 = .ok (.iload_n 1, 1) := by decide +kernel
theorem dX4_start_7 : decode cX4_start 7 = .ok (.iload_n 2, 1) := by decide +kernel
theorem dX4_start_8 : decode cX4_start 8 = .ok (.invokevirtual 86, 3) := by decide +kernel
theorem dX4_start_11 : decode cX4_start 11 = .ok (.ireturn, 1) := by decide +kernel
theorem dX4_knock_0 : decode cX4_knock 0 = .ok (.aload_n 0, 1) := by decide +kernel
theorem dX4_knock_1 : decode cX4_knock 1 = .ok (.iconst 0, 1) := by decide +kernel
theorem dX4_knock_2 : decode cX4_knock 2 = .ok (.putfield 82, 3) := by decide +kernel
theorem dX4_knock_5 : decode cX4_knock 5 = .ok (.aload_n 0, 1) := by decide +kernel
theorem dX4_knock_6 : decode cX4_knock 6 = .ok (.dup, 1) := by decide +kernel
theorem dX4_knock_7 : decode cX4_knock 7 = .ok (.getfield 147, 3) := by decide +kernel
theorem dX4_knock_10 : decode cX4_knock 10 = .ok (.iconst 1, 1) := by decide +kernel
theorem dX4_knock_11 : decode cX4_knock 11 = .ok (.iadd, 1) := by decide +kernel
theorem dX4_knock_12 : decode cX4_knock 12 = .ok (.putfield 147, 3) := by decide +kernel
theorem dX4_knock_15 : decode cX4_knock 15 = .ok (.aload_n 0, 1) := by decide +kernel
theorem dX4_knock_16 : decode cX4_knock 16 = .ok (.getfield 147, 3) := by decide +kernel
theorem dX4_knock_19 : decode cX4_knock 19 = .ok (.ireturn, 1) := by decide +kernel
abbrev rmX4_refuse : Room := { frames := 1, cells := 0, slots := 0, locals := 20 }
theorem mX4_refuse {l : Launch} {G : Cx} {A : Nat → Prop} {am xa : Nat} {X : Nat → List Nat} {P : List (List Nat)} {k : Int32} {b : Bool} {th w9 : Nat} (hth : th < 4) (hw9 : w9 < 4) : Met l yX4_refuse (.code yX4_refuse cX4_refuse 3 (some .boolean) :: GW) rmX4_refuse (PC G A [.ref am, .int (bI b), .int (nI w9)] (MW G A am xa X P k (nI th))) (qI A (fun r H => r = bI (decide (0 < rfT b th w9)) ∧ MW G A am xa X P k (nI (rfT b th w9)) H)) 0 0 (A) := by
  refine mstart "SigntextModel" (by decide +kernel) rfl (Nat.le_of_ble_eq_true rfl) ?_
  intro p e s m below meth c ls hx hb hr hts hown hml hlocks hname hC hA hW hl
  have hl : lv_has ls 3 [(0, .ref am), (1, .int (bI b)), (2, .int (nI w9))] := hl
  have hK := hC.1
  have hS : va_S A s.heap s.heap [] := va_S.rf
  obtain ⟨ra, pa, tx, hW⟩ := hW
  have hO := hW.obj
  have hAm := hW.1
  refine lv_iload_n hx hb dX4_refuse_0 rfl (lv_at hl 1 rfl) ?_
  refine f_eq (tgt := 16) hx hb dX4_refuse_1 (by decide) (fun c_1 => ?_) (fun c_1 => ?_)
  · refine lv_aload_n hx hb dX4_refuse_16 rfl (lv_at hl 0 rfl) ?_
    refine va_get (D := G.1) (ci := 8) (C := RX4) (T := TX4) (N := 5) hx hb hts inX4 hown hK (at_P hO) 0 rfl rfl 0 (by decide) (hts _ tw_4_172) (fun _ h9 => h9) rfl dX4_refuse_17 ?_
    have hrf : rfT b th w9 = th := (by unfold rfT; rw [c_1]; rfl)
    by_cases hz : th = 0
    · refine lv_if_le (tgt := 27) hx hb dX4_refuse_20 (by decide) (fun _ => ?_) (fun q => absurd (by rw [hz]; decide) q)
      refine lv_iconst (v := nI 0) hx hb dX4_refuse_27 (by decide) ?_
      exact q_z (b9 := false) hx hb hr hlocks dX4_refuse_28 hS (Nat.le_refl _) (Nat.le_refl _) ⟨by rw [hrf, hz]; rfl, by rw [hrf]; exact ⟨ra, pa, tx, hW⟩⟩
    · refine lv_if_le (tgt := 27) hx hb dX4_refuse_20 (by decide) (fun q => absurd q (nI_nle (by omega) (by omega))) (fun _ => ?_)
      refine lv_iconst (v := nI 1) hx hb dX4_refuse_23 (by decide) ?_
      refine lv_goto (tgt := 28) hx hb dX4_refuse_24 (by decide) ?_
      exact q_z (b9 := true) hx hb hr hlocks dX4_refuse_28 hS (Nat.le_refl _) (Nat.le_refl _) ⟨by rw [hrf, decide_eq_true (show 0 < th by omega)], by rw [hrf]; exact ⟨ra, pa, tx, hW⟩⟩
  · refine lv_aload_n hx hb dX4_refuse_4 rfl (lv_at hl 0 rfl) ?_
    refine va_get (D := G.1) (ci := 8) (C := RX4) (T := TX4) (N := 5) hx hb hts inX4 hown hK (at_P hO) 0 rfl rfl 0 (by decide) (hts _ tw_4_172) (fun _ h9 => h9) rfl dX4_refuse_5 ?_
    refine z_ne (tgt := 16) hx hb dX4_refuse_8 (by decide) (by omega) (fun c_2 => ?_) (fun c_2 => ?_)
    · refine lv_aload_n hx hb dX4_refuse_16 rfl (lv_at hl 0 rfl) ?_
      refine va_get (D := G.1) (ci := 8) (C := RX4) (T := TX4) (N := 5) hx hb hts inX4 hown hK (at_P hO) 0 rfl rfl 0 (by decide) (hts _ tw_4_172) (fun _ h9 => h9) rfl dX4_refuse_17 ?_
      have hrf : rfT b th w9 = th := (by unfold rfT; rw [c_1, if_neg (by simp; exact c_2)])
      by_cases hz : th = 0
      · refine lv_if_le (tgt := 27) hx hb dX4_refuse_20 (by decide) (fun _ => ?_) (fun q => absurd (by rw [hz]; decide) q)
        refine lv_iconst (v := nI 0) hx hb dX4_refuse_27 (by decide) ?_
        exact q_z (b9 := false) hx hb hr hlocks dX4_refuse_28 hS (Nat.le_refl _) (Nat.le_refl _) ⟨by rw [hrf, hz]; rfl, by rw [hrf]; exact ⟨ra, pa, tx, hW⟩⟩
      · refine lv_if_le (tgt := 27) hx hb dX4_refuse_20 (by decide) (fun q => absurd q (nI_nle (by omega) (by omega))) (fun _ => ?_)
        refine lv_iconst (v := nI 1) hx hb dX4_refuse_23 (by decide) ?_
        refine lv_goto (tgt := 28) hx hb dX4_refuse_24 (by decide) ?_
        exact q_z (b9 := true) hx hb hr hlocks dX4_refuse_28 hS (Nat.le_refl _) (Nat.le_refl _) ⟨by rw [hrf, decide_eq_true (show 0 < th by omega)], by rw [hrf]; exact ⟨ra, pa, tx, hW⟩⟩
    · refine lv_aload_n hx hb dX4_refuse_11 rfl (lv_at hl 0 rfl) ?_
      refine lv_iload_n hx hb dX4_refuse_12 rfl (lv_at hl 2 rfl) ?_
      refine h_put (D := G.1) (ci := 8) (C := RX4) (T := TX4) (N := 5) hx hb hts inX4 tyX4 tyX4_ok nmX4 hown hK hO hS hAm rfl 0 (by decide) (hts _ tw_4_172) (fun _ h9 => h9) rfl (tyX4_ok 0 (by decide)) rfl rfl (Nat.le_of_ble_eq_true rfl) dX4_refuse_13 (fun H3 L3 hO z3 o3 hS => ?_)
      have hO : va_at G.1 vwCl (am, .inr (8, [.int (nI w9), .ref xa, .ref ra, .ref pa, .int k])) H3 := hO
      have hZ3 := hS.1
      have hW := hW.nums hK hO o3
      have hO := hW.obj
      have hAm := hW.1
      refine lv_aload_n hx hb dX4_refuse_16 rfl (lv_at hl 0 rfl) ?_
      refine va_get (D := G.1) (ci := 8) (C := RX4) (T := TX4) (N := 5) hx hb hts inX4 hown hK (at_P hO) 0 rfl rfl 0 (by decide) (hts _ tw_4_172) (fun _ h9 => h9) rfl dX4_refuse_17 ?_
      have hrf : rfT b th w9 = w9 := (by unfold rfT; rw [c_1, c_2]; rfl)
      by_cases hz : w9 = 0
      · refine lv_if_le (tgt := 27) hx hb dX4_refuse_20 (by decide) (fun _ => ?_) (fun q => absurd (by rw [hz]; decide) q)
        refine lv_iconst (v := nI 0) hx hb dX4_refuse_27 (by decide) ?_
        exact q_z (b9 := false) hx hb hr hlocks dX4_refuse_28 hS (Nat.le_refl _) (Nat.le_refl _) ⟨by rw [hrf, hz]; rfl, by rw [hrf]; exact ⟨ra, pa, tx, hW⟩⟩
      · refine lv_if_le (tgt := 27) hx hb dX4_refuse_20 (by decide) (fun q => absurd q (nI_nle (by omega) (by omega))) (fun _ => ?_)
        refine lv_iconst (v := nI 1) hx hb dX4_refuse_23 (by decide) ?_
        refine lv_goto (tgt := 28) hx hb dX4_refuse_24 (by decide) ?_
        exact q_z (b9 := true) hx hb hr hlocks dX4_refuse_28 hS (Nat.le_refl _) (Nat.le_refl _) ⟨by rw [hrf, decide_eq_true (show 0 < w9 by omega)], by rw [hrf]; exact ⟨ra, pa, tx, hW⟩⟩

abbrev rmX4_start : Room := { frames := 2, cells := 0, slots := 0, locals := 42 }
theorem mX4_start {l : Launch} {G : Cx} {A : Nat → Prop} {am xa : Nat} {X : Nat → List Nat} {P : List (List Nat)} {k : Int32} {b : Bool} {th : Int32} {w9 : Nat} (hw9 : w9 < 4) : Met l yX4_start (.code yX4_start cX4_start 3 (some .boolean) :: GW) rmX4_start (PC G A [.ref am, .int (bI b), .int (nI w9)] (MW G A am xa X P k th)) (qI A (fun r H => r = bI (decide (0 < rfT b 0 w9)) ∧ MW G A am xa X P k (nI (rfT b 0 w9)) H)) 0 0 (A) := by
  refine mstart "SigntextModel" (by decide +kernel) rfl (Nat.le_of_ble_eq_true rfl) ?_
  intro p e s m below meth c ls hx hb hr hts hown hml hlocks hname hC hA hW hl
  have hl : lv_has ls 3 [(0, .ref am), (1, .int (bI b)), (2, .int (nI w9))] := hl
  have hK := hC.1
  have hS : va_S A s.heap s.heap [] := va_S.rf
  obtain ⟨ra, pa, tx, hW⟩ := hW
  have hO := hW.obj
  have hAm := hW.1
  refine lv_aload_n hx hb dX4_start_0 rfl (lv_at hl 0 rfl) ?_
  refine lv_iconst (v := nI 0) hx hb dX4_start_1 (by decide) ?_
  refine h_put (D := G.1) (ci := 8) (C := RX4) (T := TX4) (N := 5) hx hb hts inX4 tyX4 tyX4_ok nmX4 hown hK hO hS hAm rfl 0 (by decide) (hts _ tw_4_172) (fun _ h9 => h9) rfl (tyX4_ok 0 (by decide)) rfl rfl (Nat.le_of_ble_eq_true rfl) dX4_start_2 (fun H4 L4 hO z4 o4 hS => ?_)
  have hO : va_at G.1 vwCl (am, .inr (8, [.int (nI 0), .ref xa, .ref ra, .ref pa, .int k])) H4 := hO
  have hZ4 := hS.1
  have hW := hW.nums hK hO o4
  have hO := hW.obj
  have hAm := hW.1
  refine lv_aload_n hx hb dX4_start_5 rfl (lv_at hl 0 rfl) ?_
  refine lv_iload_n hx hb dX4_start_6 rfl (lv_at hl 1 rfl) ?_
  refine lv_iload_n hx hb dX4_start_7 rfl (lv_at hl 2 rfl) ?_
  refine qI_V (A := A) (A1 := A) (b := am) (As := [.int (bI b), .int (nI w9)]) (rest := []) ⟨hx, hb, hml, hown, hts⟩ (mX4_refuse (A := A) (X := X) (P := P) (k := k) (xa := xa) (th := 0) (by decide) hw9) (cwV 2 hts (gV tw_4_210 tw_4_212 sel_X4_refuse tw_1_8 tw_4_213) rfl rfl rfl (by decide +kernel) ⟨Nat.le_of_ble_eq_true rfl, Nat.le_of_ble_eq_true rfl⟩) hC hS (fun _ h => h) (fun q h => hA q (Nat.le_trans hS.1 h)) (hW.recv hK) ⟨ra, pa, tx, hW⟩ rfl rfl hl.1 (Nat.le_of_ble_eq_true rfl) ⟨Nat.zero_le _, Nat.zero_le _⟩ dX4_start_8 (fun rv5 H5 L5 hP5 hk5 hS => ?_)
  have hZ5 := hS.1
  obtain ⟨hr9, hM⟩ := hP5
  subst hr9
  exact q_z (b9 := decide (0 < rfT b 0 w9)) hx hb hr hlocks dX4_start_11 hS (Nat.le_refl _) (Nat.le_refl _) ⟨rfl, hM⟩

abbrev rmX4_knock : Room := { frames := 1, cells := 0, slots := 0, locals := 20 }
theorem mX4_knock {l : Launch} {G : Cx} {A : Nat → Prop} {am xa : Nat} {X : Nat → List Nat} {P : List (List Nat)} {k : Int32} {th : Int32} : Met l yX4_knock (.code yX4_knock cX4_knock 1 (some .int) :: GW) rmX4_knock (PC G A [.ref am] (MW G A am xa X P k th)) (qI A (fun r H => r = k + 1 ∧ MW G A am xa X P (k + 1) 0 H)) 0 0 (A) := by
  refine mstart "SigntextModel" (by decide +kernel) rfl (Nat.le_of_ble_eq_true rfl) ?_
  intro p e s m below meth c ls hx hb hr hts hown hml hlocks hname hC hA hW hl
  have hl : lv_has ls 1 [(0, .ref am)] := hl
  have hK := hC.1
  have hS : va_S A s.heap s.heap [] := va_S.rf
  obtain ⟨ra, pa, tx, hW⟩ := hW
  have hO := hW.obj
  have hAm := hW.1
  refine lv_aload_n hx hb dX4_knock_0 rfl (lv_at hl 0 rfl) ?_
  refine lv_iconst (v := nI 0) hx hb dX4_knock_1 (by decide) ?_
  refine h_put (D := G.1) (ci := 8) (C := RX4) (T := TX4) (N := 5) hx hb hts inX4 tyX4 tyX4_ok nmX4 hown hK hO hS hAm rfl 0 (by decide) (hts _ tw_4_172) (fun _ h9 => h9) rfl (tyX4_ok 0 (by decide)) rfl rfl (Nat.le_of_ble_eq_true rfl) dX4_knock_2 (fun H6 L6 hO z6 o6 hS => ?_)
  have hO : va_at G.1 vwCl (am, .inr (8, [.int (nI 0), .ref xa, .ref ra, .ref pa, .int k])) H6 := hO
  have hZ6 := hS.1
  have hW := hW.nums hK hO o6
  have hO := hW.obj
  have hAm := hW.1
  refine lv_aload_n hx hb dX4_knock_5 rfl (lv_at hl 0 rfl) ?_
  refine lv_dup hx hb dX4_knock_6 rfl ?_
  refine va_get (D := G.1) (ci := 8) (C := RX4) (T := TX4) (N := 5) hx hb hts inX4 hown hK (at_P hO) 0 rfl rfl 4 (by decide) (hts _ tw_4_176) (fun _ h9 => h9) rfl dX4_knock_7 ?_
  refine lv_iconst (v := nI 1) hx hb dX4_knock_10 (by decide) ?_
  refine lv_iadd hx hb dX4_knock_11 ?_
  refine h_put (D := G.1) (ci := 8) (C := RX4) (T := TX4) (N := 5) hx hb hts inX4 tyX4 tyX4_ok nmX4 hown hK hO hS hAm rfl 4 (by decide) (hts _ tw_4_176) (fun _ h9 => h9) rfl (tyX4_ok 4 (by decide)) rfl rfl (Nat.le_of_ble_eq_true rfl) dX4_knock_12 (fun H7 L7 hO z7 o7 hS => ?_)
  have hO : va_at G.1 vwCl (am, .inr (8, [.int 0, .ref xa, .ref ra, .ref pa, .int (k + 1)])) H7 := hO
  have hZ7 := hS.1
  have hW := hW.nums hK hO o7
  have hO := hW.obj
  have hAm := hW.1
  refine lv_aload_n hx hb dX4_knock_15 rfl (lv_at hl 0 rfl) ?_
  refine va_get (D := G.1) (ci := 8) (C := RX4) (T := TX4) (N := 5) hx hb hts inX4 hown hK (at_P hO) 0 rfl rfl 4 (by decide) (hts _ tw_4_176) (fun _ h9 => h9) rfl dX4_knock_16 ?_
  exact q_i hx hb hr hlocks dX4_knock_19 hS (Nat.le_refl _) (Nat.le_refl _) ⟨rfl, ra, pa, tx, hW⟩
