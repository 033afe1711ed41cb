/-! The model, 5: calls that change -/
theorem dX4_become_0 : decode cX4_become 0 = .ok (.aload_n 0, 1) := by decide +kernel
theorem dX4_become_1 : decode cX4_become 1 = .ok (.getfield 72, 3) := by decide +kernel
theorem dX4_become_4 : decode cX4_become 4 = .ok (.iload_n 1, 1) := by decide +kernel
theorem dX4_become_5 : decode cX4_become 5 = .ok (.aload_n 2, 1) := by decide +kernel
theorem dX4_become_6 : decode cX4_become 6 = .ok (.aastore, 1) := by decide +kernel
theorem dX4_become_7 : decode cX4_become 7 = .ok (.aload_n 2, 1) := by decide +kernel
theorem dX4_become_8 : decode cX4_become 8 = .ok (.arraylength, 1) := by decide +kernel
theorem dX4_become_9 : decode cX4_become 9 = .ok (.ireturn, 1) := by decide +kernel
theorem dX4_clear_0 : decode cX4_clear 0 = .ok (.aload_n 0, 1) := by decide +kernel
theorem dX4_clear_1 : decode cX4_clear 1 = .ok (.iload_n 1, 1) := by decide +kernel
theorem dX4_clear_2 : decode cX4_clear 2 = .ok (.invokestatic 107, 3) := by decide +kernel
theorem dX4_clear_5 : decode cX4_clear 5 = .ok (.iconst 1, 1) := by decide +kernel
theorem dX4_clear_6 : decode cX4_clear 6 = .ok (.invokevirtual 110, 3) := by decide +kernel
theorem dX4_clear_9 : decode cX4_clear 9 = .ok (.ifCond .eq 5, 3) := by decide +kernel
theorem dX4_clear_12 : decode cX4_clear 12 = .ok (.iconst 0, 1) := by decide +kernel
theorem dX4_clear_13 : decode cX4_clear 13 = .ok (.ireturn, 1) := by decide +kernel
theorem dX4_clear_14 : decode cX4_clear 14 = .ok (.aload_n 0, 1) := by decide +kernel
theorem dX4_clear_15 : decode cX4_clear 15 = .ok (.getfield 72, 3) := by decide +kernel
theorem dX4_clear_18 : decode cX4_clear 18 = .ok (.iload_n 1, 1) := by decide +kernel
theorem dX4_clear_19 : decode cX4_clear 19 = .ok (.aaload, 1) := by decide +kernel
theorem dX4_clear_20 : decode cX4_clear 20 = .ok (.arraylength, 1) := by decide +kernel
theorem dX4_clear_21 : decode cX4_clear 21 = .ok (.istore_n 2, 1) := by decide +kernel
theorem dX4_clear_22 : decode cX4_clear 22 = .ok (.aload_n 0, 1) := by decide +kernel
theorem dX4_clear_23 : decode cX4_clear 23 = .ok (.iload_n 1, 1) := by decide +kernel
theorem dX4_clear_24 : decode cX4_clear 24 = .ok (.iconst 0, 1) := by decide +kernel
theorem dX4_clear_25 : decode cX4_clear 25 = .ok (.newarray .int, 2) := by decide +kernel
theorem dX4_clear_27 : decode cX4_clear 27 = .ok (.invokevirtual 113, 3) := by decide +kernel
theorem dX4_clear_30 : decode cX4_clear 30 = .ok (.pop, 1) := by decide +kernel
theorem dX4_clear_31 : decode cX4_clear 31 = .ok (.iload_n 2, 1) := by decide +kernel
theorem dX4_clear_32 : decode cX4_clear 32 = .ok (.ireturn, 1) := by decide +kernel
abbrev rmX4_become : Room := { frames := 1, cells := 0, slots := 0, locals := 20 }
theorem mX4_become {l : Launch} {G : Cx} {A : Nat → Prop} {am xa : Nat} {X : Nat → List Nat} {P : List (List Nat)} {k : Int32} {j r : Nat} {t : List Nat} {th : Int32} (hj : j < 4) (ht : okc t ∧ t.length ≤ 60) : Met l yX4_become (.code yX4_become cX4_become 3 (some .int) :: GW) rmX4_become (PC G A [.ref am, .int (nI j), .ref r] (fun H => ∃ ra pa tx, MWx G A am xa ra pa tx X P k th H ∧ IA0 G r t H ∧ r ≠ ra)) (qI A (fun v H => v = nI t.length ∧ MW G A am xa (updT X j t) P k th H)) 0 0 (A) := by
  refine mstart "SigntextModel" (by decide +kernel) rfl (Nat.le_of_ble_eq_true rfl) ?_
  intro p e s m below meth c ls hx hb hr hts hown hml hlocks hname hC hA hW hl
  have hl : lv_has ls 3 [(0, .ref am), (1, .int (nI j)), (2, .ref r)] := hl
  have hK := hC.1
  have hS : va_S A s.heap s.heap [] := va_S.rf
  obtain ⟨ra, pa, tx, hW, hR, hne⟩ := hW
  have hO := hW.obj
  have hAm := hW.1
  refine lv_aload_n hx hb dX4_become_0 rfl (lv_at hl 0 rfl) ?_
  refine va_get (D := G.1) (ci := 8) (C := RX4) (T := TX4) (N := 5) hx hb hts inX4 hown hK (at_P hO) 0 rfl rfl 1 (by decide) (hts _ tw_4_173) (fun _ h9 => h9) rfl dX4_become_1 ?_
  refine lv_iload_n hx hb dX4_become_4 rfl (lv_at hl 1 rfl) ?_
  refine lv_aload_n hx hb dX4_become_5 rfl (lv_at hl 2 rfl) ?_
  refine h_aastI (D := G.1) hx hb hW.txs (kII hC) (kI0 hC) hR.cell hS hW.2.1 (vp_in_nI (n := j) (N := 4) (by omega) (by omega)) dX4_become_6 (fun H9 L9 hX9 z9 o9 hS => ?_)
  rw [nI_clamp (n := j) (by omega)] at hX9
  have hrx : r ≠ xa := by obtain ⟨f9, q1, -⟩ := hR; exact at_ne_aa hK q1 hW.txs 0 4 rfl rfl (by decide)
  have hW := hW.put hK hj hX9 o9 hR hne ht
  have hR := (hR.o o9 hrx).ia hC.2.1.2
  refine lv_aload_n hx hb dX4_become_7 rfl (lv_at hl 2 rfl) ?_
  refine h_ilen hx hb hC.2.1 hR dX4_become_8 ?_
  exact q_i hx hb hr hlocks dX4_become_9 hS (Nat.le_refl _) (Nat.le_refl _) ⟨rfl, ra, pa, _, hW⟩

abbrev rmX4_clear : Room := { frames := 3, cells := 1, slots := 61, locals := 64 }
theorem mX4_clear {l : Launch} {G : Cx} {A : Nat → Prop} {am xa : Nat} {X : Nat → List Nat} {P : List (List Nat)} {k : Int32} {x th : Int32} : Met l yX4_clear (.code yX4_clear cX4_clear 3 (some .int) :: GW) rmX4_clear (PC G A [.ref am, .int x] (MW G A am xa X P k th)) (qI A (fun r H => (NT x ∧ r = 0 ∧ MW G A am xa X P k 1 H) ∨ ∃ i : Nat, i < 4 ∧ x = nI i ∧ r = nI (X i).length ∧ MW G A am xa (updT X i []) P k 0 H)) 1 61 (A) := by
  refine mstart "SigntextModel" (by decide +kernel) rfl (Nat.le_of_ble_eq_true rfl) ?_
  intro p e s m below meth c ls hx hb hr hts hown hml hlocks hname hC hA hW hl
  have hl : lv_has ls 3 [(0, .ref am), (1, .int x)] := hl
  have hK := hC.1
  have hS : va_S A s.heap s.heap [] := va_S.rf
  obtain ⟨ra, pa, tx, hW⟩ := hW
  have hO := hW.obj
  have hAm := hW.1
  refine lv_aload_n hx hb dX4_clear_0 rfl (lv_at hl 0 rfl) ?_
  refine lv_iload_n hx hb dX4_clear_1 rfl (lv_at hl 1 rfl) ?_
  refine kS_i (A := A) (As := [.int x]) (rest := .ref am :: []) ⟨hx, hb, hml, hown, hts⟩ (mX4_isNone (A := A) ) (va_cwS 1 hts (gS tw_4_203 tw_4_204 tw_1_8 tw_4_205) rfl rfl rfl (by decide +kernel) ⟨Nat.le_of_ble_eq_true rfl, Nat.le_of_ble_eq_true rfl⟩) hC hS hA  trivial rfl rfl hl.1 (Nat.le_of_ble_eq_true rfl) ⟨Nat.zero_le _, Nat.zero_le _⟩ dX4_clear_2 (fun r_1 hr_1 => ?_)
  obtain ⟨r_1v, hr_1v, rfl⟩ := hr_1
  refine lv_iconst (v := nI 1) hx hb dX4_clear_5 (by decide) ?_
  refine qI_V (A := A) (A1 := A) (b := am) (As := [.int (bI r_1v), .int (nI 1)]) (rest := []) ⟨hx, hb, hml, hown, hts⟩ (mX4_start (A := A) (b := r_1v) (w9 := 1) (by decide)) (cwV 2 hts (gV tw_4_206 tw_4_208 sel_X4_start tw_1_8 tw_4_209) rfl rfl rfl (by decide +kernel) ⟨Nat.le_of_ble_eq_true rfl, Nat.le_of_ble_eq_true rfl⟩) hC hS (fun _ h => h) (fun q h => hA q (Nat.le_trans hS.1 h)) (hW.recv hK) ⟨ra, pa, tx, hW⟩ rfl rfl hl.1 (Nat.le_of_ble_eq_true rfl) ⟨Nat.zero_le _, Nat.zero_le _⟩ dX4_clear_6 (fun rv2 H2 L2 hP2 hk2 hS => ?_)
  have hZ2 := hS.1
  obtain ⟨hr2, hM2⟩ := hP2
  subst hr2
  obtain ⟨ra, pa, tx, hW⟩ := hM2
  have hO := hW.obj
  have hAm := hW.1
  refine f_eq (tgt := 14) hx hb dX4_clear_9 (by decide) (fun c_3 => ?_) (fun c_3 => ?_)
  · have hv : r_1v = false := by cases q : r_1v; rfl; rw [q] at c_3; exact absurd c_3 (by decide)
    rw [hv] at hW hO
    obtain ⟨i, hi, rfl⟩ : ∃ i : Nat, i < 4 ∧ x = nI i := Classical.byContradiction (fun q => absurd (hr_1v.mpr q) (by rw [hv]; decide))
    have hO := hW.obj
    have hAm := hW.1
    refine lv_aload_n hx hb dX4_clear_14 rfl (lv_at hl 0 rfl) ?_
    refine va_get (D := G.1) (ci := 8) (C := RX4) (T := TX4) (N := 5) hx hb hts inX4 hown hK (at_P hO) 0 rfl rfl 1 (by decide) (hts _ tw_4_173) (fun _ h9 => h9) rfl dX4_clear_15 ?_
    refine lv_iload_n hx hb dX4_clear_18 rfl (lv_at hl 1 rfl) ?_
    refine h_aaldI (D := G.1) hx hb hK 4 hW.txs rfl (vp_in_nI (n := i) (N := 4) (by omega) (by omega)) dX4_clear_19 ?_
    refine v_cv (show va_rf _ = .ref (tx i) from by rw [nI_clamp (n := i) (by omega)]; rfl) ?_
    have hTi := (hW.tx (j := i) (by omega)).ia hC.2.1.2
    have x60i := hW.2.2.1 i (Or.inl (by omega))
    refine h_ilen hx hb hC.2.1 hTi dX4_clear_20 ?_
    refine lv_istore_n (lv' := [(2, .int (nI ((X i).length))), (0, .ref am), (1, .int (nI i))]) hx hb dX4_clear_21 rfl hl (by decide) rfl (fun ls hl => ?_)
    refine lv_aload_n hx hb dX4_clear_22 rfl (lv_at hl 1 rfl) ?_
    refine lv_iload_n hx hb dX4_clear_23 rfl (lv_at hl 2 rfl) ?_
    refine lv_iconst (v := nI 0) hx hb dX4_clear_24 (by decide) ?_
    refine h_newa (D := G.1) (atype := .int) (N := 0) (z := (0, .inl (fun _ => 0))) hx hb (hts _ tw_1_70) rfl (fun h => h) hK 0 rfl hS rfl (nI_pos (by omega)) (nI_clamp (by omega)) (show 0 * _ ≤ _ from by show 0 * 4 ≤ 536870912; omega) (Nat.le_trans (show 0 + 1 ≤ 1 by omega) (Nat.le_of_ble_eq_true rfl)) (Nat.le_trans (show 0 + 0 ≤ 61 by omega) (Nat.le_of_ble_eq_true rfl)) dX4_clear_25 (fun na H4 hna hFna z4 o4 hS => ?_)
    have hZ4 := hS.1
    have hMna : A na := hA na (by omega)
    have hra := hW.row.lt
    have hW := hW.n o4
    have hR : IA0 G na [] H4 := IA0.mk hFna rfl (fun j hj => absurd hj (Nat.not_lt_zero j))
    refine qI_V (A := A) (A1 := A) (b := am) (As := [.int (nI i), .ref na]) (rest := []) ⟨hx, hb, hml, hown, hts⟩ (mX4_become (A := A) (X := X) (P := P) (k := k) (xa := xa) (t := []) hi ⟨okc_nil, Nat.zero_le _⟩) (cwV 2 hts (gV tw_4_214 tw_4_216 sel_X4_become tw_1_8 tw_4_217) rfl rfl rfl (by decide +kernel) ⟨Nat.le_of_ble_eq_true rfl, Nat.le_of_ble_eq_true rfl⟩) hC hS (fun _ h => h) (fun q h => hA q (Nat.le_trans hS.1 h)) (hW.recv hK) ⟨ra, pa, tx, hW, hR, by omega⟩ rfl rfl hl.1 (Nat.le_of_ble_eq_true rfl) ⟨Nat.le_trans (show (0 + 1) ≤ 1 by omega) (Nat.le_of_ble_eq_true rfl), Nat.le_trans (show (0 + 0) ≤ 61 by omega) (Nat.le_of_ble_eq_true rfl)⟩ dX4_clear_27 (fun rv5 H5 L5 hP5 hk5 hS => ?_)
    have hZ5 := hS.1
    refine lv_pop hx hb dX4_clear_30 rfl ?_
    refine lv_iload_n hx hb dX4_clear_31 rfl (lv_at hl 0 rfl) ?_
    exact q_i hx hb hr hlocks dX4_clear_32 hS (by omega) (by omega) (Or.inr ⟨i, hi, rfl, rfl, hP5.2⟩)
  · have hv : r_1v = true := by cases q : r_1v; rw [q] at c_3; exact absurd c_3 (by decide); rfl
    rw [hv] at hW
    refine lv_iconst (v := nI 0) hx hb dX4_clear_12 (by decide) ?_
    exact q_i hx hb hr hlocks dX4_clear_13 hS (by omega) (by omega) (Or.inl ⟨hr_1v.mp hv, rfl, ra, pa, tx, hW⟩)
