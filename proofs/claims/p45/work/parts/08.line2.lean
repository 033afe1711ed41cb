/-! Line, 2: readers -/
def isTe (b : Bool) (t : List Nat) (e9 : Nat) : Prop := tbL b t ≤ e9 ∧ e9 ≤ t.length ∧ (∀ k : Nat, e9 ≤ k → k < t.length → goesN b (t.getD k 0) = true) ∧ (tbL b t < e9 → goesN b (t.getD (e9 - 1) 0) = false)
theorem isTe.eq {b : Bool} {t : List Nat} {x y : Nat} (h1 : isTe b t x) (h2 : isTe b t y) : x = y := by
  have key : ∀ x y : Nat, isTe b t x → isTe b t y → ¬ x < y := by
    intro x y h1 h2 h
    have h3 := h2.2.2.2 (Nat.lt_of_le_of_lt h1.1 h)
    have h4 := h1.2.2.1 (y - 1) (by omega) (by have := h2.2.1; omega)
    rw [h4] at h3; cases h3
  have := key x y h1 h2
  have := key y x h2 h1
  omega
/-- the first, the last place of P -/
def fstR (P : Nat → Prop) (r : Int32) : Prop := (∃ k, P k ∧ (∀ j, j < k → ¬ P j) ∧ r = nI k) ∨ ((∀ k, ¬ P k) ∧ r = -1)
def lstR (P : Nat → Prop) (r : Int32) : Prop := (∃ k, P k ∧ (∀ j, k < j → ¬ P j) ∧ r = nI k) ∨ ((∀ k, ¬ P k) ∧ r = -1)
theorem fstR.eq {P : Nat → Prop} {x y : Int32} (h1 : fstR P x) (h2 : fstR P y) : x = y := by
  rcases h1 with ⟨k, p1, q1, rfl⟩ | ⟨q1, rfl⟩ <;> rcases h2 with ⟨j, p2, q2, rfl⟩ | ⟨q2, rfl⟩
  · rcases Nat.lt_trichotomy k j with h | h | h
    · exact absurd p1 (q2 _ h)
    · rw [h]
    · exact absurd p2 (q1 _ h)
  · exact absurd p1 (q2 _)
  · exact absurd p2 (q1 _)
  · rfl
theorem lstR.eq {P : Nat → Prop} {x y : Int32} (h1 : lstR P x) (h2 : lstR P y) : x = y := by
  rcases h1 with ⟨k, p1, q1, rfl⟩ | ⟨q1, rfl⟩ <;> rcases h2 with ⟨j, p2, q2, rfl⟩ | ⟨q2, rfl⟩
  · rcases Nat.lt_trichotomy k j with h | h | h
    · exact absurd p2 (q1 _ h)
    · rw [h]
    · exact absurd p1 (q2 _ h)
  · exact absurd p1 (q2 _)
  · exact absurd p2 (q1 _)
  · rfl
theorem m1_eq (j : Nat) : nI j + Int32.ofInt (-1) = nI j - 1 := by rw [Int32.sub_eq_add_neg]; rfl
theorem dX0_isAllWhite_0 : decode cX0_isAllWhite 0 = .ok (.aload_n 0, 1) := by decide +kernel
theorem dX0_isAllWhite_1 : decode cX0_isAllWhite 1 = .ok (.iconst 1, 1) := by decide +kernel
theorem dX0_isAllWhite_2 : decode cX0_isAllWhite 2 = .ok (.invokevirtual 56, 3) := by decide +kernel
theorem dX0_isAllWhite_5 : decode cX0_isAllWhite 5 = .ok (.aload_n 0, 1) := by decide +kernel
theorem dX0_isAllWhite_6 : decode cX0_isAllWhite 6 = .ok (.getfield 15, 3) := by decide +kernel
theorem dX0_isAllWhite_9 : decode cX0_isAllWhite 9 = .ok (.if_icmp .ne 7, 3) := by decide +kernel
theorem dX0_isAllWhite_12 : decode cX0_isAllWhite 12 = .ok (.iconst 1, 1) := by decide +kernel
theorem dX0_isAllWhite_13 : decode cX0_isAllWhite 13 = .ok (.goto 4, 3) := by decide +kernel
theorem dX0_isAllWhite_16 : decode cX0_isAllWhite 16 = .ok (.iconst 0, 1) := by decide +kernel
theorem dX0_isAllWhite_17 : decode cX0_isAllWhite 17 = .ok (.ireturn, 1) := by decide +kernel
theorem dX0_trimmedEnd_0 : decode cX0_trimmedEnd 0 = .ok (.aload_n 0, 1) := by decide +kernel
theorem dX0_trimmedEnd_1 : decode cX0_trimmedEnd 1 = .ok (.iload_n 1, 1) := by decide +kernel
theorem dX0_trimmedEnd_2 : decode cX0_trimmedEnd 2 = .ok (.invokevirtual 56, 3) := by decide +kernel
theorem dX0_trimmedEnd_5 : decode cX0_trimmedEnd 5 = .ok (.istore_n 2, 1) := by decide +kernel
theorem dX0_trimmedEnd_6 : decode cX0_trimmedEnd 6 = .ok (.aload_n 0, 1) := by decide +kernel
theorem dX0_trimmedEnd_7 : decode cX0_trimmedEnd 7 = .ok (.getfield 15, 3) := by decide +kernel
theorem dX0_trimmedEnd_10 : decode cX0_trimmedEnd 10 = .ok (.istore_n 3, 1) := by decide +kernel
theorem dX0_trimmedEnd_11 : decode cX0_trimmedEnd 11 = .ok (.iload_n 3, 1) := by decide +kernel
theorem dX0_trimmedEnd_12 : decode cX0_trimmedEnd 12 = .ok (.iload_n 2, 1) := by decide +kernel
theorem dX0_trimmedEnd_13 : decode cX0_trimmedEnd 13 = .ok (.if_icmp .le 24, 3) := by decide +kernel
theorem dX0_trimmedEnd_16 : decode cX0_trimmedEnd 16 = .ok (.aload_n 0, 1) := by decide +kernel
theorem dX0_trimmedEnd_17 : decode cX0_trimmedEnd 17 = .ok (.getfield 9, 3) := by decide +kernel
theorem dX0_trimmedEnd_20 : decode cX0_trimmedEnd 20 = .ok (.iload_n 3, 1) := by decide +kernel
theorem dX0_trimmedEnd_21 : decode cX0_trimmedEnd 21 = .ok (.iconst 1, 1) := by decide +kernel
theorem dX0_trimmedEnd_22 : decode cX0_trimmedEnd 22 = .ok (.isub, 1) := by decide +kernel
theorem dX0_trimmedEnd_23 : decode cX0_trimmedEnd 23 = .ok (.caload, 1) := by decide +kernel
theorem dX0_trimmedEnd_24 : decode cX0_trimmedEnd 24 = .ok (.iload_n 1, 1) := by decide +kernel
theorem dX0_trimmedEnd_25 : decode cX0_trimmedEnd 25 = .ok (.invokestatic 60, 3) := by decide +kernel
theorem dX0_trimmedEnd_28 : decode cX0_trimmedEnd 28 = .ok (.ifCond .eq 9, 3) := by decide +kernel
theorem dX0_trimmedEnd_31 : decode cX0_trimmedEnd 31 = .ok (.iinc 3 (-1), 3) := by decide +kernel
theorem dX0_trimmedEnd_34 : decode cX0_trimmedEnd 34 = .ok (.goto (-23), 3) := by decide +kernel
theorem dX0_trimmedEnd_37 : decode cX0_trimmedEnd 37 = .ok (.iload_n 3, 1) := by decide +kernel
theorem dX0_trimmedEnd_38 : decode cX0_trimmedEnd 38 = .ok (.ireturn, 1) := by decide +kernel
theorem dX0_firstPlaceOfCode_0 : decode cX0_firstPlaceOfCode 0 = .ok (.iload_n 2, 1) := by decide +kernel
theorem dX0_firstPlaceOfCode_1 : decode cX0_firstPlaceOfCode 1 = .ok (.istore_n 3, 1) := by decide +kernel
theorem dX0_firstPlaceOfCode_2 : decode cX0_firstPlaceOfCode 2 = .ok (.iload_n 3, 1) := by decide +kernel
theorem dX0_firstPlaceOfCode_3 : decode cX0_firstPlaceOfCode 3 = .ok (.aload_n 0, 1) := by decide +kernel
theorem dX0_firstPlaceOfCode_4 : decode cX0_firstPlaceOfCode 4 = .ok (.getfield 15, 3) := by decide +kernel
theorem dX0_firstPlaceOfCode_7 : decode cX0_firstPlaceOfCode 7 = .ok (.if_icmp .ge 20, 3) := by decide +kernel
theorem dX0_firstPlaceOfCode_10 : decode cX0_firstPlaceOfCode 10 = .ok (.aload_n 0, 1) := by decide +kernel
theorem dX0_firstPlaceOfCode_11 : decode cX0_firstPlaceOfCode 11 = .ok (.iload_n 3, 1) := by decide +kernel
theorem dX0_firstPlaceOfCode_12 : decode cX0_firstPlaceOfCode 12 = .ok (.invokevirtual 19, 3) := by decide +kernel
theorem dX0_firstPlaceOfCode_15 : decode cX0_firstPlaceOfCode 15 = .ok (.iload_n 1, 1) := by decide +kernel
theorem dX0_firstPlaceOfCode_16 : decode cX0_firstPlaceOfCode 16 = .ok (.if_icmp .ne 5, 3) := by decide +kernel
theorem dX0_firstPlaceOfCode_19 : decode cX0_firstPlaceOfCode 19 = .ok (.iload_n 3, 1) := by decide +kernel
theorem dX0_firstPlaceOfCode_20 : decode cX0_firstPlaceOfCode 20 = .ok (.ireturn, 1) := by decide +kernel
theorem dX0_firstPlaceOfCode_21 : decode cX0_firstPlaceOfCode 21 = .ok (.iinc 3 1, 3) := by decide +kernel
theorem dX0_firstPlaceOfCode_24 : decode cX0_firstPlaceOfCode 24 = .ok (.goto (-22), 3) := by decide +kernel
theorem dX0_firstPlaceOfCode_27 : decode cX0_firstPlaceOfCode 27 = .ok (.iconst (-1), 1) := by decide +kernel
theorem dX0_firstPlaceOfCode_28 : decode cX0_firstPlaceOfCode 28 = .ok (.ireturn, 1) := by decide +kernel
theorem dX0_lastPlaceOfCode_0 : decode cX0_lastPlaceOfCode 0 = .ok (.aload_n 0, 1) := by decide +kernel
theorem dX0_lastPlaceOfCode_1 : decode cX0_lastPlaceOfCode 1 = .ok (.getfield 15, 3) := by decide +kernel
theorem dX0_lastPlaceOfCode_4 : decode cX0_lastPlaceOfCode 4 = .ok (.iconst 1, 1) := by decide +kernel
theorem dX0_lastPlaceOfCode_5 : decode cX0_lastPlaceOfCode 5 = .ok (.isub, 1) := by decide +kernel
theorem dX0_lastPlaceOfCode_6 : decode cX0_lastPlaceOfCode 6 = .ok (.istore_n 2, 1) := by decide +kernel
theorem dX0_lastPlaceOfCode_7 : decode cX0_lastPlaceOfCode 7 = .ok (.iload_n 2, 1) := by decide +kernel
theorem dX0_lastPlaceOfCode_8 : decode cX0_lastPlaceOfCode 8 = .ok (.ifCond .lt 21, 3) := by decide +kernel
theorem dX0_lastPlaceOfCode_11 : decode cX0_lastPlaceOfCode 11 = .ok (.aload_n 0, 1) := by decide +kernel
theorem dX0_lastPlaceOfCode_12 : decode cX0_lastPlaceOfCode 12 = .ok (.getfield 9, 3) := by decide +kernel
theorem dX0_lastPlaceOfCode_15 : decode cX0_lastPlaceOfCode 15 = .ok (.iload_n 2, 1) := by decide +kernel
theorem dX0_lastPlaceOfCode_16 : decode cX0_lastPlaceOfCode 16 = .ok (.caload, 1) := by decide +kernel
theorem dX0_lastPlaceOfCode_17 : decode cX0_lastPlaceOfCode 17 = .ok (.iload_n 1, 1) := by decide +kernel
theorem dX0_lastPlaceOfCode_18 : decode cX0_lastPlaceOfCode 18 = .ok (.if_icmp .ne 5, 3) := by decide +kernel
theorem dX0_lastPlaceOfCode_21 : decode cX0_lastPlaceOfCode 21 = .ok (.iload_n 2, 1) := by decide +kernel
theorem dX0_lastPlaceOfCode_22 : decode cX0_lastPlaceOfCode 22 = .ok (.ireturn, 1) := by decide +kernel
theorem dX0_lastPlaceOfCode_23 : decode cX0_lastPlaceOfCode 23 = .ok (.iinc 2 (-1), 3) := by decide +kernel
theorem dX0_lastPlaceOfCode_26 : decode cX0_lastPlaceOfCode 26 = .ok (.goto (-19), 3) := by decide +kernel
theorem dX0_lastPlaceOfCode_29 : decode cX0_lastPlaceOfCode 29 = .ok (.iconst (-1), 1) := by decide +kernel
theorem dX0_lastPlaceOfCode_30 : decode cX0_lastPlaceOfCode 30 = .ok (.ireturn, 1) := by decide +kernel
abbrev rmX0_trimmedEnd : Room := { frames := 2, cells := 0, slots := 0, locals := 43 }
theorem mX0_trimmedEnd {l : Launch} {G : Cx} {A : Nat → Prop} {a ca : Nat} {t : List Nat} {b : Bool} : Met l yX0_trimmedEnd (.code yX0_trimmedEnd cX0_trimmedEnd 4 (some .int) :: GW) rmX0_trimmedEnd (PC G A [.ref a, .int (bI b)] (LA G a ca t)) (vp_Si (fun r => ∃ e9, isTe b t e9 ∧ r = nI e9)) 0 0 (fun _ => False) := by
  refine mstart "Signtext$Line" (by decide +kernel) rfl (Nat.le_of_ble_eq_true rfl) ?_
  intro p e s m below meth c ls hx hb hr hts hown hml hlocks hname hC hA hW hl
  have hl : lv_has ls 4 [(0, .ref a), (1, .int (bI b))] := hl
  have hK := hC.1
  have hS : va_S A s.heap s.heap [] := va_S.rf
  have hW0 := hW
  obtain ⟨t60, tok, tne, hO, f, hF, hf⟩ := hW
  refine lv_aload_n hx hb dX0_trimmedEnd_0 rfl (lv_at hl 0 rfl) ?_
  refine lv_iload_n hx hb dX0_trimmedEnd_1 rfl (lv_at hl 1 rfl) ?_
  have tb9 := tbL_le b t
  refine kV_i (A := A) (b := a) (As := [.int (bI b)]) (rest := []) ⟨hx, hb, hml, hown, hts⟩ (mX0_trimmedBegin (A := A) (ca := ca)) (cwV 1 hts (gV tw_2_54 tw_2_44 tw_2_45 tw_1_2 tw_2_46) rfl rfl rfl (by decide +kernel) ⟨Nat.le_of_ble_eq_true rfl, Nat.le_of_ble_eq_true rfl⟩) hC hS hA (hW0.recv hK) hW0 rfl rfl hl.1 (Nat.le_of_ble_eq_true rfl) ⟨Nat.zero_le _, Nat.zero_le _⟩ dX0_trimmedEnd_2 (fun r9 h9 => lv_cv h9 ?_)
  refine lv_istore_n (lv' := [(2, .int (nI (tbL b t))), (0, .ref a), (1, .int (bI b))]) hx hb dX0_trimmedEnd_5 rfl hl (by decide) rfl (fun ls hl => ?_)
  refine lv_aload_n hx hb dX0_trimmedEnd_6 rfl (lv_at hl 1 rfl) ?_
  refine va_get (D := G.1) (ci := 4) (C := RX0) (T := TX0) (N := 2) hx hb hts inX0 hown hK (at_P hO) 0 rfl rfl 1 (by decide) (hts _ tw_1_45) (fun _ h9 => h9) rfl dX0_trimmedEnd_7 ?_
  refine lv_istore_n (lv' := [(3, .int (nI t.length)), (2, .int (nI (tbL b t))), (0, .ref a), (1, .int (bI b))]) hx hb dX0_trimmedEnd_10 rfl hl (by decide) rfl (fun ls hl => ?_)
  refine dloop (P := fun j => ∀ (ls : Array Slot) , lv_has ls 4 [(3, .int (nI j)), (2, .int (nI (tbL b t))), (0, .ref a), (1, .int (bI b))] → j ≤ t.length → tbL b t ≤ j → (∀ k : Nat, j ≤ k → k < t.length → goesN b (t.getD k 0) = true) → W p l e rmX0_trimmedEnd s m [.ref a, .int (bI b)].toArray below meth c s.heap [] 0 0 (MQ below (vp_Si (fun r => ∃ e9, isTe b t e9 ∧ r = nI e9)) [.ref a, .int (bI b)].toArray s 0 0 (fun _ => False)) (F0 m 11 ls [])) ?_ t.length ls  hl (Nat.le_refl _) tb9 (fun k h1 h2 => absurd h2 (by omega))
  clear hl
  intro j ih ls  hl
  intro hj hj2 hg
  refine lv_iload_n hx hb dX0_trimmedEnd_11 rfl (lv_at hl 0 rfl) ?_
  refine lv_iload_n hx hb dX0_trimmedEnd_12 rfl (lv_at hl 1 rfl) ?_
  refine b_le (tgt := 37) hx hb dX0_trimmedEnd_13 (by decide) (by omega) (by omega) (fun c_1 => ?_) (fun c_1 => ?_)
  · refine lv_iload_n hx hb dX0_trimmedEnd_37 rfl (lv_at hl 0 rfl) ?_
    exact p_i hx hb hr hlocks dX0_trimmedEnd_38 ⟨j, ⟨hj2, hj, hg, fun q => absurd q (by omega)⟩, rfl⟩
  · obtain ⟨i, rfl⟩ : ∃ i, j = i + 1 := ⟨j - 1, by omega⟩
    refine lv_aload_n hx hb dX0_trimmedEnd_16 rfl (lv_at hl 2 rfl) ?_
    refine va_get (D := G.1) (ci := 4) (C := RX0) (T := TX0) (N := 2) hx hb hts inX0 hown hK (at_P hO) 0 rfl rfl 0 (by decide) (hts _ tw_1_44) (fun _ h9 => h9) rfl dX0_trimmedEnd_17 ?_
    refine lv_iload_n hx hb dX0_trimmedEnd_20 rfl (lv_at hl 0 rfl) ?_
    refine lv_iconst (v := nI 1) hx hb dX0_trimmedEnd_21 (by decide) ?_
    refine lv_isub hx hb dX0_trimmedEnd_22 ?_
    refine lv_cv (nI_pred i) ?_
    refine va_cald hx hb hK (at_P hF) 0 1 rfl rfl (vp_in_nI (n := i) (N := 60) (by omega) (by omega)) dX0_trimmedEnd_23 ?_
    refine lv_cv (show _ = nI (t.getD i 0) from by rw [nI_clamp (by omega)]; exact hf _ (by omega)) ?_
    refine lv_iload_n hx hb dX0_trimmedEnd_24 rfl (lv_at hl 3 rfl) ?_
    refine kS_i (A := A) (As := [.int (nI (t.getD i 0)), .int (bI b)]) (rest := []) ⟨hx, hb, hml, hown, hts⟩ (mX0_goes (A := A) (tok i)) (va_cwS 2 hts (gS tw_2_47 tw_2_48 tw_1_2 tw_2_49) rfl rfl rfl (by decide +kernel) ⟨Nat.le_of_ble_eq_true rfl, Nat.le_of_ble_eq_true rfl⟩) hC hS hA  trivial rfl rfl hl.1 (Nat.le_of_ble_eq_true rfl) ⟨Nat.zero_le _, Nat.zero_le _⟩ dX0_trimmedEnd_25 (fun r9 h9 => lv_cv h9 ?_)
    refine f_eq (tgt := 37) hx hb dX0_trimmedEnd_28 (by decide) (fun c_2 => ?_) (fun c_2 => ?_)
    · refine lv_iload_n hx hb dX0_trimmedEnd_37 rfl (lv_at hl 0 rfl) ?_
      exact p_i hx hb hr hlocks dX0_trimmedEnd_38 ⟨i + 1, ⟨hj2, hj, hg, fun _ => c_2⟩, rfl⟩
    · refine lv_iinc (v := nI i) (lv' := [(3, .int (nI i)), (2, .int (nI (tbL b t))), (0, .ref a), (1, .int (bI b))]) hx hb dX0_trimmedEnd_31 hl (k := 0) rfl (pk_m1 i) (by decide) rfl (fun ls hl => ?_)
      refine lv_goto (tgt := 11) hx hb dX0_trimmedEnd_34 (by decide) ?_
      exact ih i (Nat.lt_succ_self i) ls hl (by omega) (by omega) (fun k h1 h2 => by rcases Nat.lt_or_ge i k with q | q; exact hg k q h2; rw [show k = i by omega]; exact c_2)

abbrev rmX0_isAllWhite : Room := { frames := 2, cells := 0, slots := 0, locals := 43 }
theorem mX0_isAllWhite {l : Launch} {G : Cx} {A : Nat → Prop} {a ca : Nat} {t : List Nat} : Met l yX0_isAllWhite (.code yX0_isAllWhite cX0_isAllWhite 1 (some .boolean) :: GW) rmX0_isAllWhite (PC G A [.ref a] (LA G a ca t)) (vp_Si (fun r => r = bI (decide (tbL true t = t.length)))) 0 0 (fun _ => False) := by
  refine mstart "Signtext$Line" (by decide +kernel) rfl (Nat.le_of_ble_eq_true rfl) ?_
  intro p e s m below meth c ls hx hb hr hts hown hml hlocks hname hC hA hW hl
  have hl : lv_has ls 1 [(0, .ref a)] := hl
  have hK := hC.1
  have hS : va_S A s.heap s.heap [] := va_S.rf
  have hW0 := hW
  obtain ⟨t60, tok, tne, hO, f, hF, hf⟩ := hW
  refine lv_aload_n hx hb dX0_isAllWhite_0 rfl (lv_at hl 0 rfl) ?_
  refine lv_iconst (v := nI 1) hx hb dX0_isAllWhite_1 (by decide) ?_
  have tb9 := tbL_le true t
  refine kV_i (A := A) (b := a) (As := [.int (bI true)]) (rest := []) ⟨hx, hb, hml, hown, hts⟩ (mX0_trimmedBegin (A := A) (ca := ca) (b := true)) (cwV 1 hts (gV tw_2_54 tw_2_44 tw_2_45 tw_1_2 tw_2_46) rfl rfl rfl (by decide +kernel) ⟨Nat.le_of_ble_eq_true rfl, Nat.le_of_ble_eq_true rfl⟩) hC hS hA (hW0.recv hK) hW0 rfl rfl hl.1 (Nat.le_of_ble_eq_true rfl) ⟨Nat.zero_le _, Nat.zero_le _⟩ dX0_isAllWhite_2 (fun r9 h9 => lv_cv h9 ?_)
  refine lv_aload_n hx hb dX0_isAllWhite_5 rfl (lv_at hl 0 rfl) ?_
  refine va_get (D := G.1) (ci := 4) (C := RX0) (T := TX0) (N := 2) hx hb hts inX0 hown hK (at_P hO) 0 rfl rfl 1 (by decide) (hts _ tw_1_45) (fun _ h9 => h9) rfl dX0_isAllWhite_6 ?_
  refine b_ne (tgt := 16) hx hb dX0_isAllWhite_9 (by decide) (by omega) (by omega) (fun c_3 => ?_) (fun c_3 => ?_)
  · refine lv_iconst (v := nI 0) hx hb dX0_isAllWhite_16 (by decide) ?_
    exact p_z (b := false) hx hb hr hlocks dX0_isAllWhite_17 (by rw [decide_eq_false c_3])
  · refine lv_iconst (v := nI 1) hx hb dX0_isAllWhite_12 (by decide) ?_
    refine lv_goto (tgt := 17) hx hb dX0_isAllWhite_13 (by decide) ?_
    exact p_z (b := true) hx hb hr hlocks dX0_isAllWhite_17 (by rw [decide_eq_true c_3])

abbrev rmX0_firstPlaceOfCode : Room := { frames := 2, cells := 0, slots := 0, locals := 41 }
theorem mX0_firstPlaceOfCode {l : Launch} {G : Cx} {A : Nat → Prop} {a ca : Nat} {t : List Nat} {k0 i : Nat} (hk0 : k0 < 256) (hi : i ≤ t.length) : Met l yX0_firstPlaceOfCode (.code yX0_firstPlaceOfCode cX0_firstPlaceOfCode 4 (some .int) :: GW) rmX0_firstPlaceOfCode (PC G A [.ref a, .int (nI k0), .int (nI i)] (LA G a ca t)) (vp_Si (fstR (fun k => i ≤ k ∧ k < t.length ∧ t.getD k 0 = k0))) 0 0 (fun _ => False) := by
  refine mstart "Signtext$Line" (by decide +kernel) rfl (Nat.le_of_ble_eq_true rfl) ?_
  intro p e s m below meth c ls hx hb hr hts hown hml hlocks hname hC hA hW hl
  have hl : lv_has ls 4 [(0, .ref a), (1, .int (nI k0)), (2, .int (nI i))] := hl
  have hK := hC.1
  have hS : va_S A s.heap s.heap [] := va_S.rf
  have hW0 := hW
  obtain ⟨t60, tok, tne, hO, f, hF, hf⟩ := hW
  refine lv_iload_n hx hb dX0_firstPlaceOfCode_0 rfl (lv_at hl 2 rfl) ?_
  refine lv_istore_n (lv' := [(3, .int (nI i)), (0, .ref a), (1, .int (nI k0)), (2, .int (nI i))]) hx hb dX0_firstPlaceOfCode_1 rfl hl (by decide) rfl (fun ls hl => ?_)
  refine nloop (P := fun j => ∀ (ls : Array Slot) , lv_has ls 4 [(3, .int (nI j)), (0, .ref a), (1, .int (nI k0)), (2, .int (nI i))] → i ≤ j → (∀ k : Nat, i ≤ k → k < j → t.getD k 0 ≠ k0) → W p l e rmX0_firstPlaceOfCode s m [.ref a, .int (nI k0), .int (nI i)].toArray below meth c s.heap [] 0 0 (MQ below (vp_Si (fstR (fun k => i ≤ k ∧ k < t.length ∧ t.getD k 0 = k0))) [.ref a, .int (nI k0), .int (nI i)].toArray s 0 0 (fun _ => False)) (F0 m 2 ls [])) t.length ?_ i hi ls  hl (Nat.le_refl _) (fun k h1 h2 => absurd h2 (by omega))
  clear hl
  intro j hj ih ls  hl
  intro hij hg
  refine lv_iload_n hx hb dX0_firstPlaceOfCode_2 rfl (lv_at hl 0 rfl) ?_
  refine lv_aload_n hx hb dX0_firstPlaceOfCode_3 rfl (lv_at hl 1 rfl) ?_
  refine va_get (D := G.1) (ci := 4) (C := RX0) (T := TX0) (N := 2) hx hb hts inX0 hown hK (at_P hO) 0 rfl rfl 1 (by decide) (hts _ tw_1_45) (fun _ h9 => h9) rfl dX0_firstPlaceOfCode_4 ?_
  refine b_ge (tgt := 27) hx hb dX0_firstPlaceOfCode_7 (by decide) (by omega) (by omega) (fun c_4 => ?_) (fun c_4 => ?_)
  · refine lv_iconst (v := (-1)) hx hb dX0_firstPlaceOfCode_27 (by decide) ?_
    exact p_i hx hb hr hlocks dX0_firstPlaceOfCode_28 (Or.inr ⟨fun k q => hg k q.1 (by omega) q.2.2, rfl⟩)
  · refine lv_aload_n hx hb dX0_firstPlaceOfCode_10 rfl (lv_at hl 1 rfl) ?_
    refine lv_iload_n hx hb dX0_firstPlaceOfCode_11 rfl (lv_at hl 0 rfl) ?_
    refine kV_i (A := A) (b := a) (As := [.int (nI j)]) (rest := []) ⟨hx, hb, hml, hown, hts⟩ (mX0_codeAt (A := A) (ca := ca) (by omega)) (cwV 1 hts (gV tw_2_19 tw_2_20 tw_2_21 tw_1_2 tw_2_22) rfl rfl rfl (by decide +kernel) ⟨Nat.le_of_ble_eq_true rfl, Nat.le_of_ble_eq_true rfl⟩) hC hS hA (hW0.recv hK) hW0 rfl rfl hl.1 (Nat.le_of_ble_eq_true rfl) ⟨Nat.zero_le _, Nat.zero_le _⟩ dX0_firstPlaceOfCode_12 (fun r9 h9 => lv_cv h9 ?_)
    have tokj := tok j
    refine lv_iload_n hx hb dX0_firstPlaceOfCode_15 rfl (lv_at hl 2 rfl) ?_
    refine b_ne (tgt := 21) hx hb dX0_firstPlaceOfCode_16 (by decide) (by omega) (by omega) (fun c_5 => ?_) (fun c_5 => ?_)
    · refine lv_iinc (v := nI (j + 1)) (lv' := [(3, .int (nI (j + 1))), (0, .ref a), (1, .int (nI k0)), (2, .int (nI i))]) hx hb dX0_firstPlaceOfCode_21 hl (k := 0) rfl (nI_add j 1) (by decide) rfl (fun ls hl => ?_)
      refine lv_goto (tgt := 2) hx hb dX0_firstPlaceOfCode_24 (by decide) ?_
      exact ih (j + 1) (by omega) (by omega) ls hl (by omega) (fun k h1 h2 => by rcases Nat.lt_succ_iff_lt_or_eq.mp h2 with q | q; exact hg k h1 q; rw [q]; exact c_5)
    · refine lv_iload_n hx hb dX0_firstPlaceOfCode_19 rfl (lv_at hl 0 rfl) ?_
      exact p_i hx hb hr hlocks dX0_firstPlaceOfCode_20 (Or.inl ⟨j, ⟨hij, by omega, c_5⟩, fun k h1 q => hg k q.1 h1 q.2.2, rfl⟩)

abbrev rmX0_lastPlaceOfCode : Room := { frames := 1, cells := 0, slots := 0, locals := 20 }
theorem mX0_lastPlaceOfCode {l : Launch} {G : Cx} {A : Nat → Prop} {a ca : Nat} {t : List Nat} {k0 : Nat} (hk0 : k0 < 256) : Met l yX0_lastPlaceOfCode (.code yX0_lastPlaceOfCode cX0_lastPlaceOfCode 3 (some .int) :: GW) rmX0_lastPlaceOfCode (PC G A [.ref a, .int (nI k0)] (LA G a ca t)) (vp_Si (lstR (fun k => k < t.length ∧ t.getD k 0 = k0))) 0 0 (fun _ => False) := by
  refine mstart "Signtext$Line" (by decide +kernel) rfl (Nat.le_of_ble_eq_true rfl) ?_
  intro p e s m below meth c ls hx hb hr hts hown hml hlocks hname hC hA hW hl
  have hl : lv_has ls 3 [(0, .ref a), (1, .int (nI k0))] := hl
  have hK := hC.1
  have hS : va_S A s.heap s.heap [] := va_S.rf
  obtain ⟨t60, tok, tne, hO, f, hF, hf⟩ := hW
  refine lv_aload_n hx hb dX0_lastPlaceOfCode_0 rfl (lv_at hl 0 rfl) ?_
  refine va_get (D := G.1) (ci := 4) (C := RX0) (T := TX0) (N := 2) hx hb hts inX0 hown hK (at_P hO) 0 rfl rfl 1 (by decide) (hts _ tw_1_45) (fun _ h9 => h9) rfl dX0_lastPlaceOfCode_1 ?_
  refine lv_iconst (v := nI 1) hx hb dX0_lastPlaceOfCode_4 (by decide) ?_
  refine lv_isub hx hb dX0_lastPlaceOfCode_5 ?_
  refine lv_istore_n (lv' := [(2, .int (nI t.length - nI 1)), (0, .ref a), (1, .int (nI k0))]) hx hb dX0_lastPlaceOfCode_6 rfl hl (by decide) rfl (fun ls hl => ?_)
  have hl : lv_has ls 3 [(2, .int (nI t.length - 1)), (0, .ref a), (1, .int (nI k0))] := hl
  refine dloop (P := fun j => ∀ (ls : Array Slot) , lv_has ls 3 [(2, .int (nI j - 1)), (0, .ref a), (1, .int (nI k0))] → j ≤ t.length → (∀ k : Nat, j ≤ k → k < t.length → t.getD k 0 ≠ k0) → W p l e rmX0_lastPlaceOfCode s m [.ref a, .int (nI k0)].toArray below meth c s.heap [] 0 0 (MQ below (vp_Si (lstR (fun k => k < t.length ∧ t.getD k 0 = k0))) [.ref a, .int (nI k0)].toArray s 0 0 (fun _ => False)) (F0 m 7 ls [])) ?_ t.length ls  hl (Nat.le_refl _) (fun k h1 h2 => absurd h2 (by omega))
  clear hl
  intro j ih ls  hl
  intro hj hg
  cases j with
  | zero =>
    refine lv_iload_n hx hb dX0_lastPlaceOfCode_7 rfl (lv_at hl 0 rfl) ?_
    refine lv_if_lt (tgt := 29) hx hb dX0_lastPlaceOfCode_8 (by decide) (fun _ => ?_) (fun q => absurd (by decide) q)
    refine lv_iconst (v := (-1)) hx hb dX0_lastPlaceOfCode_29 (by decide) ?_
    exact p_i hx hb hr hlocks dX0_lastPlaceOfCode_30 (Or.inr ⟨fun k q => hg k (Nat.zero_le _) q.1 q.2, rfl⟩)
  | succ j =>
    rw [nI_pred] at hl
    refine lv_iload_n hx hb dX0_lastPlaceOfCode_7 rfl (lv_at hl 0 rfl) ?_
    refine z_lt (tgt := 29) hx hb dX0_lastPlaceOfCode_8 (by decide) (by omega) ?_
    refine lv_aload_n hx hb dX0_lastPlaceOfCode_11 rfl (lv_at hl 1 rfl) ?_
    refine va_get (D := G.1) (ci := 4) (C := RX0) (T := TX0) (N := 2) hx hb hts inX0 hown hK (at_P hO) 0 rfl rfl 0 (by decide) (hts _ tw_1_44) (fun _ h9 => h9) rfl dX0_lastPlaceOfCode_12 ?_
    refine lv_iload_n hx hb dX0_lastPlaceOfCode_15 rfl (lv_at hl 0 rfl) ?_
    refine va_cald hx hb hK (at_P hF) 0 1 rfl rfl (vp_in_nI (n := j) (N := 60) (by omega) (by omega)) dX0_lastPlaceOfCode_16 ?_
    refine lv_cv (show _ = nI (t.getD j 0) from by rw [nI_clamp (by omega)]; exact hf _ (by omega)) ?_
    refine lv_iload_n hx hb dX0_lastPlaceOfCode_17 rfl (lv_at hl 2 rfl) ?_
    have tokj := tok j
    refine b_ne (tgt := 23) hx hb dX0_lastPlaceOfCode_18 (by decide) (by omega) (by omega) (fun c_7 => ?_) (fun c_7 => ?_)
    · refine lv_iinc (v := nI j - 1) (lv' := [(2, .int (nI j - 1)), (0, .ref a), (1, .int (nI k0))]) hx hb dX0_lastPlaceOfCode_23 hl (k := 0) rfl (m1_eq j) (by decide) rfl (fun ls hl => ?_)
      refine lv_goto (tgt := 7) hx hb dX0_lastPlaceOfCode_26 (by decide) ?_
      exact ih j (Nat.lt_succ_self j) ls hl (by omega) (fun k h1 h2 => by rcases Nat.lt_or_ge j k with q | q; exact hg k q h2; rw [show k = j by omega]; exact c_7)
    · refine lv_iload_n hx hb dX0_lastPlaceOfCode_21 rfl (lv_at hl 0 rfl) ?_
      exact p_i hx hb hr hlocks dX0_lastPlaceOfCode_22 (Or.inl ⟨j, ⟨by omega, c_7⟩, fun k h1 q => hg k (by omega) q.1 q.2, rfl⟩)
