/-! The class, 1: what the calls ask first -/
theorem v_cv {p : Program} {l : Launch} {e : Env} {R : Room} {s : State} {m : MethodId} {args : Array Value} {below : List Frame} {meth : Method} {c : Code} {H : Heap} {locs : List Loc} {cells slots pc : Nat} {ls : Array Slot} {rest : List Value} {Q : State → Prop} {x y : Value} (h : x = y) (k : W p l e R s m args below meth c H locs cells slots Q (F0 m pc ls (y :: rest))) : W p l e R s m args below meth c H locs cells slots Q (F0 m pc ls (x :: rest)) := h ▸ k
theorem dX2_textOf_0 : decode cX2_textOf 0 = .ok (.iload_n 1, 1) := by decide +kernel
theorem dX2_textOf_1 : decode cX2_textOf 1 = .ok (.ifCond .lt 8, 3) := by decide +kernel
theorem dX2_textOf_4 : decode cX2_textOf 4 = .ok (.iload_n 1, 1) := by decide +kernel
theorem dX2_textOf_5 : decode cX2_textOf 5 = .ok (.iconst 4, 1) := by decide +kernel
theorem dX2_textOf_6 : decode cX2_textOf 6 = .ok (.if_icmp .lt 11, 3) := by decide +kernel
theorem dX2_textOf_9 : decode cX2_textOf 9 = .ok (.new 74, 3) := by decide +kernel
theorem dX2_textOf_12 : decode cX2_textOf 12 = .ok (.dup, 1) := by decide +kernel
theorem dX2_textOf_13 : decode cX2_textOf 13 = .ok (.invokespecial 76, 3) := by decide +kernel
theorem dX2_textOf_16 : decode cX2_textOf 16 = .ok (.athrow, 1) := by decide +kernel
theorem dX2_textOf_17 : decode cX2_textOf 17 = .ok (.aload_n 0, 1) := by decide +kernel
theorem dX2_textOf_18 : decode cX2_textOf 18 = .ok (.getfield 11, 3) := by decide +kernel
theorem dX2_textOf_21 : decode cX2_textOf 21 = .ok (.iload_n 1, 1) := by decide +kernel
theorem dX2_textOf_22 : decode cX2_textOf 22 = .ok (.aaload, 1) := by decide +kernel
theorem dX2_textOf_23 : decode cX2_textOf 23 = .ok (.areturn, 1) := by decide +kernel
theorem dX2_knownOf_0 : decode cX2_knownOf 0 = .ok (.iload_n 1, 1) := by decide +kernel
theorem dX2_knownOf_1 : decode cX2_knownOf 1 = .ok (.ifCond .lt 9, 3) := by decide +kernel
theorem dX2_knownOf_4 : decode cX2_knownOf 4 = .ok (.iload_n 1, 1) := by decide +kernel
theorem dX2_knownOf_5 : decode cX2_knownOf 5 = .ok (.bipush 7, 2) := by decide +kernel
theorem dX2_knownOf_7 : decode cX2_knownOf 7 = .ok (.if_icmp .lt 11, 3) := by decide +kernel
theorem dX2_knownOf_10 : decode cX2_knownOf 10 = .ok (.new 81, 3) := by decide +kernel
theorem dX2_knownOf_13 : decode cX2_knownOf 13 = .ok (.dup, 1) := by decide +kernel
theorem dX2_knownOf_14 : decode cX2_knownOf 14 = .ok (.invokespecial 83, 3) := by decide +kernel
theorem dX2_knownOf_17 : decode cX2_knownOf 17 = .ok (.athrow, 1) := by decide +kernel
theorem dX2_knownOf_18 : decode cX2_knownOf 18 = .ok (.aload_n 0, 1) := by decide +kernel
theorem dX2_knownOf_19 : decode cX2_knownOf 19 = .ok (.getfield 15, 3) := by decide +kernel
theorem dX2_knownOf_22 : decode cX2_knownOf 22 = .ok (.iload_n 1, 1) := by decide +kernel
theorem dX2_knownOf_23 : decode cX2_knownOf 23 = .ok (.aaload, 1) := by decide +kernel
theorem dX2_knownOf_24 : decode cX2_knownOf 24 = .ok (.areturn, 1) := by decide +kernel
theorem dX2_codeOf_0 : decode cX2_codeOf 0 = .ok (.iload_n 0, 1) := by decide +kernel
theorem dX2_codeOf_1 : decode cX2_codeOf 1 = .ok (.ifCond .lt 11, 3) := by decide +kernel
theorem dX2_codeOf_4 : decode cX2_codeOf 4 = .ok (.iload_n 0, 1) := by decide +kernel
theorem dX2_codeOf_5 : decode cX2_codeOf 5 = .ok (.getstatic 228, 3) := by decide +kernel
theorem dX2_codeOf_8 : decode cX2_codeOf 8 = .ok (.arraylength, 1) := by decide +kernel
theorem dX2_codeOf_9 : decode cX2_codeOf 9 = .ok (.if_icmp .lt 11, 3) := by decide +kernel
theorem dX2_codeOf_12 : decode cX2_codeOf 12 = .ok (.new 81, 3) := by decide +kernel
theorem dX2_codeOf_15 : decode cX2_codeOf 15 = .ok (.dup, 1) := by decide +kernel
theorem dX2_codeOf_16 : decode cX2_codeOf 16 = .ok (.invokespecial 83, 3) := by decide +kernel
theorem dX2_codeOf_19 : decode cX2_codeOf 19 = .ok (.athrow, 1) := by decide +kernel
theorem dX2_codeOf_20 : decode cX2_codeOf 20 = .ok (.getstatic 228, 3) := by decide +kernel
theorem dX2_codeOf_23 : decode cX2_codeOf 23 = .ok (.iload_n 0, 1) := by decide +kernel
theorem dX2_codeOf_24 : decode cX2_codeOf 24 = .ok (.iaload, 1) := by decide +kernel
theorem dX2_codeOf_25 : decode cX2_codeOf 25 = .ok (.ireturn, 1) := by decide +kernel
theorem dX2_needPlace_0 : decode cX2_needPlace 0 = .ok (.iload_n 1, 1) := by decide +kernel
theorem dX2_needPlace_1 : decode cX2_needPlace 1 = .ok (.ifCond .lt 11, 3) := by decide +kernel
theorem dX2_needPlace_4 : decode cX2_needPlace 4 = .ok (.iload_n 1, 1) := by decide +kernel
theorem dX2_needPlace_5 : decode cX2_needPlace 5 = .ok (.aload_n 0, 1) := by decide +kernel
theorem dX2_needPlace_6 : decode cX2_needPlace 6 = .ok (.invokevirtual 66, 3) := by decide +kernel
theorem dX2_needPlace_9 : decode cX2_needPlace 9 = .ok (.if_icmp .lt 11, 3) := by decide +kernel
theorem dX2_needPlace_12 : decode cX2_needPlace 12 = .ok (.new 74, 3) := by decide +kernel
theorem dX2_needPlace_15 : decode cX2_needPlace 15 = .ok (.dup, 1) := by decide +kernel
theorem dX2_needPlace_16 : decode cX2_needPlace 16 = .ok (.invokespecial 76, 3) := by decide +kernel
theorem dX2_needPlace_19 : decode cX2_needPlace 19 = .ok (.athrow, 1) := by decide +kernel
theorem dX2_needPlace_20 : decode cX2_needPlace 20 = .ok (.return_, 1) := by decide +kernel
theorem dX2_needPlaceOrEnd_0 : decode cX2_needPlaceOrEnd 0 = .ok (.iload_n 1, 1) := by decide +kernel
theorem dX2_needPlaceOrEnd_1 : decode cX2_needPlaceOrEnd 1 = .ok (.ifCond .lt 11, 3) := by decide +kernel
theorem dX2_needPlaceOrEnd_4 : decode cX2_needPlaceOrEnd 4 = .ok (.iload_n 1, 1) := by decide +kernel
theorem dX2_needPlaceOrEnd_5 : decode cX2_needPlaceOrEnd 5 = .ok (.aload_n 0, 1) := by decide +kernel
theorem dX2_needPlaceOrEnd_6 : decode cX2_needPlaceOrEnd 6 = .ok (.invokevirtual 66, 3) := by decide +kernel
theorem dX2_needPlaceOrEnd_9 : decode cX2_needPlaceOrEnd 9 = .ok (.if_icmp .le 11, 3) := by decide +kernel
theorem dX2_needPlaceOrEnd_12 : decode cX2_needPlaceOrEnd 12 = .ok (.new 74, 3) := by decide +kernel
theorem dX2_needPlaceOrEnd_15 : decode cX2_needPlaceOrEnd 15 = .ok (.dup, 1) := by decide +kernel
theorem dX2_needPlaceOrEnd_16 : decode cX2_needPlaceOrEnd 16 = .ok (.invokespecial 76, 3) := by decide +kernel
theorem dX2_needPlaceOrEnd_19 : decode cX2_needPlaceOrEnd 19 = .ok (.athrow, 1) := by decide +kernel
theorem dX2_needPlaceOrEnd_20 : decode cX2_needPlaceOrEnd 20 = .ok (.return_, 1) := by decide +kernel
theorem dX2_needPiece_0 : decode cX2_needPiece 0 = .ok (.iload_n 1, 1) := by decide +kernel
theorem dX2_needPiece_1 : decode cX2_needPiece 1 = .ok (.ifCond .lt 14, 3) := by decide +kernel
theorem dX2_needPiece_4 : decode cX2_needPiece 4 = .ok (.iload_n 1, 1) := by decide +kernel
theorem dX2_needPiece_5 : decode cX2_needPiece 5 = .ok (.aload_n 0, 1) := by decide +kernel
theorem dX2_needPiece_6 : decode cX2_needPiece 6 = .ok (.getfield 26, 3) := by decide +kernel
theorem dX2_needPiece_9 : decode cX2_needPiece 9 = .ok (.invokevirtual 138, 3) := by decide +kernel
theorem dX2_needPiece_12 : decode cX2_needPiece 12 = .ok (.if_icmp .lt 11, 3) := by decide +kernel
theorem dX2_needPiece_15 : decode cX2_needPiece 15 = .ok (.new 74, 3) := by decide +kernel
theorem dX2_needPiece_18 : decode cX2_needPiece 18 = .ok (.dup, 1) := by decide +kernel
theorem dX2_needPiece_19 : decode cX2_needPiece 19 = .ok (.invokespecial 76, 3) := by decide +kernel
theorem dX2_needPiece_22 : decode cX2_needPiece 22 = .ok (.athrow, 1) := by decide +kernel
theorem dX2_needPiece_23 : decode cX2_needPiece 23 = .ok (.return_, 1) := by decide +kernel
theorem dX2_needRoom_0 : decode cX2_needRoom 0 = .ok (.iload_n 0, 1) := by decide +kernel
theorem dX2_needRoom_1 : decode cX2_needRoom 1 = .ok (.bipush 60, 2) := by decide +kernel
theorem dX2_needRoom_3 : decode cX2_needRoom 3 = .ok (.if_icmp .le 11, 3) := by decide +kernel
theorem dX2_needRoom_6 : decode cX2_needRoom 6 = .ok (.new 232, 3) := by decide +kernel
theorem dX2_needRoom_9 : decode cX2_needRoom 9 = .ok (.dup, 1) := by decide +kernel
theorem dX2_needRoom_10 : decode cX2_needRoom 10 = .ok (.invokespecial 234, 3) := by decide +kernel
theorem dX2_needRoom_13 : decode cX2_needRoom 13 = .ok (.athrow, 1) := by decide +kernel
theorem dX2_needRoom_14 : decode cX2_needRoom 14 = .ok (.return_, 1) := by decide +kernel
abbrev rmX2_textOf : Room := { frames := 6, cells := 1, slots := 6, locals := 89 }
theorem mX2_textOf {l : Launch} {G : Cx} {A : Nat → Prop} (hst : l.stackTraces = false) {SA : Nat → Nat} {T : Nat → List Nat} {es es2 : List Nat} {k : Int32} {x : Int32} : vx_Met l yX2_textOf (.code yX2_textOf cX2_textOf 2 (some (.object "Signtext$Line")) :: GW) rmX2_textOf (PC G A [.ref (SA 0), .int x] (SW G SA T es es2 k)) (qR A (fun r H => (∃ i : Nat, i < 4 ∧ x = nI i ∧ r = SA (7 + 2 * i)) ∧ SW G SA T es es2 k H)) (xE A (fun E H => E = "java/lang/IndexOutOfBoundsException" ∧ (¬ ∃ i : Nat, i < 4 ∧ x = nI i) ∧ SW G SA T es es2 k H)) 1 6 A := by
  refine mstartX "Signtext" (by decide +kernel) rfl (Nat.le_of_ble_eq_true rfl) ?_
  intro p e s m below meth c ls hx hb hr hts hown hml hlocks hnx hC hA hW hl
  have hl : lv_has ls 2 [(0, .ref (SA 0)), (1, .int x)] := hl
  have hK := hC.1
  have hS : va_S A s.heap s.heap [] := va_S.rf
  have hO := hW.2.1
  have hR1 := hW.2.2.1
  have hR2 := hW.2.2.2.1
  refine lv_iload_n hx hb dX2_textOf_0 rfl (lv_at hl 1 rfl) ?_
  refine lv_if_lt (tgt := 9) hx hb dX2_textOf_1 (by decide) (fun c_1 => ?_) (fun c_1 => ?_)
  · exact t_new (nL := 2) (cls := "java/lang/IndexOutOfBoundsException") (ik := 74) (ic := 76) hx hb hst hown hts hC hS hl.1 hml (by decide +kernel) tw_3_8 tw_1_16 tA76 tB76 tG76 hnx hlocks (Nat.le_of_ble_eq_true rfl) (Nat.le_of_ble_eq_true rfl) (Nat.le_trans (show 0 + 1 ≤ 1 by omega) (Nat.le_of_ble_eq_true rfl)) (Nat.le_trans (show 0 + 6 ≤ 6 by omega) (Nat.le_of_ble_eq_true rfl)) (by omega) (by omega) dX2_textOf_9 dX2_textOf_12 dX2_textOf_13 dX2_textOf_16 (fun H9 hk9 => ⟨rfl, (fun ⟨i, h1, h2⟩ => by rw [h2] at c_1; exact nI_pos (by omega) c_1), hW.nw hk9⟩)
  · obtain ⟨i, hi31, rfl⟩ := nI_of c_1
    refine lv_iload_n hx hb dX2_textOf_4 rfl (lv_at hl 1 rfl) ?_
    refine lv_iconst (v := nI 4) hx hb dX2_textOf_5 (by decide) ?_
    refine b_lt (tgt := 17) hx hb dX2_textOf_6 (by decide) (by omega) (by omega) (fun c_2 => ?_) (fun c_2 => ?_)
    · refine lv_aload_n hx hb dX2_textOf_17 rfl (lv_at hl 0 rfl) ?_
      refine va_get (D := G.1) (ci := 6) (C := RX2) (T := TX2) (N := 8) hx hb hts inX2 hown hK (at_P hO) 0 rfl rfl 0 (by decide) (hts _ tw_1_137) (fun _ h9 => h9) rfl dX2_textOf_18 ?_
      refine lv_iload_n hx hb dX2_textOf_21 rfl (lv_at hl 1 rfl) ?_
      refine va_aldq (D := G.1) hx hb hK (at_P hR1) 0 3 rfl rfl (vp_in_nI (n := i) (N := 4) (by omega) (by omega)) dX2_textOf_22 ?_
      refine v_cv (show va_rf _ = .ref (SA (7 + 2 * i)) from by rw [nI_clamp (n := i) (by omega)]; rfl) ?_
      exact vx_ret (q_a hx hb hr (Or.inl ⟨_, rfl⟩) hlocks dX2_textOf_23 hS (by omega) (by omega) ⟨⟨i, c_2, rfl, rfl⟩, hW⟩)
    · exact t_new (nL := 2) (cls := "java/lang/IndexOutOfBoundsException") (ik := 74) (ic := 76) hx hb hst hown hts hC hS hl.1 hml (by decide +kernel) tw_3_8 tw_1_16 tA76 tB76 tG76 hnx hlocks (Nat.le_of_ble_eq_true rfl) (Nat.le_of_ble_eq_true rfl) (Nat.le_trans (show 0 + 1 ≤ 1 by omega) (Nat.le_of_ble_eq_true rfl)) (Nat.le_trans (show 0 + 6 ≤ 6 by omega) (Nat.le_of_ble_eq_true rfl)) (by omega) (by omega) dX2_textOf_9 dX2_textOf_12 dX2_textOf_13 dX2_textOf_16 (fun H9 hk9 => ⟨rfl, (fun ⟨i9, h1, h2⟩ => by have := (nI_eq (by omega) (by omega)).mp h2; omega), hW.nw hk9⟩)

abbrev rmX2_knownOf : Room := { frames := 6, cells := 1, slots := 6, locals := 89 }
theorem mX2_knownOf {l : Launch} {G : Cx} {A : Nat → Prop} (hst : l.stackTraces = false) {SA : Nat → Nat} {T : Nat → List Nat} {es es2 : List Nat} {k : Int32} {x : Int32} : vx_Met l yX2_knownOf (.code yX2_knownOf cX2_knownOf 2 (some (.object "Signtext$Line")) :: GW) rmX2_knownOf (PC G A [.ref (SA 0), .int x] (SW G SA T es es2 k)) (qR A (fun r H => (∃ i : Nat, i < 7 ∧ x = nI i ∧ r = SA (15 + 2 * i)) ∧ SW G SA T es es2 k H)) (xE A (fun E H => E = "java/lang/IllegalArgumentException" ∧ (¬ ∃ i : Nat, i < 7 ∧ x = nI i) ∧ SW G SA T es es2 k H)) 1 6 A := by
  refine mstartX "Signtext" (by decide +kernel) rfl (Nat.le_of_ble_eq_true rfl) ?_
  intro p e s m below meth c ls hx hb hr hts hown hml hlocks hnx hC hA hW hl
  have hl : lv_has ls 2 [(0, .ref (SA 0)), (1, .int x)] := hl
  have hK := hC.1
  have hS : va_S A s.heap s.heap [] := va_S.rf
  have hO := hW.2.1
  have hR1 := hW.2.2.1
  have hR2 := hW.2.2.2.1
  refine lv_iload_n hx hb dX2_knownOf_0 rfl (lv_at hl 1 rfl) ?_
  refine lv_if_lt (tgt := 10) hx hb dX2_knownOf_1 (by decide) (fun c_3 => ?_) (fun c_3 => ?_)
  · exact t_new (nL := 2) (cls := "java/lang/IllegalArgumentException") (ik := 81) (ic := 83) hx hb hst hown hts hC hS hl.1 hml (by decide +kernel) tw_2_136 tw_1_17 tA83 tB83 tG83 hnx hlocks (Nat.le_of_ble_eq_true rfl) (Nat.le_of_ble_eq_true rfl) (Nat.le_trans (show 0 + 1 ≤ 1 by omega) (Nat.le_of_ble_eq_true rfl)) (Nat.le_trans (show 0 + 6 ≤ 6 by omega) (Nat.le_of_ble_eq_true rfl)) (by omega) (by omega) dX2_knownOf_10 dX2_knownOf_13 dX2_knownOf_14 dX2_knownOf_17 (fun H9 hk9 => ⟨rfl, (fun ⟨i, h1, h2⟩ => by rw [h2] at c_3; exact nI_pos (by omega) c_3), hW.nw hk9⟩)
  · obtain ⟨i, hi31, rfl⟩ := nI_of c_3
    refine lv_iload_n hx hb dX2_knownOf_4 rfl (lv_at hl 1 rfl) ?_
    refine lv_bipush (v := nI 7) hx hb dX2_knownOf_5 (by decide) ?_
    refine b_lt (tgt := 18) hx hb dX2_knownOf_7 (by decide) (by omega) (by omega) (fun c_4 => ?_) (fun c_4 => ?_)
    · refine lv_aload_n hx hb dX2_knownOf_18 rfl (lv_at hl 0 rfl) ?_
      refine va_get (D := G.1) (ci := 6) (C := RX2) (T := TX2) (N := 8) hx hb hts inX2 hown hK (at_P hO) 0 rfl rfl 1 (by decide) (hts _ tw_1_138) (fun _ h9 => h9) rfl dX2_knownOf_19 ?_
      refine lv_iload_n hx hb dX2_knownOf_22 rfl (lv_at hl 1 rfl) ?_
      refine va_aldq (D := G.1) hx hb hK (at_P hR2) 0 3 rfl rfl (vp_in_nI (n := i) (N := 7) (by omega) (by omega)) dX2_knownOf_23 ?_
      refine v_cv (show va_rf _ = .ref (SA (15 + 2 * i)) from by rw [nI_clamp (n := i) (by omega)]; rfl) ?_
      exact vx_ret (q_a hx hb hr (Or.inl ⟨_, rfl⟩) hlocks dX2_knownOf_24 hS (by omega) (by omega) ⟨⟨i, c_4, rfl, rfl⟩, hW⟩)
    · exact t_new (nL := 2) (cls := "java/lang/IllegalArgumentException") (ik := 81) (ic := 83) hx hb hst hown hts hC hS hl.1 hml (by decide +kernel) tw_2_136 tw_1_17 tA83 tB83 tG83 hnx hlocks (Nat.le_of_ble_eq_true rfl) (Nat.le_of_ble_eq_true rfl) (Nat.le_trans (show 0 + 1 ≤ 1 by omega) (Nat.le_of_ble_eq_true rfl)) (Nat.le_trans (show 0 + 6 ≤ 6 by omega) (Nat.le_of_ble_eq_true rfl)) (by omega) (by omega) dX2_knownOf_10 dX2_knownOf_13 dX2_knownOf_14 dX2_knownOf_17 (fun H9 hk9 => ⟨rfl, (fun ⟨i9, h1, h2⟩ => by have := (nI_eq (by omega) (by omega)).mp h2; omega), hW.nw hk9⟩)

abbrev rmX2_codeOf : Room := { frames := 6, cells := 1, slots := 6, locals := 89 }
theorem mX2_codeOf {l : Launch} {G : Cx} {A : Nat → Prop} (hst : l.stackTraces = false) {SA : Nat → Nat} {T : Nat → List Nat} {es es2 : List Nat} {k : Int32} {x : Int32} : vx_Met l yX2_codeOf (.code yX2_codeOf cX2_codeOf 1 (some .int) :: GW) rmX2_codeOf (PC G A [.int x] (SW G SA T es es2 k)) (qI A (fun r H => (∃ i : Nat, i < 24 ∧ x = nI i ∧ r = nI (codeT.getD i 0)) ∧ SW G SA T es es2 k H)) (xE A (fun E H => E = "java/lang/IllegalArgumentException" ∧ (¬ ∃ i : Nat, i < 24 ∧ x = nI i) ∧ SW G SA T es es2 k H)) 1 6 A := by
  refine mstartX "Signtext" (by decide +kernel) rfl (Nat.le_of_ble_eq_true rfl) ?_
  intro p e s m below meth c ls hx hb hr hts hown hml hlocks hnx hC hA hW hl
  have hl : lv_has ls 1 [(0, .int x)] := hl
  have hK := hC.1
  have hS : va_S A s.heap s.heap [] := va_S.rf
  obtain ⟨z1, z2, z3, z4, z5, z6, z7, z8, z9, z10, z11, z12, z13⟩ := hC.2.2.1
  refine lv_iload_n hx hb dX2_codeOf_0 rfl (lv_at hl 0 rfl) ?_
  refine lv_if_lt (tgt := 12) hx hb dX2_codeOf_1 (by decide) (fun c_5 => ?_) (fun c_5 => ?_)
  · exact t_new (nL := 1) (cls := "java/lang/IllegalArgumentException") (ik := 81) (ic := 83) hx hb hst hown hts hC hS hl.1 hml (by decide +kernel) tw_2_136 tw_1_17 tA83 tB83 tG83 hnx hlocks (Nat.le_of_ble_eq_true rfl) (Nat.le_of_ble_eq_true rfl) (Nat.le_trans (show 0 + 1 ≤ 1 by omega) (Nat.le_of_ble_eq_true rfl)) (Nat.le_trans (show 0 + 6 ≤ 6 by omega) (Nat.le_of_ble_eq_true rfl)) (by omega) (by omega) dX2_codeOf_12 dX2_codeOf_15 dX2_codeOf_16 dX2_codeOf_19 (fun H9 hk9 => ⟨rfl, (fun ⟨i, h1, h2⟩ => by rw [h2] at c_5; exact nI_pos (by omega) c_5), hW.nw hk9⟩)
  · obtain ⟨i, hi31, rfl⟩ := nI_of c_5
    refine lv_iload_n hx hb dX2_codeOf_4 rfl (lv_at hl 0 rfl) ?_
    refine va_gets (v := .ref (G.2.2 0)) hx hb z1 hS hown (hts _ tw_3_30) (fun _ h9 => h9) dX2_codeOf_5 ?_
    refine va_tlen (v := nI 24) hx hb z2 hS rfl dX2_codeOf_8 ?_
    refine b_lt (tgt := 20) hx hb dX2_codeOf_9 (by decide) (by omega) (by omega) (fun c_6 => ?_) (fun c_6 => ?_)
    · refine va_gets (v := .ref (G.2.2 0)) hx hb z1 hS hown (hts _ tw_3_30) (fun _ h9 => h9) dX2_codeOf_20 ?_
      refine lv_iload_n hx hb dX2_codeOf_23 rfl (lv_at hl 0 rfl) ?_
      refine va_ti (v := .int (nI (codeT.getD i 0))) hx hb z2 hS (vp_in_nI (n := i) (N := 24) (by omega) (by omega)) (by rw [nI_clamp (n := i) (by omega)]) dX2_codeOf_24 ?_
      exact vx_ret (q_i hx hb hr hlocks dX2_codeOf_25 hS (by omega) (by omega) ⟨⟨i, c_6, rfl, rfl⟩, hW⟩)
    · exact t_new (nL := 1) (cls := "java/lang/IllegalArgumentException") (ik := 81) (ic := 83) hx hb hst hown hts hC hS hl.1 hml (by decide +kernel) tw_2_136 tw_1_17 tA83 tB83 tG83 hnx hlocks (Nat.le_of_ble_eq_true rfl) (Nat.le_of_ble_eq_true rfl) (Nat.le_trans (show 0 + 1 ≤ 1 by omega) (Nat.le_of_ble_eq_true rfl)) (Nat.le_trans (show 0 + 6 ≤ 6 by omega) (Nat.le_of_ble_eq_true rfl)) (by omega) (by omega) dX2_codeOf_12 dX2_codeOf_15 dX2_codeOf_16 dX2_codeOf_19 (fun H9 hk9 => ⟨rfl, (fun ⟨i9, h1, h2⟩ => by have := (nI_eq (by omega) (by omega)).mp h2; omega), hW.nw hk9⟩)

abbrev rmX2_needPlace : Room := { frames := 6, cells := 1, slots := 6, locals := 89 }
theorem mX2_needPlace {l : Launch} {G : Cx} {A : Nat → Prop} (hst : l.stackTraces = false) {SA : Nat → Nat} {T : Nat → List Nat} {es es2 : List Nat} {k : Int32} {q : Nat} {x : Int32} (hq : q < 16) : vx_Met l yX2_needPlace (.code yX2_needPlace cX2_needPlace 2 (none : Option Jvm.ClassFile.FieldType) :: GW) rmX2_needPlace (PC G A [.ref (SA (7 + 2 * q)), .int x] (SW G SA T es es2 k)) (qV A (fun H => (∃ i : Nat, i < (T q).length ∧ x = nI i) ∧ SW G SA T es es2 k H)) (xE A (fun E H => E = "java/lang/IndexOutOfBoundsException" ∧ (¬ ∃ i : Nat, i < (T q).length ∧ x = nI i) ∧ SW G SA T es es2 k H)) 1 6 A := by
  refine mstartX "Signtext" (by decide +kernel) rfl (Nat.le_of_ble_eq_true rfl) ?_
  intro p e s m below meth c ls hx hb hr hts hown hml hlocks hnx hC hA hW hl
  have hl : lv_has ls 2 [(0, .ref (SA (7 + 2 * q))), (1, .int x)] := hl
  have hK := hC.1
  have hS : va_S A s.heap s.heap [] := va_S.rf
  have t60 := (hW.line hq).1
  refine lv_iload_n hx hb dX2_needPlace_0 rfl (lv_at hl 1 rfl) ?_
  refine lv_if_lt (tgt := 12) hx hb dX2_needPlace_1 (by decide) (fun c_7 => ?_) (fun c_7 => ?_)
  · exact t_new (nL := 2) (cls := "java/lang/IndexOutOfBoundsException") (ik := 74) (ic := 76) hx hb hst hown hts hC hS hl.1 hml (by decide +kernel) tw_3_8 tw_1_16 tA76 tB76 tG76 hnx hlocks (Nat.le_of_ble_eq_true rfl) (Nat.le_of_ble_eq_true rfl) (Nat.le_trans (show 0 + 1 ≤ 1 by omega) (Nat.le_of_ble_eq_true rfl)) (Nat.le_trans (show 0 + 6 ≤ 6 by omega) (Nat.le_of_ble_eq_true rfl)) (by omega) (by omega) dX2_needPlace_12 dX2_needPlace_15 dX2_needPlace_16 dX2_needPlace_19 (fun H9 hk9 => ⟨rfl, (fun ⟨i, h1, h2⟩ => by rw [h2] at c_7; exact nI_pos (by omega) c_7), hW.nw hk9⟩)
  · obtain ⟨i, hi31, rfl⟩ := nI_of c_7
    refine lv_iload_n hx hb dX2_needPlace_4 rfl (lv_at hl 1 rfl) ?_
    refine lv_aload_n hx hb dX2_needPlace_5 rfl (lv_at hl 0 rfl) ?_
    refine kV_i (A := A) (b := (SA (7 + 2 * q))) (As := []) (rest := .int (nI i) :: []) ⟨hx, hb, hml, hown, hts⟩ (mX0_size (A := A) (ca := SA (8 + 2 * q))) (cwV 0 hts (gV tw_2_30 tw_2_12 tw_2_13 tw_1_2 tw_2_14) rfl rfl rfl (by decide +kernel) ⟨Nat.le_of_ble_eq_true rfl, Nat.le_of_ble_eq_true rfl⟩) hC hS hA ((hW.line hq).recv hK) (hW.line hq) rfl rfl hl.1 (Nat.le_of_ble_eq_true rfl) ⟨Nat.zero_le _, Nat.zero_le _⟩ dX2_needPlace_6 (fun r9 h9 => lv_cv h9 ?_)
    refine b_lt (tgt := 20) hx hb dX2_needPlace_9 (by decide) (by omega) (by omega) (fun c_8 => ?_) (fun c_8 => ?_)
    · exact vx_ret (q_v hx hb hr hlocks dX2_needPlace_20 hS (by omega) (by omega) ⟨⟨i, c_8, rfl⟩, hW⟩)
    · exact t_new (nL := 2) (cls := "java/lang/IndexOutOfBoundsException") (ik := 74) (ic := 76) hx hb hst hown hts hC hS hl.1 hml (by decide +kernel) tw_3_8 tw_1_16 tA76 tB76 tG76 hnx hlocks (Nat.le_of_ble_eq_true rfl) (Nat.le_of_ble_eq_true rfl) (Nat.le_trans (show 0 + 1 ≤ 1 by omega) (Nat.le_of_ble_eq_true rfl)) (Nat.le_trans (show 0 + 6 ≤ 6 by omega) (Nat.le_of_ble_eq_true rfl)) (by omega) (by omega) dX2_needPlace_12 dX2_needPlace_15 dX2_needPlace_16 dX2_needPlace_19 (fun H9 hk9 => ⟨rfl, (fun ⟨i9, h1, h2⟩ => by have := (nI_eq (by omega) (by omega)).mp h2; omega), hW.nw hk9⟩)

abbrev rmX2_needPlaceOrEnd : Room := { frames := 6, cells := 1, slots := 6, locals := 89 }
theorem mX2_needPlaceOrEnd {l : Launch} {G : Cx} {A : Nat → Prop} (hst : l.stackTraces = false) {SA : Nat → Nat} {T : Nat → List Nat} {es es2 : List Nat} {k : Int32} {q : Nat} {x : Int32} (hq : q < 16) : vx_Met l yX2_needPlaceOrEnd (.code yX2_needPlaceOrEnd cX2_needPlaceOrEnd 2 (none : Option Jvm.ClassFile.FieldType) :: GW) rmX2_needPlaceOrEnd (PC G A [.ref (SA (7 + 2 * q)), .int x] (SW G SA T es es2 k)) (qV A (fun H => (∃ i : Nat, i ≤ (T q).length ∧ x = nI i) ∧ SW G SA T es es2 k H)) (xE A (fun E H => E = "java/lang/IndexOutOfBoundsException" ∧ (¬ ∃ i : Nat, i ≤ (T q).length ∧ x = nI i) ∧ SW G SA T es es2 k H)) 1 6 A := by
  refine mstartX "Signtext" (by decide +kernel) rfl (Nat.le_of_ble_eq_true rfl) ?_
  intro p e s m below meth c ls hx hb hr hts hown hml hlocks hnx hC hA hW hl
  have hl : lv_has ls 2 [(0, .ref (SA (7 + 2 * q))), (1, .int x)] := hl
  have hK := hC.1
  have hS : va_S A s.heap s.heap [] := va_S.rf
  have t60 := (hW.line hq).1
  refine lv_iload_n hx hb dX2_needPlaceOrEnd_0 rfl (lv_at hl 1 rfl) ?_
  refine lv_if_lt (tgt := 12) hx hb dX2_needPlaceOrEnd_1 (by decide) (fun c_9 => ?_) (fun c_9 => ?_)
  · exact t_new (nL := 2) (cls := "java/lang/IndexOutOfBoundsException") (ik := 74) (ic := 76) hx hb hst hown hts hC hS hl.1 hml (by decide +kernel) tw_3_8 tw_1_16 tA76 tB76 tG76 hnx hlocks (Nat.le_of_ble_eq_true rfl) (Nat.le_of_ble_eq_true rfl) (Nat.le_trans (show 0 + 1 ≤ 1 by omega) (Nat.le_of_ble_eq_true rfl)) (Nat.le_trans (show 0 + 6 ≤ 6 by omega) (Nat.le_of_ble_eq_true rfl)) (by omega) (by omega) dX2_needPlaceOrEnd_12 dX2_needPlaceOrEnd_15 dX2_needPlaceOrEnd_16 dX2_needPlaceOrEnd_19 (fun H9 hk9 => ⟨rfl, (fun ⟨i, h1, h2⟩ => by rw [h2] at c_9; exact nI_pos (by omega) c_9), hW.nw hk9⟩)
  · obtain ⟨i, hi31, rfl⟩ := nI_of c_9
    refine lv_iload_n hx hb dX2_needPlaceOrEnd_4 rfl (lv_at hl 1 rfl) ?_
    refine lv_aload_n hx hb dX2_needPlaceOrEnd_5 rfl (lv_at hl 0 rfl) ?_
    refine kV_i (A := A) (b := (SA (7 + 2 * q))) (As := []) (rest := .int (nI i) :: []) ⟨hx, hb, hml, hown, hts⟩ (mX0_size (A := A) (ca := SA (8 + 2 * q))) (cwV 0 hts (gV tw_2_30 tw_2_12 tw_2_13 tw_1_2 tw_2_14) rfl rfl rfl (by decide +kernel) ⟨Nat.le_of_ble_eq_true rfl, Nat.le_of_ble_eq_true rfl⟩) hC hS hA ((hW.line hq).recv hK) (hW.line hq) rfl rfl hl.1 (Nat.le_of_ble_eq_true rfl) ⟨Nat.zero_le _, Nat.zero_le _⟩ dX2_needPlaceOrEnd_6 (fun r9 h9 => lv_cv h9 ?_)
    refine b_le (tgt := 20) hx hb dX2_needPlaceOrEnd_9 (by decide) (by omega) (by omega) (fun c_10 => ?_) (fun c_10 => ?_)
    · exact vx_ret (q_v hx hb hr hlocks dX2_needPlaceOrEnd_20 hS (by omega) (by omega) ⟨⟨i, c_10, rfl⟩, hW⟩)
    · exact t_new (nL := 2) (cls := "java/lang/IndexOutOfBoundsException") (ik := 74) (ic := 76) hx hb hst hown hts hC hS hl.1 hml (by decide +kernel) tw_3_8 tw_1_16 tA76 tB76 tG76 hnx hlocks (Nat.le_of_ble_eq_true rfl) (Nat.le_of_ble_eq_true rfl) (Nat.le_trans (show 0 + 1 ≤ 1 by omega) (Nat.le_of_ble_eq_true rfl)) (Nat.le_trans (show 0 + 6 ≤ 6 by omega) (Nat.le_of_ble_eq_true rfl)) (by omega) (by omega) dX2_needPlaceOrEnd_12 dX2_needPlaceOrEnd_15 dX2_needPlaceOrEnd_16 dX2_needPlaceOrEnd_19 (fun H9 hk9 => ⟨rfl, (fun ⟨i9, h1, h2⟩ => by have := (nI_eq (by omega) (by omega)).mp h2; omega), hW.nw hk9⟩)

abbrev rmX2_needPiece : Room := { frames := 6, cells := 1, slots := 6, locals := 89 }
theorem mX2_needPiece {l : Launch} {G : Cx} {A : Nat → Prop} (hst : l.stackTraces = false) {SA : Nat → Nat} {T : Nat → List Nat} {es es2 : List Nat} {k : Int32} {x : Int32} : vx_Met l yX2_needPiece (.code yX2_needPiece cX2_needPiece 2 (none : Option Jvm.ClassFile.FieldType) :: GW) rmX2_needPiece (PC G A [.ref (SA 0), .int x] (SW G SA T es es2 k)) (qV A (fun H => (∃ i : Nat, i < es.length ∧ x = nI i) ∧ SW G SA T es es2 k H)) (xE A (fun E H => E = "java/lang/IndexOutOfBoundsException" ∧ (¬ ∃ i : Nat, i < es.length ∧ x = nI i) ∧ SW G SA T es es2 k H)) 1 6 A := by
  refine mstartX "Signtext" (by decide +kernel) rfl (Nat.le_of_ble_eq_true rfl) ?_
  intro p e s m below meth c ls hx hb hr hts hown hml hlocks hnx hC hA hW hl
  have hl : lv_has ls 2 [(0, .ref (SA 0)), (1, .int x)] := hl
  have hK := hC.1
  have hS : va_S A s.heap s.heap [] := va_S.rf
  have hPB := hW.pcs.1
  have e61 := hPB.1
  have hO := hW.2.1
  have hR1 := hW.2.2.1
  have hR2 := hW.2.2.2.1
  refine lv_iload_n hx hb dX2_needPiece_0 rfl (lv_at hl 1 rfl) ?_
  refine lv_if_lt (tgt := 15) hx hb dX2_needPiece_1 (by decide) (fun c_11 => ?_) (fun c_11 => ?_)
  · exact t_new (nL := 2) (cls := "java/lang/IndexOutOfBoundsException") (ik := 74) (ic := 76) hx hb hst hown hts hC hS hl.1 hml (by decide +kernel) tw_3_8 tw_1_16 tA76 tB76 tG76 hnx hlocks (Nat.le_of_ble_eq_true rfl) (Nat.le_of_ble_eq_true rfl) (Nat.le_trans (show 0 + 1 ≤ 1 by omega) (Nat.le_of_ble_eq_true rfl)) (Nat.le_trans (show 0 + 6 ≤ 6 by omega) (Nat.le_of_ble_eq_true rfl)) (by omega) (by omega) dX2_needPiece_15 dX2_needPiece_18 dX2_needPiece_19 dX2_needPiece_22 (fun H9 hk9 => ⟨rfl, (fun ⟨i, h1, h2⟩ => by rw [h2] at c_11; exact nI_pos (by omega) c_11), hW.nw hk9⟩)
  · obtain ⟨i, hi31, rfl⟩ := nI_of c_11
    refine lv_iload_n hx hb dX2_needPiece_4 rfl (lv_at hl 1 rfl) ?_
    refine lv_aload_n hx hb dX2_needPiece_5 rfl (lv_at hl 0 rfl) ?_
    refine va_get (D := G.1) (ci := 6) (C := RX2) (T := TX2) (N := 8) hx hb hts inX2 hown hK (at_P hO) 0 rfl rfl 3 (by decide) (hts _ tw_1_140) (fun _ h9 => h9) rfl dX2_needPiece_6 ?_
    refine kV_i (A := A) (b := (SA 3)) (As := []) (rest := .int (nI i) :: []) ⟨hx, hb, hml, hown, hts⟩ (mX1_size (A := A) (la := SA 35) (ea := SA 4)) (cwV 0 hts (gV tw_2_82 tw_2_83 tw_2_84 tw_1_3 tw_2_85) rfl rfl rfl (by decide +kernel) ⟨Nat.le_of_ble_eq_true rfl, Nat.le_of_ble_eq_true rfl⟩) hC hS hA (hPB.recv hK) hPB rfl rfl hl.1 (Nat.le_of_ble_eq_true rfl) ⟨Nat.zero_le _, Nat.zero_le _⟩ dX2_needPiece_9 (fun r9 h9 => lv_cv h9 ?_)
    refine b_lt (tgt := 23) hx hb dX2_needPiece_12 (by decide) (by omega) (by omega) (fun c_12 => ?_) (fun c_12 => ?_)
    · exact vx_ret (q_v hx hb hr hlocks dX2_needPiece_23 hS (by omega) (by omega) ⟨⟨i, c_12, rfl⟩, hW⟩)
    · exact t_new (nL := 2) (cls := "java/lang/IndexOutOfBoundsException") (ik := 74) (ic := 76) hx hb hst hown hts hC hS hl.1 hml (by decide +kernel) tw_3_8 tw_1_16 tA76 tB76 tG76 hnx hlocks (Nat.le_of_ble_eq_true rfl) (Nat.le_of_ble_eq_true rfl) (Nat.le_trans (show 0 + 1 ≤ 1 by omega) (Nat.le_of_ble_eq_true rfl)) (Nat.le_trans (show 0 + 6 ≤ 6 by omega) (Nat.le_of_ble_eq_true rfl)) (by omega) (by omega) dX2_needPiece_15 dX2_needPiece_18 dX2_needPiece_19 dX2_needPiece_22 (fun H9 hk9 => ⟨rfl, (fun ⟨i9, h1, h2⟩ => by have := (nI_eq (by omega) (by omega)).mp h2; omega), hW.nw hk9⟩)

abbrev rmX2_needRoom : Room := { frames := 6, cells := 1, slots := 6, locals := 89 }
theorem mX2_needRoom {l : Launch} {G : Cx} {A : Nat → Prop} (hst : l.stackTraces = false) {SA : Nat → Nat} {T : Nat → List Nat} {es es2 : List Nat} {k : Int32} {n : Nat} (hn : n < 2 ^ 31) : vx_Met l yX2_needRoom (.code yX2_needRoom cX2_needRoom 1 (none : Option Jvm.ClassFile.FieldType) :: GW) rmX2_needRoom (PC G A [.int (nI n)] (SW G SA T es es2 k)) (qV A (fun H => n ≤ 60 ∧ SW G SA T es es2 k H)) (xE A (fun E H => E = "java/lang/IllegalStateException" ∧ 60 < n ∧ SW G SA T es es2 k H)) 1 6 A := by
  refine mstartX "Signtext" (by decide +kernel) rfl (Nat.le_of_ble_eq_true rfl) ?_
  intro p e s m below meth c ls hx hb hr hts hown hml hlocks hnx hC hA hW hl
  have hl : lv_has ls 1 [(0, .int (nI n))] := hl
  have hK := hC.1
  have hS : va_S A s.heap s.heap [] := va_S.rf
  refine lv_iload_n hx hb dX2_needRoom_0 rfl (lv_at hl 0 rfl) ?_
  refine lv_bipush (v := nI 60) hx hb dX2_needRoom_1 (by decide) ?_
  refine b_le (tgt := 14) hx hb dX2_needRoom_3 (by decide) (by omega) (by omega) (fun c_13 => ?_) (fun c_13 => ?_)
  · exact vx_ret (q_v hx hb hr hlocks dX2_needRoom_14 hS (by omega) (by omega) ⟨c_13, hW⟩)
  · exact t_new (nL := 1) (cls := "java/lang/IllegalStateException") (ik := 232) (ic := 234) hx hb hst hown hts hC hS hl.1 hml (by decide +kernel) tw_3_39 tw_1_18 tA234 tB234 tG234 hnx hlocks (Nat.le_of_ble_eq_true rfl) (Nat.le_of_ble_eq_true rfl) (Nat.le_trans (show 0 + 1 ≤ 1 by omega) (Nat.le_of_ble_eq_true rfl)) (Nat.le_trans (show 0 + 6 ≤ 6 by omega) (Nat.le_of_ble_eq_true rfl)) (by omega) (by omega) dX2_needRoom_6 dX2_needRoom_9 dX2_needRoom_10 dX2_needRoom_13 (fun H9 hk9 => ⟨rfl, c_13, hW.nw hk9⟩)
