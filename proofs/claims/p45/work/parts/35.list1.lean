/-! ArrayList, 1: its readers, its iterator -/
theorem dJx35411_init_45d68_0 : decode cJx35411_init_45d68 0 = .ok (.aload_n 0, 1) := by decide +kernel
theorem dJx35411_init_45d68_1 : decode cJx35411_init_45d68 1 = .ok (.aload_n 1, 1) := by decide +kernel
theorem dJx35411_init_45d68_2 : decode cJx35411_init_45d68 2 = .ok (.putfield 1, 3) := by decide +kernel
theorem dJx35411_init_45d68_5 : decode cJx35411_init_45d68 5 = .ok (.aload_n 0, 1) := by decide +kernel
theorem dJx35411_init_45d68_6 : decode cJx35411_init_45d68 6 = .ok (.invokespecial 7, 3) := by decide +kernel
theorem dJx35411_init_45d68_9 : decode cJx35411_init_45d68 9 = .ok (.aload_n 0, 1) := by decide +kernel
theorem dJx35411_init_45d68_10 : decode cJx35411_init_45d68 10 = .ok (.iconst (-1), 1) := by decide +kernel
theorem dJx35411_init_45d68_11 : decode cJx35411_init_45d68 11 = .ok (.putfield 13, 3) := by decide +kernel
theorem dJx35411_init_45d68_14 : decode cJx35411_init_45d68 14 = .ok (.aload_n 0, 1) := by decide +kernel
theorem dJx35411_init_45d68_15 : decode cJx35411_init_45d68 15 = .ok (.aload_n 0, 1) := by decide +kernel
theorem dJx35411_init_45d68_16 : decode cJx35411_init_45d68 16 = .ok (.getfield 1, 3) := by decide +kernel
theorem dJx35411_init_45d68_19 : decode cJx35411_init_45d68 19 = .ok (.getfield 17, 3) := by decide +kernel
theorem dJx35411_init_45d68_22 : decode cJx35411_init_45d68 22 = .ok (.putfield 22, 3) := by decide +kernel
theorem dJx35411_init_45d68_25 : decode cJx35411_init_45d68 25 = .ok (.return_, 1) := by decide +kernel
theorem dJx35411_hasNext_aae02_0 : decode cJx35411_hasNext_aae02 0 = .ok (.aload_n 0, 1) := by decide +kernel
theorem dJx35411_hasNext_aae02_1 : decode cJx35411_hasNext_aae02 1 = .ok (.getfield 25, 3) := by decide +kernel
theorem dJx35411_hasNext_aae02_4 : decode cJx35411_hasNext_aae02 4 = .ok (.aload_n 0, 1) := by decide +kernel
theorem dJx35411_hasNext_aae02_5 : decode cJx35411_hasNext_aae02 5 = .ok (.getfield 1, 3) := by decide +kernel
theorem dJx35411_hasNext_aae02_8 : decode cJx35411_hasNext_aae02 8 = .ok (.getfield 28, 3) := by decide +kernel
theorem dJx35411_hasNext_aae02_11 : decode cJx35411_hasNext_aae02 11 = .ok (.if_icmp .eq 7, 3) := by decide +kernel
theorem dJx35411_hasNext_aae02_14 : decode cJx35411_hasNext_aae02 14 = .ok (.iconst 1, 1) := by decide +kernel
theorem dJx35411_hasNext_aae02_15 : decode cJx35411_hasNext_aae02 15 = .ok (.goto 4, 3) := by decide +kernel
theorem dJx35411_hasNext_aae02_18 : decode cJx35411_hasNext_aae02 18 = .ok (.iconst 0, 1) := by decide +kernel
theorem dJx35411_hasNext_aae02_19 : decode cJx35411_hasNext_aae02 19 = .ok (.ireturn, 1) := by decide +kernel
theorem dJx35411_next_0502b_0 : decode cJx35411_next_0502b 0 = .ok (.aload_n 0, 1) := by decide +kernel
theorem dJx35411_next_0502b_1 : decode cJx35411_next_0502b 1 = .ok (.invokevirtual 31, 3) := by decide +kernel
theorem dJx35411_next_0502b_4 : decode cJx35411_next_0502b 4 = .ok (.aload_n 0, 1) := by decide +kernel
theorem dJx35411_next_0502b_5 : decode cJx35411_next_0502b 5 = .ok (.getfield 25, 3) := by decide +kernel
theorem dJx35411_next_0502b_8 : decode cJx35411_next_0502b 8 = .ok (.istore_n 1, 1) := by decide +kernel
theorem dJx35411_next_0502b_9 : decode cJx35411_next_0502b 9 = .ok (.iload_n 1, 1) := by decide +kernel
theorem dJx35411_next_0502b_10 : decode cJx35411_next_0502b 10 = .ok (.aload_n 0, 1) := by decide +kernel
theorem dJx35411_next_0502b_11 : decode cJx35411_next_0502b 11 = .ok (.getfield 1, 3) := by decide +kernel
theorem dJx35411_next_0502b_14 : decode cJx35411_next_0502b 14 = .ok (.getfield 28, 3) := by decide +kernel
theorem dJx35411_next_0502b_17 : decode cJx35411_next_0502b 17 = .ok (.if_icmp .lt 11, 3) := by decide +kernel
theorem dJx35411_next_0502b_20 : decode cJx35411_next_0502b 20 = .ok (.new 34, 3) := by decide +kernel
theorem dJx35411_next_0502b_23 : decode cJx35411_next_0502b 23 = .ok (.dup, 1) := by decide +kernel
theorem dJx35411_next_0502b_24 : decode cJx35411_next_0502b 24 = .ok (.invokespecial 36, 3) := by decide +kernel
theorem dJx35411_next_0502b_27 : decode cJx35411_next_0502b 27 = .ok (.athrow, 1) := by decide +kernel
theorem dJx35411_next_0502b_28 : decode cJx35411_next_0502b 28 = .ok (.aload_n 0, 1) := by decide +kernel
theorem dJx35411_next_0502b_29 : decode cJx35411_next_0502b 29 = .ok (.getfield 1, 3) := by decide +kernel
theorem dJx35411_next_0502b_32 : decode cJx35411_next_0502b 32 = .ok (.getfield 37, 3) := by decide +kernel
theorem dJx35411_next_0502b_35 : decode cJx35411_next_0502b 35 = .ok (.astore_n 2, 1) := by decide +kernel
theorem dJx35411_next_0502b_36 : decode cJx35411_next_0502b 36 = .ok (.iload_n 1, 1) := by decide +kernel
theorem dJx35411_next_0502b_37 : decode cJx35411_next_0502b 37 = .ok (.aload_n 2, 1) := by decide +kernel
theorem dJx35411_next_0502b_38 : decode cJx35411_next_0502b 38 = .ok (.arraylength, 1) := by decide +kernel
theorem dJx35411_next_0502b_39 : decode cJx35411_next_0502b 39 = .ok (.if_icmp .lt 11, 3) := by decide +kernel
theorem dJx35411_next_0502b_42 : decode cJx35411_next_0502b 42 = .ok (.new 41, 3) := by decide +kernel
theorem dJx35411_next_0502b_45 : decode cJx35411_next_0502b 45 = .ok (.dup, 1) := by decide +kernel
theorem dJx35411_next_0502b_46 : decode cJx35411_next_0502b 46 = .ok (.invokespecial 43, 3) := by decide +kernel
theorem dJx35411_next_0502b_49 : decode cJx35411_next_0502b 49 = .ok (.athrow, 1) := by decide +kernel
theorem dJx35411_next_0502b_50 : decode cJx35411_next_0502b 50 = .ok (.aload_n 0, 1) := by decide +kernel
theorem dJx35411_next_0502b_51 : decode cJx35411_next_0502b 51 = .ok (.iload_n 1, 1) := by decide +kernel
theorem dJx35411_next_0502b_52 : decode cJx35411_next_0502b 52 = .ok (.iconst 1, 1) := by decide +kernel
theorem dJx35411_next_0502b_53 : decode cJx35411_next_0502b 53 = .ok (.iadd, 1) := by decide +kernel
theorem dJx35411_next_0502b_54 : decode cJx35411_next_0502b 54 = .ok (.putfield 25, 3) := by decide +kernel
theorem dJx35411_next_0502b_57 : decode cJx35411_next_0502b 57 = .ok (.aload_n 2, 1) := by decide +kernel
theorem dJx35411_next_0502b_58 : decode cJx35411_next_0502b 58 = .ok (.aload_n 0, 1) := by decide +kernel
theorem dJx35411_next_0502b_59 : decode cJx35411_next_0502b 59 = .ok (.iload_n 1, 1) := by decide +kernel
theorem dJx35411_next_0502b_60 : decode cJx35411_next_0502b 60 = .ok (.dup_x1, 1) := by decide +kernel
theorem dJx35411_next_0502b_61 : decode cJx35411_next_0502b 61 = .ok (.putfield 13, 3) := by decide +kernel
theorem dJx35411_next_0502b_64 : decode cJx35411_next_0502b 64 = .ok (.aaload, 1) := by decide +kernel
theorem dJx35411_next_0502b_65 : decode cJx35411_next_0502b 65 = .ok (.areturn, 1) := by decide +kernel
theorem dJx35411_checkForComodification_da8c8_0 : decode cJx35411_checkForComodification_da8c8 0 = .ok (.aload_n 0, 1) := by decide +kernel
theorem dJx35411_checkForComodification_da8c8_1 : decode cJx35411_checkForComodification_da8c8 1 = .ok (.getfield 1, 3) := by decide +kernel
theorem dJx35411_checkForComodification_da8c8_4 : decode cJx35411_checkForComodification_da8c8 4 = .ok (.getfield 17, 3) := by decide +kernel
theorem dJx35411_checkForComodification_da8c8_7 : decode cJx35411_checkForComodification_da8c8 7 = .ok (.aload_n 0, 1) := by decide +kernel
theorem dJx35411_checkForComodification_da8c8_8 : decode cJx35411_checkForComodification_da8c8 8 = .ok (.getfield 22, 3) := by decide +kernel
theorem dJx35411_checkForComodification_da8c8_11 : decode cJx35411_checkForComodification_da8c8 11 = .ok (.if_icmp .eq 11, 3) := by decide +kernel
theorem dJx35411_checkForComodification_da8c8_14 : decode cJx35411_checkForComodification_da8c8 14 = .ok (.new 41, 3) := by decide +kernel
theorem dJx35411_checkForComodification_da8c8_17 : decode cJx35411_checkForComodification_da8c8 17 = .ok (.dup, 1) := by decide +kernel
theorem dJx35411_checkForComodification_da8c8_18 : decode cJx35411_checkForComodification_da8c8 18 = .ok (.invokespecial 43, 3) := by decide +kernel
theorem dJx35411_checkForComodification_da8c8_21 : decode cJx35411_checkForComodification_da8c8 21 = .ok (.athrow, 1) := by decide +kernel
theorem dJx35411_checkForComodification_da8c8_22 : decode cJx35411_checkForComodification_da8c8 22 = .ok (.return_, 1) := by decide +kernel
theorem dJx4a65c_size_8abf5_0 : decode cJx4a65c_size_8abf5 0 = .ok (.aload_n 0, 1) := by decide +kernel
theorem dJx4a65c_size_8abf5_1 : decode cJx4a65c_size_8abf5 1 = .ok (.getfield 48, 3) := by decide +kernel
theorem dJx4a65c_size_8abf5_4 : decode cJx4a65c_size_8abf5 4 = .ok (.ireturn, 1) := by decide +kernel
theorem dJx4a65c_isEmpty_aae02_0 : decode cJx4a65c_isEmpty_aae02 0 = .ok (.aload_n 0, 1) := by decide +kernel
theorem dJx4a65c_isEmpty_aae02_1 : decode cJx4a65c_isEmpty_aae02 1 = .ok (.getfield 48, 3) := by decide +kernel
theorem dJx4a65c_isEmpty_aae02_4 : decode cJx4a65c_isEmpty_aae02 4 = .ok (.ifCond .ne 7, 3) := by decide +kernel
theorem dJx4a65c_isEmpty_aae02_7 : decode cJx4a65c_isEmpty_aae02 7 = .ok (.iconst 1, 1) := by decide +kernel
theorem dJx4a65c_isEmpty_aae02_8 : decode cJx4a65c_isEmpty_aae02 8 = .ok (.goto 4, 3) := by decide +kernel
theorem dJx4a65c_isEmpty_aae02_11 : decode cJx4a65c_isEmpty_aae02 11 = .ok (.iconst 0, 1) := by decide +kernel
theorem dJx4a65c_isEmpty_aae02_12 : decode cJx4a65c_isEmpty_aae02 12 = .ok (.ireturn, 1) := by decide +kernel
theorem dJx4a65c_elementData_915e3_0 : decode cJx4a65c_elementData_915e3 0 = .ok (.aload_n 0, 1) := by decide +kernel
theorem dJx4a65c_elementData_915e3_1 : decode cJx4a65c_elementData_915e3 1 = .ok (.getfield 9, 3) := by decide +kernel
theorem dJx4a65c_elementData_915e3_4 : decode cJx4a65c_elementData_915e3 4 = .ok (.iload_n 1, 1) := by decide +kernel
theorem dJx4a65c_elementData_915e3_5 : decode cJx4a65c_elementData_915e3 5 = .ok (.aaload, 1) := by decide +kernel
theorem dJx4a65c_elementData_915e3_6 : decode cJx4a65c_elementData_915e3 6 = .ok (.areturn, 1) := by decide +kernel
theorem dJx4a65c_get_915e3_0 : decode cJx4a65c_get_915e3 0 = .ok (.iload_n 1, 1) := by decide +kernel
theorem dJx4a65c_get_915e3_1 : decode cJx4a65c_get_915e3 1 = .ok (.aload_n 0, 1) := by decide +kernel
theorem dJx4a65c_get_915e3_2 : decode cJx4a65c_get_915e3 2 = .ok (.getfield 48, 3) := by decide +kernel
theorem dJx4a65c_get_915e3_5 : decode cJx4a65c_get_915e3 5 = .ok (.invokestatic 118, 3) := by decide +kernel
theorem dJx4a65c_get_915e3_8 : decode cJx4a65c_get_915e3 8 = .ok (.pop, 1) := by decide +kernel
theorem dJx4a65c_get_915e3_9 : decode cJx4a65c_get_915e3 9 = .ok (.aload_n 0, 1) := by decide +kernel
theorem dJx4a65c_get_915e3_10 : decode cJx4a65c_get_915e3 10 = .ok (.iload_n 1, 1) := by decide +kernel
theorem dJx4a65c_get_915e3_11 : decode cJx4a65c_get_915e3 11 = .ok (.invokevirtual 123, 3) := by decide +kernel
theorem dJx4a65c_get_915e3_14 : decode cJx4a65c_get_915e3 14 = .ok (.areturn, 1) := by decide +kernel
theorem dJx4a65c_iterator_32c93_0 : decode cJx4a65c_iterator_32c93 0 = .ok (.new 267, 3) := by decide +kernel
theorem dJx4a65c_iterator_32c93_3 : decode cJx4a65c_iterator_32c93 3 = .ok (.dup, 1) := by decide +kernel
theorem dJx4a65c_iterator_32c93_4 : decode cJx4a65c_iterator_32c93 4 = .ok (.aload_n 0, 1) := by decide +kernel
theorem dJx4a65c_iterator_32c93_5 : decode cJx4a65c_iterator_32c93 5 = .ok (.invokespecial 269, 3) := by decide +kernel
theorem dJx4a65c_iterator_32c93_8 : decode cJx4a65c_iterator_32c93 8 = .ok (.areturn, 1) := by decide +kernel
theorem dJ15_checkIndex_7cf53_0 : decode cJ15_checkIndex_7cf53 0 = .ok (.iload_n 0, 1) := by decide +kernel
theorem dJ15_checkIndex_7cf53_1 : decode cJ15_checkIndex_7cf53 1 = .ok (.iload_n 1, 1) := by decide +kernel
theorem dJ15_checkIndex_7cf53_2 : decode cJ15_checkIndex_7cf53 2 = .ok (.aconst_null, 1) := by decide +kernel
theorem dJ15_checkIndex_7cf53_3 : decode cJ15_checkIndex_7cf53 3 = .ok (.invokestatic 105, 3) := by decide +kernel
theorem dJ15_checkIndex_7cf53_6 : decode cJ15_checkIndex_7cf53 6 = .ok (.ireturn, 1) := by decide +kernel
abbrev rmJx4a65c_size_8abf5 : Room := { frames := 1, cells := 0, slots := 0, locals := 20 }
theorem mJx4a65c_size_8abf5 {l : Launch} {G : Cx} {A : Nat → Prop} {pa ed n : Nat} {md : Int32} (hn : n < 2 ^ 31) : Met l yJx4a65c_size_8abf5 (.code yJx4a65c_size_8abf5 cJx4a65c_size_8abf5 1 (some .int) :: GW) rmJx4a65c_size_8abf5 (PC G A [.ref pa] (fun H => va_at G.1 vwCl (pa, .inr (3, [.int md, .ref ed, .int (nI n)])) H)) (vp_Si (fun r => r = nI n)) 0 0 (fun _ => False) := by
  refine mstart "java/util/ArrayList" (by decide +kernel) rfl (Nat.le_of_ble_eq_true rfl) ?_
  intro p e s m below meth c ls hx hb hr hts hown hml hlocks hname hC hA hW hl
  have hl : lv_has ls 1 [(0, .ref pa)] := hl
  have hK := hC.1
  have hS : va_S A s.heap s.heap [] := va_S.rf
  have hO := hW
  refine lv_aload_n hx hb dJx4a65c_size_8abf5_0 rfl (lv_at hl 0 rfl) ?_
  refine va_get (D := G.1) (ci := 3) (C := RJx4a65c) (T := TJx4a65c) (N := 3) hx hb hts inJx4a65c hown hK (at_P hO) 0 rfl rfl 2 (by decide) (hts _ tw_4_160) (fun _ h9 => h9) rfl dJx4a65c_size_8abf5_1 ?_
  exact p_i hx hb hr hlocks dJx4a65c_size_8abf5_4 rfl

abbrev rmJx4a65c_isEmpty_aae02 : Room := { frames := 1, cells := 0, slots := 0, locals := 20 }
theorem mJx4a65c_isEmpty_aae02 {l : Launch} {G : Cx} {A : Nat → Prop} {pa ed n : Nat} {md : Int32} (hn : n < 2 ^ 31) : Met l yJx4a65c_isEmpty_aae02 (.code yJx4a65c_isEmpty_aae02 cJx4a65c_isEmpty_aae02 1 (some .boolean) :: GW) rmJx4a65c_isEmpty_aae02 (PC G A [.ref pa] (fun H => va_at G.1 vwCl (pa, .inr (3, [.int md, .ref ed, .int (nI n)])) H)) (vp_Si (fun r => r = bI (decide (n = 0)))) 0 0 (fun _ => False) := by
  refine mstart "java/util/ArrayList" (by decide +kernel) rfl (Nat.le_of_ble_eq_true rfl) ?_
  intro p e s m below meth c ls hx hb hr hts hown hml hlocks hname hC hA hW hl
  have hl : lv_has ls 1 [(0, .ref pa)] := hl
  have hK := hC.1
  have hS : va_S A s.heap s.heap [] := va_S.rf
  have hO := hW
  refine lv_aload_n hx hb dJx4a65c_isEmpty_aae02_0 rfl (lv_at hl 0 rfl) ?_
  refine va_get (D := G.1) (ci := 3) (C := RJx4a65c) (T := TJx4a65c) (N := 3) hx hb hts inJx4a65c hown hK (at_P hO) 0 rfl rfl 2 (by decide) (hts _ tw_4_160) (fun _ h9 => h9) rfl dJx4a65c_isEmpty_aae02_1 ?_
  refine z_ne (tgt := 11) hx hb dJx4a65c_isEmpty_aae02_4 (by decide) (by omega) (fun c_1 => ?_) (fun c_1 => ?_)
  · refine lv_iconst (v := nI 0) hx hb dJx4a65c_isEmpty_aae02_11 (by decide) ?_
    exact p_z (b := false) hx hb hr hlocks dJx4a65c_isEmpty_aae02_12 (by rw [decide_eq_false c_1])
  · refine lv_iconst (v := nI 1) hx hb dJx4a65c_isEmpty_aae02_7 (by decide) ?_
    refine lv_goto (tgt := 12) hx hb dJx4a65c_isEmpty_aae02_8 (by decide) ?_
    exact p_z (b := true) hx hb hr hlocks dJx4a65c_isEmpty_aae02_12 (by rw [decide_eq_true c_1])

abbrev rmJx4a65c_elementData_915e3 : Room := { frames := 1, cells := 0, slots := 0, locals := 20 }
theorem mJx4a65c_elementData_915e3 {l : Launch} {G : Cx} {A : Nat → Prop} {pa ed n cap : Nat} {md : Int32} {f : Nat → Option Nat} {j q : Nat} (hj : j < n) (hnc : n ≤ cap) (hc31 : cap < 2 ^ 31) (hf : f j = some q) : Met l yJx4a65c_elementData_915e3 (.code yJx4a65c_elementData_915e3 cJx4a65c_elementData_915e3 2 (some (.object "java/lang/Object")) :: GW) rmJx4a65c_elementData_915e3 (PC G A [.ref pa, .int (nI j)] (fun H => va_at G.1 vwCl (pa, .inr (3, [.int md, .ref ed, .int (nI n)])) H ∧ va_at G.1 vwCl (ed, .inl (G.2.1 5, cap, .inr (.inr (.inr (.inr f))))) H)) (pR (fun r => r = q)) 0 0 (fun _ => False) := by
  refine mstart "java/util/ArrayList" (by decide +kernel) rfl (Nat.le_of_ble_eq_true rfl) ?_
  intro p e s m below meth c ls hx hb hr hts hown hml hlocks hname hC hA hW hl
  have hl : lv_has ls 2 [(0, .ref pa), (1, .int (nI j))] := hl
  have hK := hC.1
  have hS : va_S A s.heap s.heap [] := va_S.rf
  obtain ⟨hO, hE⟩ := hW
  refine lv_aload_n hx hb dJx4a65c_elementData_915e3_0 rfl (lv_at hl 0 rfl) ?_
  refine va_get (D := G.1) (ci := 3) (C := RJx4a65c) (T := TJx4a65c) (N := 3) hx hb hts inJx4a65c hown hK (at_P hO) 0 rfl rfl 1 (by decide) (hts _ tw_4_157) (fun _ h9 => h9) rfl dJx4a65c_elementData_915e3_1 ?_
  refine lv_iload_n hx hb dJx4a65c_elementData_915e3_4 rfl (lv_at hl 1 rfl) ?_
  refine va_aldq (D := G.1) hx hb hK (at_P hE) 0 5 rfl rfl (vp_in_nI (n := j) (N := cap) (by omega) (by omega)) dJx4a65c_elementData_915e3_5 ?_
  refine v_cv (show va_rf _ = .ref q from by rw [nI_clamp (n := j) (by omega), hf]; rfl) ?_
  exact p_a hx hb hr (Or.inl ⟨_, rfl⟩) hlocks dJx4a65c_elementData_915e3_6 rfl

abbrev rmJ15_checkIndex_7cf53 : Room := { frames := 1, cells := 0, slots := 0, locals := 22 }
theorem mJ15_checkIndex_7cf53 {l : Launch} {G : Cx} {A : Nat → Prop} {j n : Nat} (hj : j < n) (hn : n < 2 ^ 31) : Met l yJ15_checkIndex_7cf53 (.code yJ15_checkIndex_7cf53 cJ15_checkIndex_7cf53 2 (some .int) :: GW) rmJ15_checkIndex_7cf53 (PC G A [.int (nI j), .int (nI n)] (fun _ => True)) (vp_Si (fun r => r = nI j)) 0 0 (fun _ => False) := by
  refine mstart "java/util/Objects" (by decide +kernel) rfl (Nat.le_of_ble_eq_true rfl) ?_
  intro p e s m below meth c ls hx hb hr hts hown hml hlocks hname hC hA hW hl
  have hl : lv_has ls 2 [(0, .int (nI j)), (1, .int (nI n))] := hl
  have hK := hC.1
  have hS : va_S A s.heap s.heap [] := va_S.rf
  refine lv_iload_n hx hb dJ15_checkIndex_7cf53_0 rfl (lv_at hl 0 rfl) ?_
  refine lv_iload_n hx hb dJ15_checkIndex_7cf53_1 rfl (lv_at hl 1 rfl) ?_
  refine lv_null hx hb dJ15_checkIndex_7cf53_2 ?_
  refine kS_i (A := A) (As := [.int (nI j), .int (nI n), .null]) (rest := []) ⟨hx, hb, hml, hown, hts⟩ (mJ3_checkIndex_8e157_n (fa := 0) (A := A) hj hn) (va_cwS 3 hts (gS tw_5_159 tw_1_112 tw_1_6 tw_1_113) rfl rfl rfl (by decide +kernel) ⟨Nat.le_of_ble_eq_true rfl, Nat.le_of_ble_eq_true rfl⟩) hC hS hA  trivial rfl rfl hl.1 (Nat.le_of_ble_eq_true rfl) ⟨Nat.zero_le _, Nat.zero_le _⟩ dJ15_checkIndex_7cf53_3 (fun r9 h9 => lv_cv h9 ?_)
  exact p_i hx hb hr hlocks dJ15_checkIndex_7cf53_6 rfl

abbrev rmJx4a65c_get_915e3 : Room := { frames := 2, cells := 0, slots := 0, locals := 43 }
theorem mJx4a65c_get_915e3 {l : Launch} {G : Cx} {A : Nat → Prop} {pa ed n cap : Nat} {md : Int32} {f : Nat → Option Nat} {j q : Nat} (hj : j < n) (hnc : n ≤ cap) (hc31 : cap < 2 ^ 31) (hf : f j = some q) : Met l yJx4a65c_get_915e3 (.code yJx4a65c_get_915e3 cJx4a65c_get_915e3 2 (some (.object "java/lang/Object")) :: GW) rmJx4a65c_get_915e3 (PC G A [.ref pa, .int (nI j)] (fun H => va_at G.1 vwCl (pa, .inr (3, [.int md, .ref ed, .int (nI n)])) H ∧ va_at G.1 vwCl (ed, .inl (G.2.1 5, cap, .inr (.inr (.inr (.inr f))))) H)) (pR (fun r => r = q)) 0 0 (fun _ => False) := by
  refine mstart "java/util/ArrayList" (by decide +kernel) rfl (Nat.le_of_ble_eq_true rfl) ?_
  intro p e s m below meth c ls hx hb hr hts hown hml hlocks hname hC hA hW hl
  have hl : lv_has ls 2 [(0, .ref pa), (1, .int (nI j))] := hl
  have hK := hC.1
  have hS : va_S A s.heap s.heap [] := va_S.rf
  obtain ⟨hO, hE⟩ := hW
  refine lv_iload_n hx hb dJx4a65c_get_915e3_0 rfl (lv_at hl 1 rfl) ?_
  refine lv_aload_n hx hb dJx4a65c_get_915e3_1 rfl (lv_at hl 0 rfl) ?_
  refine va_get (D := G.1) (ci := 3) (C := RJx4a65c) (T := TJx4a65c) (N := 3) hx hb hts inJx4a65c hown hK (at_P hO) 0 rfl rfl 2 (by decide) (hts _ tw_4_160) (fun _ h9 => h9) rfl dJx4a65c_get_915e3_2 ?_
  refine kS_i (A := A) (As := [.int (nI j), .int (nI n)]) (rest := []) ⟨hx, hb, hml, hown, hts⟩ (mJ15_checkIndex_7cf53 (A := A) hj (by omega)) (va_cwS 2 hts (gS tw_5_156 tw_5_157 tw_1_23 tw_5_158) rfl rfl rfl (by decide +kernel) ⟨Nat.le_of_ble_eq_true rfl, Nat.le_of_ble_eq_true rfl⟩) hC hS hA  trivial rfl rfl hl.1 (Nat.le_of_ble_eq_true rfl) ⟨Nat.zero_le _, Nat.zero_le _⟩ dJx4a65c_get_915e3_5 (fun r9 h9 => lv_cv h9 ?_)
  refine lv_pop hx hb dJx4a65c_get_915e3_8 rfl ?_
  refine lv_aload_n hx hb dJx4a65c_get_915e3_9 rfl (lv_at hl 0 rfl) ?_
  refine lv_iload_n hx hb dJx4a65c_get_915e3_10 rfl (lv_at hl 1 rfl) ?_
  refine kV_a (A := A) (b := pa) (As := [.int (nI j)]) (rest := []) ⟨hx, hb, hml, hown, hts⟩ (mJx4a65c_elementData_915e3 (A := A) hj hnc hc31 hf) (cwV 1 hts (gV tw_5_160 tw_5_161 tw_5_162 tw_1_11 tw_5_163) rfl rfl rfl (by decide +kernel) ⟨Nat.le_of_ble_eq_true rfl, Nat.le_of_ble_eq_true rfl⟩) hC hS hA (at_recv hK hO (q := (RJx4a65c, TJx4a65c, 3)) rfl) ⟨hO, hE⟩ rfl rfl hl.1 (Nat.le_of_ble_eq_true rfl) ⟨Nat.zero_le _, Nat.zero_le _⟩ dJx4a65c_get_915e3_11 (fun a_2 ha_2 => ?_)
  obtain rfl : a_2 = q := ha_2
  exact p_a hx hb hr (Or.inl ⟨_, rfl⟩) hlocks dJx4a65c_get_915e3_14 rfl

abbrev rmJx35411_hasNext_aae02 : Room := { frames := 1, cells := 0, slots := 0, locals := 20 }
theorem mJx35411_hasNext_aae02 {l : Launch} {G : Cx} {A : Nat → Prop} {ia pa ed n cu : Nat} {md lr : Int32} (hn : n < 2 ^ 31) (hcu : cu < 2 ^ 31) : Met l yJx35411_hasNext_aae02 (.code yJx35411_hasNext_aae02 cJx35411_hasNext_aae02 1 (some .boolean) :: GW) rmJx35411_hasNext_aae02 (PC G A [.ref ia] (fun H => va_at G.1 vwCl (ia, .inr (2, [.int (nI cu), .int lr, .int md, .ref pa])) H ∧ va_at G.1 vwCl (pa, .inr (3, [.int md, .ref ed, .int (nI n)])) H)) (vp_Si (fun r => r = bI (decide (cu ≠ n)))) 0 0 (fun _ => False) := by
  refine mstart "java/util/ArrayList$Itr" (by decide +kernel) rfl (Nat.le_of_ble_eq_true rfl) ?_
  intro p e s m below meth c ls hx hb hr hts hown hml hlocks hname hC hA hW hl
  have hl : lv_has ls 1 [(0, .ref ia)] := hl
  have hK := hC.1
  have hS : va_S A s.heap s.heap [] := va_S.rf
  obtain ⟨hI, hO⟩ := hW
  refine lv_aload_n hx hb dJx35411_hasNext_aae02_0 rfl (lv_at hl 0 rfl) ?_
  refine va_get (D := G.1) (ci := 2) (C := RJx35411) (T := TJx35411) (N := 4) hx hb hts inJx35411 hown hK (at_P hI) 0 rfl rfl 0 (by decide) (hts _ tw_7_45) (fun _ h9 => h9) rfl dJx35411_hasNext_aae02_1 ?_
  refine lv_aload_n hx hb dJx35411_hasNext_aae02_4 rfl (lv_at hl 0 rfl) ?_
  refine va_get (D := G.1) (ci := 2) (C := RJx35411) (T := TJx35411) (N := 4) hx hb hts inJx35411 hown hK (at_P hI) 0 rfl rfl 3 (by decide) (hts _ tw_7_48) (fun _ h9 => h9) rfl dJx35411_hasNext_aae02_5 ?_
  refine va_getN (D := G.1) (ci := 3) (C := RJx4a65c) (T := TJx4a65c) (N := 3) hx hb hts inJx4a65c hown hK (at_P hO) 0 rfl rfl 2 (by decide) (va_Nw.use rfl hC.2.2.2.2.2.2.2.2.2.2.2.2.1) (fun _ h9 => h9) rfl dJx35411_hasNext_aae02_8 ?_
  refine b_eq (tgt := 18) hx hb dJx35411_hasNext_aae02_11 (by decide) (by omega) (by omega) (fun c_3 => ?_) (fun c_3 => ?_)
  · refine lv_iconst (v := nI 0) hx hb dJx35411_hasNext_aae02_18 (by decide) ?_
    exact p_z (b := false) hx hb hr hlocks dJx35411_hasNext_aae02_19 (by rw [decide_eq_false (fun q => q c_3)])
  · refine lv_iconst (v := nI 1) hx hb dJx35411_hasNext_aae02_14 (by decide) ?_
    refine lv_goto (tgt := 19) hx hb dJx35411_hasNext_aae02_15 (by decide) ?_
    exact p_z (b := true) hx hb hr hlocks dJx35411_hasNext_aae02_19 (by rw [decide_eq_true c_3])

abbrev rmJx35411_checkForComodification_da8c8 : Room := { frames := 1, cells := 0, slots := 0, locals := 20 }
theorem mJx35411_checkForComodification_da8c8 {l : Launch} {G : Cx} {A : Nat → Prop} {ia pa ed n cu : Nat} {md lr : Int32} : Met l yJx35411_checkForComodification_da8c8 (.code yJx35411_checkForComodification_da8c8 cJx35411_checkForComodification_da8c8 1 (none : Option Jvm.ClassFile.FieldType) :: GW) rmJx35411_checkForComodification_da8c8 (PC G A [.ref ia] (fun H => va_at G.1 vwCl (ia, .inr (2, [.int (nI cu), .int lr, .int md, .ref pa])) H ∧ va_at G.1 vwCl (pa, .inr (3, [.int md, .ref ed, .int (nI n)])) H)) (pV) 0 0 (fun _ => False) := by
  refine mstart "java/util/ArrayList$Itr" (by decide +kernel) rfl (Nat.le_of_ble_eq_true rfl) ?_
  intro p e s m below meth c ls hx hb hr hts hown hml hlocks hname hC hA hW hl
  have hl : lv_has ls 1 [(0, .ref ia)] := hl
  have hK := hC.1
  have hS : va_S A s.heap s.heap [] := va_S.rf
  obtain ⟨hI, hO⟩ := hW
  refine lv_aload_n hx hb dJx35411_checkForComodification_da8c8_0 rfl (lv_at hl 0 rfl) ?_
  refine va_get (D := G.1) (ci := 2) (C := RJx35411) (T := TJx35411) (N := 4) hx hb hts inJx35411 hown hK (at_P hI) 0 rfl rfl 3 (by decide) (hts _ tw_7_48) (fun _ h9 => h9) rfl dJx35411_checkForComodification_da8c8_1 ?_
  refine va_get (D := G.1) (ci := 3) (C := RJx4a65c) (T := TJx4a65c) (N := 3) hx hb hts inJx4a65c hown hK (at_P hO) 0 rfl rfl 0 (by decide) (hts _ tw_4_162) (fun x9 h9 => u_same (hts _ tw_4_163) x9 h9) rfl dJx35411_checkForComodification_da8c8_4 ?_
  refine lv_aload_n hx hb dJx35411_checkForComodification_da8c8_7 rfl (lv_at hl 0 rfl) ?_
  refine va_get (D := G.1) (ci := 2) (C := RJx35411) (T := TJx35411) (N := 4) hx hb hts inJx35411 hown hK (at_P hI) 0 rfl rfl 2 (by decide) (hts _ tw_7_47) (fun _ h9 => h9) rfl dJx35411_checkForComodification_da8c8_8 ?_
  refine lv_icmp_eq (tgt := 22) hx hb dJx35411_checkForComodification_da8c8_11 (by decide) (fun c_4 => ?_) (fun c_4 => ?_)
  · exact p_v hx hb hr hlocks dJx35411_checkForComodification_da8c8_22
  · exact absurd rfl c_4

abbrev rmJx35411_init_45d68 : Room := { frames := 1, cells := 0, slots := 0, locals := 20 }
theorem mJx35411_init_45d68 {l : Launch} {G : Cx} {A : Nat → Prop} {ia pa ed n : Nat} {md : Int32} (hAi : A ia) (hne : pa ≠ ia) : Met l yJx35411_init_45d68 (.code yJx35411_init_45d68 cJx35411_init_45d68 2 (none : Option Jvm.ClassFile.FieldType) :: GW) rmJx35411_init_45d68 (PC G A [.ref ia, .ref pa] (fun H => va_at G.1 vwCl (ia, .inr (2, [.int 0, .int 0, .int 0, .null])) H ∧ va_at G.1 vwCl (pa, .inr (3, [.int md, .ref ed, .int (nI n)])) H)) (qV A (fun H => va_at G.1 vwCl (ia, .inr (2, [.int 0, .int (-1), .int md, .ref pa])) H ∧ va_at G.1 vwCl (pa, .inr (3, [.int md, .ref ed, .int (nI n)])) H)) 0 0 (A) := by
  refine mstart "java/util/ArrayList$Itr" (by decide +kernel) rfl (Nat.le_of_ble_eq_true rfl) ?_
  intro p e s m below meth c ls hx hb hr hts hown hml hlocks hname hC hA hW hl
  have hl : lv_has ls 2 [(0, .ref ia), (1, .ref pa)] := hl
  have hK := hC.1
  have hS : va_S A s.heap s.heap [] := va_S.rf
  obtain ⟨hI, hO⟩ := hW
  refine lv_aload_n hx hb dJx35411_init_45d68_0 rfl (lv_at hl 0 rfl) ?_
  refine lv_aload_n hx hb dJx35411_init_45d68_1 rfl (lv_at hl 1 rfl) ?_
  refine h_putF (D := G.1) (ci := 2) (C := RJx35411) (T := TJx35411) (N := 4) hx hb hts inJx35411 tyJx35411 tyJx35411_ok nmJx35411 hown hK hI hS hAi rfl 3 (by decide) (hts _ tw_7_48) (fun _ h9 => h9) rfl hname rfl (tyJx35411_ok 3 (by decide)) rfl rfl (Nat.le_of_ble_eq_true rfl) dJx35411_init_45d68_2 (fun H5 L5 hI z5 o5 hS => ?_)
  have hI : va_at G.1 vwCl (ia, .inr (2, [.int 0, .int 0, .int 0, .ref pa])) H5 := hI
  have hO := at_o hO o5 hne
  have hZ5 := hS.1
  refine lv_aload_n hx hb dJx35411_init_45d68_5 rfl (lv_at hl 0 rfl) ?_
  refine W.objInit hx hb hown (hts _ tw_7_44) (hts _ tw_1_35) (hts _ tw_1_36) rfl (by rw [hml]; exact hl.1) rfl dJx35411_init_45d68_6 (Nat.le_of_ble_eq_true rfl) (Nat.le_of_ble_eq_true rfl) ?_
  refine W.eq (g2 := F0 m 9 ls []) rfl ?_
  refine lv_aload_n hx hb dJx35411_init_45d68_9 rfl (lv_at hl 0 rfl) ?_
  refine lv_iconst (v := (-1)) hx hb dJx35411_init_45d68_10 (by decide) ?_
  refine h_put (D := G.1) (ci := 2) (C := RJx35411) (T := TJx35411) (N := 4) hx hb hts inJx35411 tyJx35411 tyJx35411_ok nmJx35411 hown hK hI hS hAi rfl 1 (by decide) (hts _ tw_7_46) (fun _ h9 => h9) rfl (tyJx35411_ok 1 (by decide)) rfl rfl (Nat.le_of_ble_eq_true rfl) dJx35411_init_45d68_11 (fun H6 L6 hI z6 o6 hS => ?_)
  have hI : va_at G.1 vwCl (ia, .inr (2, [.int 0, .int (-1), .int 0, .ref pa])) H6 := hI
  have hO := at_o hO o6 hne
  have hZ6 := hS.1
  refine lv_aload_n hx hb dJx35411_init_45d68_14 rfl (lv_at hl 0 rfl) ?_
  refine lv_aload_n hx hb dJx35411_init_45d68_15 rfl (lv_at hl 0 rfl) ?_
  refine va_get (D := G.1) (ci := 2) (C := RJx35411) (T := TJx35411) (N := 4) hx hb hts inJx35411 hown hK (at_P hI) 0 rfl rfl 3 (by decide) (hts _ tw_7_48) (fun _ h9 => h9) rfl dJx35411_init_45d68_16 ?_
  refine va_get (D := G.1) (ci := 3) (C := RJx4a65c) (T := TJx4a65c) (N := 3) hx hb hts inJx4a65c hown hK (at_P hO) 0 rfl rfl 0 (by decide) (hts _ tw_4_162) (fun x9 h9 => u_same (hts _ tw_4_163) x9 h9) rfl dJx35411_init_45d68_19 ?_
  refine h_put (D := G.1) (ci := 2) (C := RJx35411) (T := TJx35411) (N := 4) hx hb hts inJx35411 tyJx35411 tyJx35411_ok nmJx35411 hown hK hI hS hAi rfl 2 (by decide) (hts _ tw_7_47) (fun _ h9 => h9) rfl (tyJx35411_ok 2 (by decide)) rfl rfl (Nat.le_of_ble_eq_true rfl) dJx35411_init_45d68_22 (fun H7 L7 hI z7 o7 hS => ?_)
  have hI : va_at G.1 vwCl (ia, .inr (2, [.int 0, .int (-1), .int md, .ref pa])) H7 := hI
  have hO := at_o hO o7 hne
  have hZ7 := hS.1
  exact q_v hx hb hr hlocks dJx35411_init_45d68_25 hS (Nat.le_refl _) (Nat.le_refl _) ⟨hI, hO⟩

abbrev rmJx4a65c_iterator_32c93 : Room := { frames := 2, cells := 1, slots := 4, locals := 41 }
theorem mJx4a65c_iterator_32c93 {l : Launch} {G : Cx} {A : Nat → Prop} {pa ed n : Nat} {md : Int32} : Met l yJx4a65c_iterator_32c93 (.code yJx4a65c_iterator_32c93 cJx4a65c_iterator_32c93 1 (some (.object "java/util/Iterator")) :: GW) rmJx4a65c_iterator_32c93 (PC G A [.ref pa] (fun H => va_at G.1 vwCl (pa, .inr (3, [.int md, .ref ed, .int (nI n)])) H)) (qR A (fun ia H => A ia ∧ va_at G.1 vwCl (ia, .inr (2, [.int 0, .int (-1), .int md, .ref pa])) H ∧ va_at G.1 vwCl (pa, .inr (3, [.int md, .ref ed, .int (nI n)])) H)) 1 4 (A) := by
  refine mstart "java/util/ArrayList" (by decide +kernel) rfl (Nat.le_of_ble_eq_true rfl) ?_
  intro p e s m below meth c ls hx hb hr hts hown hml hlocks hname hC hA hW hl
  have hl : lv_has ls 1 [(0, .ref pa)] := hl
  have hK := hC.1
  have hS : va_S A s.heap s.heap [] := va_S.rf
  have hO := hW
  refine h_new (D := G.1) (C := RJx35411) (T := TJx35411) (N := 4) (ci := 2) (fs := [.int 0, .int 0, .int 0, .null]) hx hb hts inJx35411 tyJx35411 tyJx35411_ok hown (hts _ tw_7_39) (hts _ tw_7_40) (hts _ tw_1_28) hK hS rfl (fun j hj => match j, hj with | 0, _ => rfl | 1, _ => rfl | 2, _ => rfl | 3, _ => rfl) (Nat.le_trans (show 0 + 1 ≤ 1 by omega) (Nat.le_of_ble_eq_true rfl)) (Nat.le_trans (show 0 + 4 ≤ 4 by omega) (Nat.le_of_ble_eq_true rfl)) dJx4a65c_iterator_32c93_0 (fun ia H8 hia hOia z8 o8 hS => ?_)
  have n8hO : pa ≠ ia := fun q => absurd hO.lt (by rw [q, hia]; exact Nat.lt_irrefl _)
  have hO := at_n hO o8
  have hZ8 := hS.1
  have hMia : A ia := hA ia (by omega)
  refine lv_dup hx hb dJx4a65c_iterator_32c93_3 rfl ?_
  refine lv_aload_n hx hb dJx4a65c_iterator_32c93_4 rfl (lv_at hl 0 rfl) ?_
  refine qV_I (A := A) (A1 := ow ia ia H8.size) (b := ia) (As := [.ref pa]) (rest := .ref ia :: []) ⟨hx, hb, hml, hown, hts⟩ (mJx35411_init_45d68 (A := ow ia ia H8.size) (md := md) (n := n) (ed := ed) (Or.inl rfl) n8hO) (cwI 1 hts (gI tw_7_43) rfl rfl rfl (hts _ tw_1_28) (hts _ tw_7_41) (hts _ tw_7_42) rfl (by decide +kernel) ⟨Nat.le_of_ble_eq_true rfl, Nat.le_of_ble_eq_true rfl⟩) hC hS (ow_in hMia hMia hA (by omega)) ow_n  ⟨hOia, hO⟩ rfl rfl hl.1 (Nat.le_of_ble_eq_true rfl) ⟨Nat.le_trans (show (0 + 1) ≤ 1 by omega) (Nat.le_of_ble_eq_true rfl), Nat.le_trans (show (0 + 4) ≤ 4 by omega) (Nat.le_of_ble_eq_true rfl)⟩ dJx4a65c_iterator_32c93_5 (fun H9 L9 hP9 hk9 hS => ?_)
  have hZ9 := hS.1
  exact q_a hx hb hr (Or.inl ⟨_, rfl⟩) hlocks dJx4a65c_iterator_32c93_8 hS (by omega) (by omega) ⟨hMia, hP9⟩

abbrev rmJx35411_next_0502b : Room := { frames := 2, cells := 0, slots := 0, locals := 40 }
theorem mJx35411_next_0502b {l : Launch} {G : Cx} {A : Nat → Prop} {ia pa ed n cap cu q : Nat} {md lr : Int32} {f : Nat → Option Nat} (hAi : A ia) (hj : cu < n) (hnc : n ≤ cap) (hc31 : cap < 2 ^ 31) (hf : f cu = some q) (d1 : pa ≠ ia) (d2 : ed ≠ ia) : Met l yJx35411_next_0502b (.code yJx35411_next_0502b cJx35411_next_0502b 3 (some (.object "java/lang/Object")) :: GW) rmJx35411_next_0502b (PC G A [.ref ia] (fun H => va_at G.1 vwCl (ia, .inr (2, [.int (nI cu), .int lr, .int md, .ref pa])) H ∧ va_at G.1 vwCl (pa, .inr (3, [.int md, .ref ed, .int (nI n)])) H ∧ va_at G.1 vwCl (ed, .inl (G.2.1 5, cap, .inr (.inr (.inr (.inr f))))) H)) (qR A (fun r H => r = q ∧ va_at G.1 vwCl (ia, .inr (2, [.int (nI (cu + 1)), .int (nI cu), .int md, .ref pa])) H ∧ va_at G.1 vwCl (pa, .inr (3, [.int md, .ref ed, .int (nI n)])) H ∧ va_at G.1 vwCl (ed, .inl (G.2.1 5, cap, .inr (.inr (.inr (.inr f))))) H)) 0 0 (A) := by
  refine mstart "java/util/ArrayList$Itr" (by decide +kernel) rfl (Nat.le_of_ble_eq_true rfl) ?_
  intro p e s m below meth c ls hx hb hr hts hown hml hlocks hname hC hA hW hl
  have hl : lv_has ls 3 [(0, .ref ia)] := hl
  have hK := hC.1
  have hS : va_S A s.heap s.heap [] := va_S.rf
  obtain ⟨hI, hO, hE⟩ := hW
  refine lv_aload_n hx hb dJx35411_next_0502b_0 rfl (lv_at hl 0 rfl) ?_
  refine kV_v (A := A) (b := ia) (As := []) (rest := []) ⟨hx, hb, hml, hown, hts⟩ (mJx35411_checkForComodification_da8c8 (A := A) (cu := cu) (lr := lr) (md := md) (ed := ed) (n := n)) (cwV 0 hts (gV tw_7_77 tw_7_78 tw_7_79 tw_1_28 tw_7_80) rfl rfl rfl (by decide +kernel) ⟨Nat.le_of_ble_eq_true rfl, Nat.le_of_ble_eq_true rfl⟩) hC hS hA (at_recv hK hI (q := (RJx35411, TJx35411, 4)) rfl) ⟨hI, hO⟩ rfl rfl hl.1 (Nat.le_of_ble_eq_true rfl) ⟨Nat.zero_le _, Nat.zero_le _⟩ dJx35411_next_0502b_1 ?_
  refine lv_aload_n hx hb dJx35411_next_0502b_4 rfl (lv_at hl 0 rfl) ?_
  refine va_get (D := G.1) (ci := 2) (C := RJx35411) (T := TJx35411) (N := 4) hx hb hts inJx35411 hown hK (at_P hI) 0 rfl rfl 0 (by decide) (hts _ tw_7_45) (fun _ h9 => h9) rfl dJx35411_next_0502b_5 ?_
  refine lv_istore_n (lv' := [(1, .int (nI cu)), (0, .ref ia)]) hx hb dJx35411_next_0502b_8 rfl hl (by decide) rfl (fun ls hl => ?_)
  refine lv_iload_n hx hb dJx35411_next_0502b_9 rfl (lv_at hl 0 rfl) ?_
  refine lv_aload_n hx hb dJx35411_next_0502b_10 rfl (lv_at hl 1 rfl) ?_
  refine va_get (D := G.1) (ci := 2) (C := RJx35411) (T := TJx35411) (N := 4) hx hb hts inJx35411 hown hK (at_P hI) 0 rfl rfl 3 (by decide) (hts _ tw_7_48) (fun _ h9 => h9) rfl dJx35411_next_0502b_11 ?_
  refine va_getN (D := G.1) (ci := 3) (C := RJx4a65c) (T := TJx4a65c) (N := 3) hx hb hts inJx4a65c hown hK (at_P hO) 0 rfl rfl 2 (by decide) (va_Nw.use rfl hC.2.2.2.2.2.2.2.2.2.2.2.2.1) (fun _ h9 => h9) rfl dJx35411_next_0502b_14 ?_
  refine b_lt (tgt := 28) hx hb dJx35411_next_0502b_17 (by decide) (by omega) (by omega) (fun c_10 => ?_) (fun c_10 => ?_)
  · refine lv_aload_n hx hb dJx35411_next_0502b_28 rfl (lv_at hl 1 rfl) ?_
    refine va_get (D := G.1) (ci := 2) (C := RJx35411) (T := TJx35411) (N := 4) hx hb hts inJx35411 hown hK (at_P hI) 0 rfl rfl 3 (by decide) (hts _ tw_7_48) (fun _ h9 => h9) rfl dJx35411_next_0502b_29 ?_
    refine va_get (D := G.1) (ci := 3) (C := RJx4a65c) (T := TJx4a65c) (N := 3) hx hb hts inJx4a65c hown hK (at_P hO) 0 rfl rfl 1 (by decide) (hts _ tw_4_158) (fun _ h9 => h9) rfl dJx35411_next_0502b_32 ?_
    refine lv_astore_n (lv' := [(2, .ref ed), (1, .int (nI cu)), (0, .ref ia)]) hx hb dJx35411_next_0502b_35 rfl hl (by decide) rfl (fun ls hl => ?_)
    refine lv_iload_n hx hb dJx35411_next_0502b_36 rfl (lv_at hl 1 rfl) ?_
    refine lv_aload_n hx hb dJx35411_next_0502b_37 rfl (lv_at hl 0 rfl) ?_
    refine va_alen hx hb hK (at_P hE) 0 5 (v := nI cap) rfl rfl rfl dJx35411_next_0502b_38 ?_
    refine b_lt (tgt := 50) hx hb dJx35411_next_0502b_39 (by decide) (by omega) (by omega) (fun c_11 => ?_) (fun c_11 => ?_)
    · refine lv_aload_n hx hb dJx35411_next_0502b_50 rfl (lv_at hl 2 rfl) ?_
      refine lv_iload_n hx hb dJx35411_next_0502b_51 rfl (lv_at hl 1 rfl) ?_
      refine lv_iconst (v := nI 1) hx hb dJx35411_next_0502b_52 (by decide) ?_
      refine lv_iadd hx hb dJx35411_next_0502b_53 ?_
      refine lv_cv (nI_add cu 1) ?_
      refine h_put (D := G.1) (ci := 2) (C := RJx35411) (T := TJx35411) (N := 4) hx hb hts inJx35411 tyJx35411 tyJx35411_ok nmJx35411 hown hK hI hS hAi rfl 0 (by decide) (hts _ tw_7_45) (fun _ h9 => h9) rfl (tyJx35411_ok 0 (by decide)) rfl rfl (Nat.le_of_ble_eq_true rfl) dJx35411_next_0502b_54 (fun H12 L12 hI z12 o12 hS => ?_)
      have hI : va_at G.1 vwCl (ia, .inr (2, [.int (nI (cu + 1)), .int lr, .int md, .ref pa])) H12 := hI
      have hO := at_o hO o12 d1
      have hE := at_o hE o12 d2
      have hZ12 := hS.1
      refine lv_aload_n hx hb dJx35411_next_0502b_57 rfl (lv_at hl 0 rfl) ?_
      refine lv_aload_n hx hb dJx35411_next_0502b_58 rfl (lv_at hl 2 rfl) ?_
      refine lv_iload_n hx hb dJx35411_next_0502b_59 rfl (lv_at hl 1 rfl) ?_
      refine lv_dup_x1 hx hb dJx35411_next_0502b_60 rfl rfl ?_
      refine h_put (D := G.1) (ci := 2) (C := RJx35411) (T := TJx35411) (N := 4) hx hb hts inJx35411 tyJx35411 tyJx35411_ok nmJx35411 hown hK hI hS hAi rfl 1 (by decide) (hts _ tw_7_46) (fun _ h9 => h9) rfl (tyJx35411_ok 1 (by decide)) rfl rfl (Nat.le_of_ble_eq_true rfl) dJx35411_next_0502b_61 (fun H13 L13 hI z13 o13 hS => ?_)
      have hI : va_at G.1 vwCl (ia, .inr (2, [.int (nI (cu + 1)), .int (nI cu), .int md, .ref pa])) H13 := hI
      have hO := at_o hO o13 d1
      have hE := at_o hE o13 d2
      have hZ13 := hS.1
      refine va_aldq (D := G.1) hx hb hK (at_P hE) 0 5 rfl rfl (vp_in_nI (n := cu) (N := cap) (by omega) (by omega)) dJx35411_next_0502b_64 ?_
      refine v_cv (show va_rf _ = .ref q from by rw [nI_clamp (n := cu) (by omega), hf]; rfl) ?_
      exact q_a hx hb hr (Or.inl ⟨_, rfl⟩) hlocks dJx35411_next_0502b_65 hS (Nat.le_refl _) (Nat.le_refl _) ⟨rfl, hI, hO, hE⟩
    · exact absurd c_11 (by omega)
  · exact absurd c_10 (by omega)
