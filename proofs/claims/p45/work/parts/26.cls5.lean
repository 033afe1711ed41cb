/-! The class, 5: calls that ask -/
def sgI (x : Int32) : Int32 := if x < 0 then -1 else if x = 0 then 0 else 1
theorem dX2_length_0 : decode cX2_length 0 = .ok (.aload_n 0, 1) := by decide +kernel
theorem dX2_length_1 : decode cX2_length 1 = .ok (.iload_n 1, 1) := by decide +kernel
theorem dX2_length_2 : decode cX2_length 2 = .ok (.invokevirtual 51, 3) := by decide +kernel
theorem dX2_length_5 : decode cX2_length 5 = .ok (.invokevirtual 66, 3) := by decide +kernel
theorem dX2_length_8 : decode cX2_length 8 = .ok (.ireturn, 1) := by decide +kernel
theorem dX2_at_0 : decode cX2_at 0 = .ok (.aload_n 0, 1) := by decide +kernel
theorem dX2_at_1 : decode cX2_at 1 = .ok (.iload_n 1, 1) := by decide +kernel
theorem dX2_at_2 : decode cX2_at 2 = .ok (.invokevirtual 51, 3) := by decide +kernel
theorem dX2_at_5 : decode cX2_at 5 = .ok (.astore_n 3, 1) := by decide +kernel
theorem dX2_at_6 : decode cX2_at 6 = .ok (.aload_n 3, 1) := by decide +kernel
theorem dX2_at_7 : decode cX2_at 7 = .ok (.iload_n 2, 1) := by decide +kernel
theorem dX2_at_8 : decode cX2_at 8 = .ok (.invokestatic 125, 3) := by decide +kernel
theorem dX2_at_11 : decode cX2_at 11 = .ok (.aload_n 3, 1) := by decide +kernel
theorem dX2_at_12 : decode cX2_at 12 = .ok (.iload_n 2, 1) := by decide +kernel
theorem dX2_at_13 : decode cX2_at 13 = .ok (.invokevirtual 128, 3) := by decide +kernel
theorem dX2_at_16 : decode cX2_at 16 = .ok (.ireturn, 1) := by decide +kernel
theorem dX2_isEmpty_0 : decode cX2_isEmpty 0 = .ok (.aload_n 0, 1) := by decide +kernel
theorem dX2_isEmpty_1 : decode cX2_isEmpty 1 = .ok (.iload_n 1, 1) := by decide +kernel
theorem dX2_isEmpty_2 : decode cX2_isEmpty 2 = .ok (.invokevirtual 51, 3) := by decide +kernel
theorem dX2_isEmpty_5 : decode cX2_isEmpty 5 = .ok (.invokevirtual 66, 3) := by decide +kernel
theorem dX2_isEmpty_8 : decode cX2_isEmpty 8 = .ok (.ifCond .ne 7, 3) := by decide +kernel
theorem dX2_isEmpty_11 : decode cX2_isEmpty 11 = .ok (.iconst 1, 1) := by decide +kernel
theorem dX2_isEmpty_12 : decode cX2_isEmpty 12 = .ok (.goto 4, 3) := by decide +kernel
theorem dX2_isEmpty_15 : decode cX2_isEmpty 15 = .ok (.iconst 0, 1) := by decide +kernel
theorem dX2_isEmpty_16 : decode cX2_isEmpty 16 = .ok (.ireturn, 1) := by decide +kernel
theorem dX2_isBlank_0 : decode cX2_isBlank 0 = .ok (.aload_n 0, 1) := by decide +kernel
theorem dX2_isBlank_1 : decode cX2_isBlank 1 = .ok (.iload_n 1, 1) := by decide +kernel
theorem dX2_isBlank_2 : decode cX2_isBlank 2 = .ok (.invokevirtual 51, 3) := by decide +kernel
theorem dX2_isBlank_5 : decode cX2_isBlank 5 = .ok (.invokevirtual 150, 3) := by decide +kernel
theorem dX2_isBlank_8 : decode cX2_isBlank 8 = .ok (.ireturn, 1) := by decide +kernel
theorem dX2_hash_0 : decode cX2_hash 0 = .ok (.aload_n 0, 1) := by decide +kernel
theorem dX2_hash_1 : decode cX2_hash 1 = .ok (.iload_n 1, 1) := by decide +kernel
theorem dX2_hash_2 : decode cX2_hash 2 = .ok (.invokevirtual 51, 3) := by decide +kernel
theorem dX2_hash_5 : decode cX2_hash 5 = .ok (.invokevirtual 154, 3) := by decide +kernel
theorem dX2_hash_8 : decode cX2_hash 8 = .ok (.ireturn, 1) := by decide +kernel
theorem dX2_first_0 : decode cX2_first 0 = .ok (.aload_n 0, 1) := by decide +kernel
theorem dX2_first_1 : decode cX2_first 1 = .ok (.iload_n 1, 1) := by decide +kernel
theorem dX2_first_2 : decode cX2_first 2 = .ok (.invokevirtual 51, 3) := by decide +kernel
theorem dX2_first_5 : decode cX2_first 5 = .ok (.astore_n 3, 1) := by decide +kernel
theorem dX2_first_6 : decode cX2_first 6 = .ok (.aload_n 3, 1) := by decide +kernel
theorem dX2_first_7 : decode cX2_first 7 = .ok (.iload_n 2, 1) := by decide +kernel
theorem dX2_first_8 : decode cX2_first 8 = .ok (.invokestatic 115, 3) := by decide +kernel
theorem dX2_first_11 : decode cX2_first 11 = .ok (.iconst 0, 1) := by decide +kernel
theorem dX2_first_12 : decode cX2_first 12 = .ok (.invokevirtual 157, 3) := by decide +kernel
theorem dX2_first_15 : decode cX2_first 15 = .ok (.ireturn, 1) := by decide +kernel
theorem dX2_last_0 : decode cX2_last 0 = .ok (.aload_n 0, 1) := by decide +kernel
theorem dX2_last_1 : decode cX2_last 1 = .ok (.iload_n 1, 1) := by decide +kernel
theorem dX2_last_2 : decode cX2_last 2 = .ok (.invokevirtual 51, 3) := by decide +kernel
theorem dX2_last_5 : decode cX2_last 5 = .ok (.astore_n 3, 1) := by decide +kernel
theorem dX2_last_6 : decode cX2_last 6 = .ok (.aload_n 3, 1) := by decide +kernel
theorem dX2_last_7 : decode cX2_last 7 = .ok (.iload_n 2, 1) := by decide +kernel
theorem dX2_last_8 : decode cX2_last 8 = .ok (.invokestatic 115, 3) := by decide +kernel
theorem dX2_last_11 : decode cX2_last 11 = .ok (.invokevirtual 161, 3) := by decide +kernel
theorem dX2_last_14 : decode cX2_last 14 = .ok (.ireturn, 1) := by decide +kernel
theorem dX2_next_0 : decode cX2_next 0 = .ok (.aload_n 0, 1) := by decide +kernel
theorem dX2_next_1 : decode cX2_next 1 = .ok (.iload_n 1, 1) := by decide +kernel
theorem dX2_next_2 : decode cX2_next 2 = .ok (.invokevirtual 51, 3) := by decide +kernel
theorem dX2_next_5 : decode cX2_next 5 = .ok (.astore 4, 2) := by decide +kernel
theorem dX2_next_7 : decode cX2_next 7 = .ok (.aload 4, 2) := by decide +kernel
theorem dX2_next_9 : decode cX2_next 9 = .ok (.iload_n 2, 1) := by decide +kernel
theorem dX2_next_10 : decode cX2_next 10 = .ok (.invokestatic 77, 3) := by decide +kernel
theorem dX2_next_13 : decode cX2_next 13 = .ok (.aload 4, 2) := by decide +kernel
theorem dX2_next_15 : decode cX2_next 15 = .ok (.iload_n 3, 1) := by decide +kernel
theorem dX2_next_16 : decode cX2_next 16 = .ok (.invokestatic 115, 3) := by decide +kernel
theorem dX2_next_19 : decode cX2_next 19 = .ok (.iload_n 2, 1) := by decide +kernel
theorem dX2_next_20 : decode cX2_next 20 = .ok (.invokevirtual 157, 3) := by decide +kernel
theorem dX2_next_23 : decode cX2_next 23 = .ok (.ireturn, 1) := by decide +kernel
theorem dX2_begins_0 : decode cX2_begins 0 = .ok (.aload_n 0, 1) := by decide +kernel
theorem dX2_begins_1 : decode cX2_begins 1 = .ok (.iload_n 1, 1) := by decide +kernel
theorem dX2_begins_2 : decode cX2_begins 2 = .ok (.invokevirtual 51, 3) := by decide +kernel
theorem dX2_begins_5 : decode cX2_begins 5 = .ok (.astore 4, 2) := by decide +kernel
theorem dX2_begins_7 : decode cX2_begins 7 = .ok (.aload_n 0, 1) := by decide +kernel
theorem dX2_begins_8 : decode cX2_begins 8 = .ok (.iload_n 2, 1) := by decide +kernel
theorem dX2_begins_9 : decode cX2_begins 9 = .ok (.invokevirtual 122, 3) := by decide +kernel
theorem dX2_begins_12 : decode cX2_begins 12 = .ok (.astore 5, 2) := by decide +kernel
theorem dX2_begins_14 : decode cX2_begins 14 = .ok (.aload 4, 2) := by decide +kernel
theorem dX2_begins_16 : decode cX2_begins 16 = .ok (.aload 5, 2) := by decide +kernel
theorem dX2_begins_18 : decode cX2_begins 18 = .ok (.iload_n 3, 1) := by decide +kernel
theorem dX2_begins_19 : decode cX2_begins 19 = .ok (.ifCond .eq 17, 3) := by decide +kernel
theorem dX2_begins_22 : decode cX2_begins 22 = .ok (.aload 4, 2) := by decide +kernel
theorem dX2_begins_24 : decode cX2_begins 24 = .ok (.invokevirtual 66, 3) := by decide +kernel
theorem dX2_begins_27 : decode cX2_begins 27 = .ok (.aload 5, 2) := by decide +kernel
theorem dX2_begins_29 : decode cX2_begins 29 = .ok (.invokevirtual 66, 3) := by decide +kernel
theorem dX2_begins_32 : decode cX2_begins 32 = .ok (.isub, 1) := by decide +kernel
theorem dX2_begins_33 : decode cX2_begins 33 = .ok (.goto 4, 3) := by decide +kernel
theorem dX2_begins_36 : decode cX2_begins 36 = .ok (.iconst 0, 1) := by decide +kernel
theorem dX2_begins_37 : decode cX2_begins 37 = .ok (.iconst 0, 1) := by decide +kernel
theorem dX2_begins_38 : decode cX2_begins 38 = .ok (.invokevirtual 164, 3) := by decide +kernel
theorem dX2_begins_41 : decode cX2_begins 41 = .ok (.ireturn, 1) := by decide +kernel
theorem dX2_stands_0 : decode cX2_stands 0 = .ok (.aload_n 0, 1) := by decide +kernel
theorem dX2_stands_1 : decode cX2_stands 1 = .ok (.iload_n 1, 1) := by decide +kernel
theorem dX2_stands_2 : decode cX2_stands 2 = .ok (.invokevirtual 51, 3) := by decide +kernel
theorem dX2_stands_5 : decode cX2_stands 5 = .ok (.astore 5, 2) := by decide +kernel
theorem dX2_stands_7 : decode cX2_stands 7 = .ok (.aload 5, 2) := by decide +kernel
theorem dX2_stands_9 : decode cX2_stands 9 = .ok (.aload_n 0, 1) := by decide +kernel
theorem dX2_stands_10 : decode cX2_stands 10 = .ok (.iload_n 3, 1) := by decide +kernel
theorem dX2_stands_11 : decode cX2_stands 11 = .ok (.invokevirtual 122, 3) := by decide +kernel
theorem dX2_stands_14 : decode cX2_stands 14 = .ok (.iload_n 2, 1) := by decide +kernel
theorem dX2_stands_15 : decode cX2_stands 15 = .ok (.iload 4, 2) := by decide +kernel
theorem dX2_stands_17 : decode cX2_stands 17 = .ok (.invokevirtual 164, 3) := by decide +kernel
theorem dX2_stands_20 : decode cX2_stands 20 = .ok (.ireturn, 1) := by decide +kernel
theorem dX2_firstOf_0 : decode cX2_firstOf 0 = .ok (.aload_n 0, 1) := by decide +kernel
theorem dX2_firstOf_1 : decode cX2_firstOf 1 = .ok (.iload_n 1, 1) := by decide +kernel
theorem dX2_firstOf_2 : decode cX2_firstOf 2 = .ok (.invokevirtual 51, 3) := by decide +kernel
theorem dX2_firstOf_5 : decode cX2_firstOf 5 = .ok (.aload_n 0, 1) := by decide +kernel
theorem dX2_firstOf_6 : decode cX2_firstOf 6 = .ok (.iload_n 2, 1) := by decide +kernel
theorem dX2_firstOf_7 : decode cX2_firstOf 7 = .ok (.invokevirtual 51, 3) := by decide +kernel
theorem dX2_firstOf_10 : decode cX2_firstOf 10 = .ok (.invokevirtual 168, 3) := by decide +kernel
theorem dX2_firstOf_13 : decode cX2_firstOf 13 = .ok (.ireturn, 1) := by decide +kernel
theorem dX2_lastOf_0 : decode cX2_lastOf 0 = .ok (.aload_n 0, 1) := by decide +kernel
theorem dX2_lastOf_1 : decode cX2_lastOf 1 = .ok (.iload_n 1, 1) := by decide +kernel
theorem dX2_lastOf_2 : decode cX2_lastOf 2 = .ok (.invokevirtual 51, 3) := by decide +kernel
theorem dX2_lastOf_5 : decode cX2_lastOf 5 = .ok (.aload_n 0, 1) := by decide +kernel
theorem dX2_lastOf_6 : decode cX2_lastOf 6 = .ok (.iload_n 2, 1) := by decide +kernel
theorem dX2_lastOf_7 : decode cX2_lastOf 7 = .ok (.invokevirtual 51, 3) := by decide +kernel
theorem dX2_lastOf_10 : decode cX2_lastOf 10 = .ok (.invokevirtual 172, 3) := by decide +kernel
theorem dX2_lastOf_13 : decode cX2_lastOf 13 = .ok (.ireturn, 1) := by decide +kernel
theorem dX2_isIn_0 : decode cX2_isIn 0 = .ok (.aload_n 0, 1) := by decide +kernel
theorem dX2_isIn_1 : decode cX2_isIn 1 = .ok (.iload_n 1, 1) := by decide +kernel
theorem dX2_isIn_2 : decode cX2_isIn 2 = .ok (.invokevirtual 51, 3) := by decide +kernel
theorem dX2_isIn_5 : decode cX2_isIn 5 = .ok (.aload_n 0, 1) := by decide +kernel
theorem dX2_isIn_6 : decode cX2_isIn 6 = .ok (.iload_n 2, 1) := by decide +kernel
theorem dX2_isIn_7 : decode cX2_isIn 7 = .ok (.invokevirtual 51, 3) := by decide +kernel
theorem dX2_isIn_10 : decode cX2_isIn 10 = .ok (.invokevirtual 175, 3) := by decide +kernel
theorem dX2_isIn_13 : decode cX2_isIn 13 = .ok (.ireturn, 1) := by decide +kernel
theorem dX2_isSame_0 : decode cX2_isSame 0 = .ok (.aload_n 0, 1) := by decide +kernel
theorem dX2_isSame_1 : decode cX2_isSame 1 = .ok (.iload_n 1, 1) := by decide +kernel
theorem dX2_isSame_2 : decode cX2_isSame 2 = .ok (.invokevirtual 51, 3) := by decide +kernel
theorem dX2_isSame_5 : decode cX2_isSame 5 = .ok (.aload_n 0, 1) := by decide +kernel
theorem dX2_isSame_6 : decode cX2_isSame 6 = .ok (.iload_n 2, 1) := by decide +kernel
theorem dX2_isSame_7 : decode cX2_isSame 7 = .ok (.invokevirtual 51, 3) := by decide +kernel
theorem dX2_isSame_10 : decode cX2_isSame 10 = .ok (.iload_n 3, 1) := by decide +kernel
theorem dX2_isSame_11 : decode cX2_isSame 11 = .ok (.invokevirtual 179, 3) := by decide +kernel
theorem dX2_isSame_14 : decode cX2_isSame 14 = .ok (.ireturn, 1) := by decide +kernel
theorem dX2_order_0 : decode cX2_order 0 = .ok (.aload_n 0, 1) := by decide +kernel
theorem dX2_order_1 : decode cX2_order 1 = .ok (.iload_n 1, 1) := by decide +kernel
theorem dX2_order_2 : decode cX2_order 2 = .ok (.invokevirtual 51, 3) := by decide +kernel
theorem dX2_order_5 : decode cX2_order 5 = .ok (.aload_n 0, 1) := by decide +kernel
theorem dX2_order_6 : decode cX2_order 6 = .ok (.iload_n 2, 1) := by decide +kernel
theorem dX2_order_7 : decode cX2_order 7 = .ok (.invokevirtual 51, 3) := by decide +kernel
theorem dX2_order_10 : decode cX2_order 10 = .ok (.iconst 0, 1) := by decide +kernel
theorem dX2_order_11 : decode cX2_order 11 = .ok (.invokevirtual 183, 3) := by decide +kernel
theorem dX2_order_14 : decode cX2_order 14 = .ok (.ireturn, 1) := by decide +kernel
theorem dX2_orderLike_0 : decode cX2_orderLike 0 = .ok (.aload_n 0, 1) := by decide +kernel
theorem dX2_orderLike_1 : decode cX2_orderLike 1 = .ok (.iload_n 1, 1) := by decide +kernel
theorem dX2_orderLike_2 : decode cX2_orderLike 2 = .ok (.invokevirtual 51, 3) := by decide +kernel
theorem dX2_orderLike_5 : decode cX2_orderLike 5 = .ok (.aload_n 0, 1) := by decide +kernel
theorem dX2_orderLike_6 : decode cX2_orderLike 6 = .ok (.iload_n 2, 1) := by decide +kernel
theorem dX2_orderLike_7 : decode cX2_orderLike 7 = .ok (.invokevirtual 51, 3) := by decide +kernel
theorem dX2_orderLike_10 : decode cX2_orderLike 10 = .ok (.iconst 1, 1) := by decide +kernel
theorem dX2_orderLike_11 : decode cX2_orderLike 11 = .ok (.invokevirtual 183, 3) := by decide +kernel
theorem dX2_orderLike_14 : decode cX2_orderLike 14 = .ok (.invokestatic 186, 3) := by decide +kernel
theorem dX2_orderLike_17 : decode cX2_orderLike 17 = .ok (.ireturn, 1) := by decide +kernel
theorem dX2_rowAt_0 : decode cX2_rowAt 0 = .ok (.aload_n 0, 1) := by decide +kernel
theorem dX2_rowAt_1 : decode cX2_rowAt 1 = .ok (.getfield 19, 3) := by decide +kernel
theorem dX2_rowAt_4 : decode cX2_rowAt 4 = .ok (.iload_n 1, 1) := by decide +kernel
theorem dX2_rowAt_5 : decode cX2_rowAt 5 = .ok (.invokestatic 125, 3) := by decide +kernel
theorem dX2_rowAt_8 : decode cX2_rowAt 8 = .ok (.aload_n 0, 1) := by decide +kernel
theorem dX2_rowAt_9 : decode cX2_rowAt 9 = .ok (.getfield 19, 3) := by decide +kernel
theorem dX2_rowAt_12 : decode cX2_rowAt 12 = .ok (.iload_n 1, 1) := by decide +kernel
theorem dX2_rowAt_13 : decode cX2_rowAt 13 = .ok (.invokevirtual 128, 3) := by decide +kernel
theorem dX2_rowAt_16 : decode cX2_rowAt 16 = .ok (.ireturn, 1) := by decide +kernel
theorem dX2_directionOf_0 : decode cX2_directionOf 0 = .ok (.iload_n 0, 1) := by decide +kernel
theorem dX2_directionOf_1 : decode cX2_directionOf 1 = .ok (.iconst 0, 1) := by decide +kernel
theorem dX2_directionOf_2 : decode cX2_directionOf 2 = .ok (.invokestatic 259, 3) := by decide +kernel
theorem dX2_directionOf_5 : decode cX2_directionOf 5 = .ok (.ireturn, 1) := by decide +kernel
theorem dJ6_compare_7cf53_0 : decode cJ6_compare_7cf53 0 = .ok (.iload_n 0, 1) := by decide +kernel
theorem dJ6_compare_7cf53_1 : decode cJ6_compare_7cf53 1 = .ok (.iload_n 1, 1) := by decide +kernel
theorem dJ6_compare_7cf53_2 : decode cJ6_compare_7cf53 2 = .ok (.if_icmp .ge 7, 3) := by decide +kernel
theorem dJ6_compare_7cf53_5 : decode cJ6_compare_7cf53 5 = .ok (.iconst (-1), 1) := by decide +kernel
theorem dJ6_compare_7cf53_6 : decode cJ6_compare_7cf53 6 = .ok (.goto 13, 3) := by decide +kernel
theorem dJ6_compare_7cf53_9 : decode cJ6_compare_7cf53 9 = .ok (.iload_n 0, 1) := by decide +kernel
theorem dJ6_compare_7cf53_10 : decode cJ6_compare_7cf53 10 = .ok (.iload_n 1, 1) := by decide +kernel
theorem dJ6_compare_7cf53_11 : decode cJ6_compare_7cf53 11 = .ok (.if_icmp .ne 7, 3) := by decide +kernel
theorem dJ6_compare_7cf53_14 : decode cJ6_compare_7cf53 14 = .ok (.iconst 0, 1) := by decide +kernel
theorem dJ6_compare_7cf53_15 : decode cJ6_compare_7cf53 15 = .ok (.goto 4, 3) := by decide +kernel
theorem dJ6_compare_7cf53_18 : decode cJ6_compare_7cf53 18 = .ok (.iconst 1, 1) := by decide +kernel
theorem dJ6_compare_7cf53_19 : decode cJ6_compare_7cf53 19 = .ok (.ireturn, 1) := by decide +kernel
abbrev rmX2_length : Room := { frames := 7, cells := 1, slots := 6, locals := 110 }
theorem mX2_length {l : Launch} {G : Cx} {A : Nat → Prop} (hst : l.stackTraces = false) {SA : Nat → Nat} {X : Nat → List Nat} {es : List Nat} {k : Int32} {x : Int32} (hAS : ∀ i : Nat, i < 39 → A (SA i)) : vx_Met l yX2_length (.code yX2_length cX2_length 2 (some .int) :: GW) rmX2_length (PC G A [.ref (SA 0), .int x] (SS G SA X es k)) (qI A (fun r H => ∃ i : Nat, i < 4 ∧ x = nI i ∧ r = nI (X i).length ∧ SS G SA X es k H)) (xE A (fun E H => (E = "java/lang/IndexOutOfBoundsException" ∧ NT x) ∧ SS G SA X es k H)) 1 6 A := by
  refine mstartX "Signtext" (by decide +kernel) rfl (Nat.le_of_ble_eq_true rfl) ?_
  intro p e s m below meth c ls hx hb hr hts hown hml hlocks hnx hC hA hW hl
  have hl : lv_has ls 2 [(0, .ref (SA 0)), (1, .int x)] := hl
  have hK := hC.1
  have hS : va_S A s.heap s.heap [] := va_S.rf
  obtain ⟨T, es2, hW, hF⟩ := hW
  have hO := hW.2.1
  have hR1 := hW.2.2.1
  have hR2 := hW.2.2.2.1
  refine lv_aload_n hx hb dX2_length_0 rfl (lv_at hl 0 rfl) ?_
  refine lv_iload_n hx hb dX2_length_1 rfl (lv_at hl 1 rfl) ?_
  refine xR_V (A := A) (A1 := A) (b := (SA 0)) (As := [.int x]) (rest := []) ⟨hx, hb, hml, hown, hts⟩ (mX2_textOf (A := A) hst ) (cwV 1 hts (gV tw_3_4 tw_3_6 sel_X2_textOf tw_1_1 tw_3_7) rfl rfl rfl (by decide +kernel) ⟨Nat.le_of_ble_eq_true rfl, Nat.le_of_ble_eq_true rfl⟩) hC hS (fun _ h => h) (fun q h => hA q (Nat.le_trans hS.1 h)) (hW.recv hK) hW rfl rfl hl.1 (Nat.le_of_ble_eq_true rfl) ⟨Nat.le_trans (show 0 + 1 ≤ 1 by omega) (Nat.le_of_ble_eq_true rfl), Nat.le_trans (show 0 + 6 ≤ 6 by omega) (Nat.le_of_ble_eq_true rfl)⟩ dX2_length_2 hnx hlocks (by omega) (by omega) (fun E H9 q _ => ⟨⟨q.1, q.2.1⟩, _, _, q.2.2, hF⟩) (fun rv1 H1 L1 hP1 hk1 hS => ?_)
  have hZ1 := hS.1
  obtain ⟨⟨i, hi, hxi, hrv⟩, hW⟩ := hP1
  subst hrv
  have hO := hW.2.1
  have hR1 := hW.2.2.1
  have hR2 := hW.2.2.2.1
  have ei := hF i (Or.inl hi)
  refine kV_i (A := A) (b := (SA (7 + 2 * i))) (As := []) (rest := []) ⟨hx, hb, hml, hown, hts⟩ (mX0_size (A := A) (ca := SA (8 + 2 * i))) (cwV 0 hts (gV tw_2_30 tw_2_12 tw_2_13 tw_1_2 tw_2_14) rfl rfl rfl (by decide +kernel) ⟨Nat.le_of_ble_eq_true rfl, Nat.le_of_ble_eq_true rfl⟩) hC hS hA ((hW.line (i := i) (by omega)).recv hK) (hW.line (i := i) (by omega)) rfl rfl hl.1 (Nat.le_of_ble_eq_true rfl) ⟨Nat.le_trans (show (0 + 1) ≤ 1 by omega) (Nat.le_of_ble_eq_true rfl), Nat.le_trans (show (0 + 6) ≤ 6 by omega) (Nat.le_of_ble_eq_true rfl)⟩ dX2_length_5 (fun r9 h9 => lv_cv h9 ?_)
  exact vx_ret (q_i hx hb hr hlocks dX2_length_8 hS (by omega) (by omega) ⟨i, hi, hxi, by rw [ei], _, _, hW, hF⟩)

abbrev rmX2_at : Room := { frames := 7, cells := 2, slots := 12, locals := 110 }
theorem mX2_at {l : Launch} {G : Cx} {A : Nat → Prop} (hst : l.stackTraces = false) {SA : Nat → Nat} {X : Nat → List Nat} {es : List Nat} {k : Int32} {x y : Int32} (hAS : ∀ i : Nat, i < 39 → A (SA i)) : vx_Met l yX2_at (.code yX2_at cX2_at 4 (some .int) :: GW) rmX2_at (PC G A [.ref (SA 0), .int x, .int y] (SS G SA X es k)) (qI A (fun r H => ∃ i a9 : Nat, i < 4 ∧ x = nI i ∧ a9 < (X i).length ∧ y = nI a9 ∧ r = nI ((X i).getD a9 0) ∧ SS G SA X es k H)) (xE A (fun E H => (E = "java/lang/IndexOutOfBoundsException" ∧ (NT x ∨ ¬ ∃ i a9 : Nat, i < 4 ∧ x = nI i ∧ a9 < (X i).length ∧ y = nI a9)) ∧ SS G SA X es k H)) 2 12 A := by
  refine mstartX "Signtext" (by decide +kernel) rfl (Nat.le_of_ble_eq_true rfl) ?_
  intro p e s m below meth c ls hx hb hr hts hown hml hlocks hnx hC hA hW hl
  have hl : lv_has ls 4 [(0, .ref (SA 0)), (1, .int x), (2, .int y)] := hl
  have hK := hC.1
  have hS : va_S A s.heap s.heap [] := va_S.rf
  obtain ⟨T, es2, hW, hF⟩ := hW
  have hO := hW.2.1
  have hR1 := hW.2.2.1
  have hR2 := hW.2.2.2.1
  refine lv_aload_n hx hb dX2_at_0 rfl (lv_at hl 0 rfl) ?_
  refine lv_iload_n hx hb dX2_at_1 rfl (lv_at hl 1 rfl) ?_
  refine xR_V (A := A) (A1 := A) (b := (SA 0)) (As := [.int x]) (rest := []) ⟨hx, hb, hml, hown, hts⟩ (mX2_textOf (A := A) hst ) (cwV 1 hts (gV tw_3_4 tw_3_6 sel_X2_textOf tw_1_1 tw_3_7) rfl rfl rfl (by decide +kernel) ⟨Nat.le_of_ble_eq_true rfl, Nat.le_of_ble_eq_true rfl⟩) hC hS (fun _ h => h) (fun q h => hA q (Nat.le_trans hS.1 h)) (hW.recv hK) hW rfl rfl hl.1 (Nat.le_of_ble_eq_true rfl) ⟨Nat.le_trans (show 0 + 1 ≤ 2 by omega) (Nat.le_of_ble_eq_true rfl), Nat.le_trans (show 0 + 6 ≤ 12 by omega) (Nat.le_of_ble_eq_true rfl)⟩ dX2_at_2 hnx hlocks (by omega) (by omega) (fun E H9 q _ => ⟨⟨q.1, Or.inl q.2.1⟩, _, _, q.2.2, hF⟩) (fun rv2 H2 L2 hP2 hk2 hS => ?_)
  have hZ2 := hS.1
  obtain ⟨⟨i, hi, hxi, hrv⟩, hW⟩ := hP2
  subst hrv
  have hO := hW.2.1
  have hR1 := hW.2.2.1
  have hR2 := hW.2.2.2.1
  have ei := hF i (Or.inl hi)
  refine lv_astore_n (lv' := [(3, .ref (SA (7 + 2 * i))), (0, .ref (SA 0)), (1, .int x), (2, .int y)]) hx hb dX2_at_5 rfl hl (by decide) rfl (fun ls hl => ?_)
  refine lv_aload_n hx hb dX2_at_6 rfl (lv_at hl 0 rfl) ?_
  refine lv_iload_n hx hb dX2_at_7 rfl (lv_at hl 3 rfl) ?_
  refine xV_S (A := A) (A1 := A)  (As := [.ref (SA (7 + 2 * i)), .int y]) (rest := []) ⟨hx, hb, hml, hown, hts⟩ (mX2_needPlace (A := A) hst (q := i) (by omega)) (va_cwS 2 hts (gS tw_3_180 tw_3_181 tw_1_1 tw_3_182) rfl rfl rfl (by decide +kernel) ⟨Nat.le_of_ble_eq_true rfl, Nat.le_of_ble_eq_true rfl⟩) hC hS (fun _ h => h) (fun q h => hA q (Nat.le_trans hS.1 h))  hW rfl rfl hl.1 (Nat.le_of_ble_eq_true rfl) ⟨Nat.le_trans (show (0 + 1) + 1 ≤ 2 by omega) (Nat.le_of_ble_eq_true rfl), Nat.le_trans (show (0 + 6) + 6 ≤ 12 by omega) (Nat.le_of_ble_eq_true rfl)⟩ dX2_at_8 hnx hlocks (by omega) (by omega) (fun E H9 q _ => ⟨⟨q.1, Or.inr (fun ⟨i9, a0, w1, w2, w3, w4⟩ => q.2.1 ⟨a0, by have w7 : i9 = i := (nI_eq (by omega) (by omega)).mp (w2.symm.trans hxi); rw [w7, ← ei] at w3; exact w3, w4⟩)⟩, _, _, q.2.2, hF⟩) (fun H3 L3 hP3 hk3 hS => ?_)
  have hZ3 := hS.1
  obtain ⟨⟨a9, ha9, rfl⟩, hW⟩ := hP3
  refine lv_aload_n hx hb dX2_at_11 rfl (lv_at hl 0 rfl) ?_
  refine lv_iload_n hx hb dX2_at_12 rfl (lv_at hl 3 rfl) ?_
  refine kV_i (A := A) (b := (SA (7 + 2 * i))) (As := [.int (nI a9)]) (rest := []) ⟨hx, hb, hml, hown, hts⟩ (mX0_codeAt (A := A) (ca := SA (8 + 2 * i)) (i := a9) ha9) (cwV 1 hts (gV tw_2_93 tw_2_20 tw_2_21 tw_1_2 tw_2_22) rfl rfl rfl (by decide +kernel) ⟨Nat.le_of_ble_eq_true rfl, Nat.le_of_ble_eq_true rfl⟩) hC hS hA ((hW.line (i := i) (by omega)).recv hK) (hW.line (i := i) (by omega)) rfl rfl hl.1 (Nat.le_of_ble_eq_true rfl) ⟨Nat.le_trans (show ((0 + 1) + 1) ≤ 2 by omega) (Nat.le_of_ble_eq_true rfl), Nat.le_trans (show ((0 + 6) + 6) ≤ 12 by omega) (Nat.le_of_ble_eq_true rfl)⟩ dX2_at_13 (fun r9 h9 => lv_cv h9 ?_)
  exact vx_ret (q_i hx hb hr hlocks dX2_at_16 hS (by omega) (by omega) ⟨i, a9, hi, hxi, by rw [← ei]; exact ha9, rfl, by rw [ei], _, _, hW, hF⟩)

abbrev rmX2_isEmpty : Room := { frames := 7, cells := 1, slots := 6, locals := 110 }
theorem mX2_isEmpty {l : Launch} {G : Cx} {A : Nat → Prop} (hst : l.stackTraces = false) {SA : Nat → Nat} {X : Nat → List Nat} {es : List Nat} {k : Int32} {x : Int32} (hAS : ∀ i : Nat, i < 39 → A (SA i)) : vx_Met l yX2_isEmpty (.code yX2_isEmpty cX2_isEmpty 2 (some .boolean) :: GW) rmX2_isEmpty (PC G A [.ref (SA 0), .int x] (SS G SA X es k)) (qI A (fun r H => ∃ i : Nat, i < 4 ∧ x = nI i ∧ r = bI (decide ((X i).length = 0)) ∧ SS G SA X es k H)) (xE A (fun E H => (E = "java/lang/IndexOutOfBoundsException" ∧ NT x) ∧ SS G SA X es k H)) 1 6 A := by
  refine mstartX "Signtext" (by decide +kernel) rfl (Nat.le_of_ble_eq_true rfl) ?_
  intro p e s m below meth c ls hx hb hr hts hown hml hlocks hnx hC hA hW hl
  have hl : lv_has ls 2 [(0, .ref (SA 0)), (1, .int x)] := hl
  have hK := hC.1
  have hS : va_S A s.heap s.heap [] := va_S.rf
  obtain ⟨T, es2, hW, hF⟩ := hW
  have hO := hW.2.1
  have hR1 := hW.2.2.1
  have hR2 := hW.2.2.2.1
  refine lv_aload_n hx hb dX2_isEmpty_0 rfl (lv_at hl 0 rfl) ?_
  refine lv_iload_n hx hb dX2_isEmpty_1 rfl (lv_at hl 1 rfl) ?_
  refine xR_V (A := A) (A1 := A) (b := (SA 0)) (As := [.int x]) (rest := []) ⟨hx, hb, hml, hown, hts⟩ (mX2_textOf (A := A) hst ) (cwV 1 hts (gV tw_3_4 tw_3_6 sel_X2_textOf tw_1_1 tw_3_7) rfl rfl rfl (by decide +kernel) ⟨Nat.le_of_ble_eq_true rfl, Nat.le_of_ble_eq_true rfl⟩) hC hS (fun _ h => h) (fun q h => hA q (Nat.le_trans hS.1 h)) (hW.recv hK) hW rfl rfl hl.1 (Nat.le_of_ble_eq_true rfl) ⟨Nat.le_trans (show 0 + 1 ≤ 1 by omega) (Nat.le_of_ble_eq_true rfl), Nat.le_trans (show 0 + 6 ≤ 6 by omega) (Nat.le_of_ble_eq_true rfl)⟩ dX2_isEmpty_2 hnx hlocks (by omega) (by omega) (fun E H9 q _ => ⟨⟨q.1, q.2.1⟩, _, _, q.2.2, hF⟩) (fun rv4 H4 L4 hP4 hk4 hS => ?_)
  have hZ4 := hS.1
  obtain ⟨⟨i, hi, hxi, hrv⟩, hW⟩ := hP4
  subst hrv
  have hO := hW.2.1
  have hR1 := hW.2.2.1
  have hR2 := hW.2.2.2.1
  have ei := hF i (Or.inl hi)
  have i60 := (hW.line (i := i) (by omega)).1
  refine kV_i (A := A) (b := (SA (7 + 2 * i))) (As := []) (rest := []) ⟨hx, hb, hml, hown, hts⟩ (mX0_size (A := A) (ca := SA (8 + 2 * i))) (cwV 0 hts (gV tw_2_30 tw_2_12 tw_2_13 tw_1_2 tw_2_14) rfl rfl rfl (by decide +kernel) ⟨Nat.le_of_ble_eq_true rfl, Nat.le_of_ble_eq_true rfl⟩) hC hS hA ((hW.line (i := i) (by omega)).recv hK) (hW.line (i := i) (by omega)) rfl rfl hl.1 (Nat.le_of_ble_eq_true rfl) ⟨Nat.le_trans (show (0 + 1) ≤ 1 by omega) (Nat.le_of_ble_eq_true rfl), Nat.le_trans (show (0 + 6) ≤ 6 by omega) (Nat.le_of_ble_eq_true rfl)⟩ dX2_isEmpty_5 (fun r9 h9 => lv_cv h9 ?_)
  refine z_ne (tgt := 15) hx hb dX2_isEmpty_8 (by decide) (by omega) (fun c_5 => ?_) (fun c_5 => ?_)
  · refine lv_iconst (v := nI 0) hx hb dX2_isEmpty_15 (by decide) ?_
    exact vx_ret (q_z (b9 := false) hx hb hr hlocks dX2_isEmpty_16 hS (by omega) (by omega) ⟨i, hi, hxi, by rw [← ei, decide_eq_false c_5], _, _, hW, hF⟩)
  · refine lv_iconst (v := nI 1) hx hb dX2_isEmpty_11 (by decide) ?_
    refine lv_goto (tgt := 16) hx hb dX2_isEmpty_12 (by decide) ?_
    exact vx_ret (q_z (b9 := true) hx hb hr hlocks dX2_isEmpty_16 hS (by omega) (by omega) ⟨i, hi, hxi, by rw [← ei, decide_eq_true c_5], _, _, hW, hF⟩)

abbrev rmX2_isBlank : Room := { frames := 7, cells := 1, slots := 6, locals := 110 }
theorem mX2_isBlank {l : Launch} {G : Cx} {A : Nat → Prop} (hst : l.stackTraces = false) {SA : Nat → Nat} {X : Nat → List Nat} {es : List Nat} {k : Int32} {x : Int32} (hAS : ∀ i : Nat, i < 39 → A (SA i)) : vx_Met l yX2_isBlank (.code yX2_isBlank cX2_isBlank 2 (some .boolean) :: GW) rmX2_isBlank (PC G A [.ref (SA 0), .int x] (SS G SA X es k)) (qI A (fun r H => ∃ i : Nat, i < 4 ∧ x = nI i ∧ r = bI (decide (tbL true (X i) = (X i).length)) ∧ SS G SA X es k H)) (xE A (fun E H => (E = "java/lang/IndexOutOfBoundsException" ∧ NT x) ∧ SS G SA X es k H)) 1 6 A := by
  refine mstartX "Signtext" (by decide +kernel) rfl (Nat.le_of_ble_eq_true rfl) ?_
  intro p e s m below meth c ls hx hb hr hts hown hml hlocks hnx hC hA hW hl
  have hl : lv_has ls 2 [(0, .ref (SA 0)), (1, .int x)] := hl
  have hK := hC.1
  have hS : va_S A s.heap s.heap [] := va_S.rf
  obtain ⟨T, es2, hW, hF⟩ := hW
  have hO := hW.2.1
  have hR1 := hW.2.2.1
  have hR2 := hW.2.2.2.1
  refine lv_aload_n hx hb dX2_isBlank_0 rfl (lv_at hl 0 rfl) ?_
  refine lv_iload_n hx hb dX2_isBlank_1 rfl (lv_at hl 1 rfl) ?_
  refine xR_V (A := A) (A1 := A) (b := (SA 0)) (As := [.int x]) (rest := []) ⟨hx, hb, hml, hown, hts⟩ (mX2_textOf (A := A) hst ) (cwV 1 hts (gV tw_3_4 tw_3_6 sel_X2_textOf tw_1_1 tw_3_7) rfl rfl rfl (by decide +kernel) ⟨Nat.le_of_ble_eq_true rfl, Nat.le_of_ble_eq_true rfl⟩) hC hS (fun _ h => h) (fun q h => hA q (Nat.le_trans hS.1 h)) (hW.recv hK) hW rfl rfl hl.1 (Nat.le_of_ble_eq_true rfl) ⟨Nat.le_trans (show 0 + 1 ≤ 1 by omega) (Nat.le_of_ble_eq_true rfl), Nat.le_trans (show 0 + 6 ≤ 6 by omega) (Nat.le_of_ble_eq_true rfl)⟩ dX2_isBlank_2 hnx hlocks (by omega) (by omega) (fun E H9 q _ => ⟨⟨q.1, q.2.1⟩, _, _, q.2.2, hF⟩) (fun rv6 H6 L6 hP6 hk6 hS => ?_)
  have hZ6 := hS.1
  obtain ⟨⟨i, hi, hxi, hrv⟩, hW⟩ := hP6
  subst hrv
  have hO := hW.2.1
  have hR1 := hW.2.2.1
  have hR2 := hW.2.2.2.1
  have ei := hF i (Or.inl hi)
  refine kV_i (A := A) (b := (SA (7 + 2 * i))) (As := []) (rest := []) ⟨hx, hb, hml, hown, hts⟩ (mX0_isAllWhite (A := A) (ca := SA (8 + 2 * i))) (cwV 0 hts (gV tw_2_207 tw_2_208 tw_2_209 tw_1_2 tw_2_210) rfl rfl rfl (by decide +kernel) ⟨Nat.le_of_ble_eq_true rfl, Nat.le_of_ble_eq_true rfl⟩) hC hS hA ((hW.line (i := i) (by omega)).recv hK) (hW.line (i := i) (by omega)) rfl rfl hl.1 (Nat.le_of_ble_eq_true rfl) ⟨Nat.le_trans (show (0 + 1) ≤ 1 by omega) (Nat.le_of_ble_eq_true rfl), Nat.le_trans (show (0 + 6) ≤ 6 by omega) (Nat.le_of_ble_eq_true rfl)⟩ dX2_isBlank_5 (fun r9 h9 => lv_cv h9 ?_)
  exact vx_ret (q_z (b9 := decide (tbL true (T i) = (T i).length)) hx hb hr hlocks dX2_isBlank_8 hS (by omega) (by omega) ⟨i, hi, hxi, by rw [ei], _, _, hW, hF⟩)

abbrev rmX2_hash : Room := { frames := 7, cells := 1, slots := 6, locals := 110 }
theorem mX2_hash {l : Launch} {G : Cx} {A : Nat → Prop} (hst : l.stackTraces = false) {SA : Nat → Nat} {X : Nat → List Nat} {es : List Nat} {k : Int32} {x : Int32} (hAS : ∀ i : Nat, i < 39 → A (SA i)) : vx_Met l yX2_hash (.code yX2_hash cX2_hash 2 (some .int) :: GW) rmX2_hash (PC G A [.ref (SA 0), .int x] (SS G SA X es k)) (qI A (fun r H => ∃ i : Nat, i < 4 ∧ x = nI i ∧ r = hashL (X i) ∧ SS G SA X es k H)) (xE A (fun E H => (E = "java/lang/IndexOutOfBoundsException" ∧ NT x) ∧ SS G SA X es k H)) 1 6 A := by
  refine mstartX "Signtext" (by decide +kernel) rfl (Nat.le_of_ble_eq_true rfl) ?_
  intro p e s m below meth c ls hx hb hr hts hown hml hlocks hnx hC hA hW hl
  have hl : lv_has ls 2 [(0, .ref (SA 0)), (1, .int x)] := hl
  have hK := hC.1
  have hS : va_S A s.heap s.heap [] := va_S.rf
  obtain ⟨T, es2, hW, hF⟩ := hW
  have hO := hW.2.1
  have hR1 := hW.2.2.1
  have hR2 := hW.2.2.2.1
  refine lv_aload_n hx hb dX2_hash_0 rfl (lv_at hl 0 rfl) ?_
  refine lv_iload_n hx hb dX2_hash_1 rfl (lv_at hl 1 rfl) ?_
  refine xR_V (A := A) (A1 := A) (b := (SA 0)) (As := [.int x]) (rest := []) ⟨hx, hb, hml, hown, hts⟩ (mX2_textOf (A := A) hst ) (cwV 1 hts (gV tw_3_4 tw_3_6 sel_X2_textOf tw_1_1 tw_3_7) rfl rfl rfl (by decide +kernel) ⟨Nat.le_of_ble_eq_true rfl, Nat.le_of_ble_eq_true rfl⟩) hC hS (fun _ h => h) (fun q h => hA q (Nat.le_trans hS.1 h)) (hW.recv hK) hW rfl rfl hl.1 (Nat.le_of_ble_eq_true rfl) ⟨Nat.le_trans (show 0 + 1 ≤ 1 by omega) (Nat.le_of_ble_eq_true rfl), Nat.le_trans (show 0 + 6 ≤ 6 by omega) (Nat.le_of_ble_eq_true rfl)⟩ dX2_hash_2 hnx hlocks (by omega) (by omega) (fun E H9 q _ => ⟨⟨q.1, q.2.1⟩, _, _, q.2.2, hF⟩) (fun rv7 H7 L7 hP7 hk7 hS => ?_)
  have hZ7 := hS.1
  obtain ⟨⟨i, hi, hxi, hrv⟩, hW⟩ := hP7
  subst hrv
  have hO := hW.2.1
  have hR1 := hW.2.2.1
  have hR2 := hW.2.2.2.1
  have ei := hF i (Or.inl hi)
  refine kV_i (A := A) (b := (SA (7 + 2 * i))) (As := []) (rest := []) ⟨hx, hb, hml, hown, hts⟩ (mX0_hashOfSigns (A := A) (ca := SA (8 + 2 * i))) (cwV 0 hts (gV tw_2_110 tw_2_111 tw_2_112 tw_1_2 tw_2_113) rfl rfl rfl (by decide +kernel) ⟨Nat.le_of_ble_eq_true rfl, Nat.le_of_ble_eq_true rfl⟩) hC hS hA ((hW.line (i := i) (by omega)).recv hK) (hW.line (i := i) (by omega)) rfl rfl hl.1 (Nat.le_of_ble_eq_true rfl) ⟨Nat.le_trans (show (0 + 1) ≤ 1 by omega) (Nat.le_of_ble_eq_true rfl), Nat.le_trans (show (0 + 6) ≤ 6 by omega) (Nat.le_of_ble_eq_true rfl)⟩ dX2_hash_5 (fun r9 h9 => lv_cv h9 ?_)
  exact vx_ret (q_i hx hb hr hlocks dX2_hash_8 hS (by omega) (by omega) ⟨i, hi, hxi, by rw [ei], _, _, hW, hF⟩)

abbrev rmX2_first : Room := { frames := 7, cells := 2, slots := 12, locals := 110 }
theorem mX2_first {l : Launch} {G : Cx} {A : Nat → Prop} (hst : l.stackTraces = false) {SA : Nat → Nat} {X : Nat → List Nat} {es : List Nat} {k : Int32} {x y : Int32} (hAS : ∀ i : Nat, i < 39 → A (SA i)) : vx_Met l yX2_first (.code yX2_first cX2_first 4 (some .int) :: GW) rmX2_first (PC G A [.ref (SA 0), .int x, .int y] (SS G SA X es k)) (qI A (fun r H => ∃ i j : Nat, i < 4 ∧ x = nI i ∧ j < 24 ∧ y = nI j ∧ fstR (fun k9 => 0 ≤ k9 ∧ k9 < (X i).length ∧ (X i).getD k9 0 = codeT.getD j 0) r ∧ SS G SA X es k H)) (xE A (fun E H => ((E = "java/lang/IndexOutOfBoundsException" ∧ NT x) ∨ (E = "java/lang/IllegalArgumentException" ∧ (∃ i : Nat, i < 4 ∧ x = nI i) ∧ NS y)) ∧ SS G SA X es k H)) 2 12 A := by
  refine mstartX "Signtext" (by decide +kernel) rfl (Nat.le_of_ble_eq_true rfl) ?_
  intro p e s m below meth c ls hx hb hr hts hown hml hlocks hnx hC hA hW hl
  have hl : lv_has ls 4 [(0, .ref (SA 0)), (1, .int x), (2, .int y)] := hl
  have hK := hC.1
  have hS : va_S A s.heap s.heap [] := va_S.rf
  obtain ⟨T, es2, hW, hF⟩ := hW
  have hO := hW.2.1
  have hR1 := hW.2.2.1
  have hR2 := hW.2.2.2.1
  refine lv_aload_n hx hb dX2_first_0 rfl (lv_at hl 0 rfl) ?_
  refine lv_iload_n hx hb dX2_first_1 rfl (lv_at hl 1 rfl) ?_
  refine xR_V (A := A) (A1 := A) (b := (SA 0)) (As := [.int x]) (rest := []) ⟨hx, hb, hml, hown, hts⟩ (mX2_textOf (A := A) hst ) (cwV 1 hts (gV tw_3_4 tw_3_6 sel_X2_textOf tw_1_1 tw_3_7) rfl rfl rfl (by decide +kernel) ⟨Nat.le_of_ble_eq_true rfl, Nat.le_of_ble_eq_true rfl⟩) hC hS (fun _ h => h) (fun q h => hA q (Nat.le_trans hS.1 h)) (hW.recv hK) hW rfl rfl hl.1 (Nat.le_of_ble_eq_true rfl) ⟨Nat.le_trans (show 0 + 1 ≤ 2 by omega) (Nat.le_of_ble_eq_true rfl), Nat.le_trans (show 0 + 6 ≤ 12 by omega) (Nat.le_of_ble_eq_true rfl)⟩ dX2_first_2 hnx hlocks (by omega) (by omega) (fun E H9 q _ => ⟨Or.inl ⟨q.1, q.2.1⟩, _, _, q.2.2, hF⟩) (fun rv8 H8 L8 hP8 hk8 hS => ?_)
  have hZ8 := hS.1
  obtain ⟨⟨i, hi, hxi, hrv⟩, hW⟩ := hP8
  subst hrv
  have hO := hW.2.1
  have hR1 := hW.2.2.1
  have hR2 := hW.2.2.2.1
  have ei := hF i (Or.inl hi)
  refine lv_astore_n (lv' := [(3, .ref (SA (7 + 2 * i))), (0, .ref (SA 0)), (1, .int x), (2, .int y)]) hx hb dX2_first_5 rfl hl (by decide) rfl (fun ls hl => ?_)
  refine lv_aload_n hx hb dX2_first_6 rfl (lv_at hl 0 rfl) ?_
  refine lv_iload_n hx hb dX2_first_7 rfl (lv_at hl 3 rfl) ?_
  refine xI_S (A := A) (A1 := A)  (As := [.int y]) (rest := .ref (SA (7 + 2 * i)) :: []) ⟨hx, hb, hml, hown, hts⟩ (mX2_codeOf (A := A) hst ) (va_cwS 1 hts (gS tw_3_27 tw_3_28 tw_1_1 tw_3_29) rfl rfl rfl (by decide +kernel) ⟨Nat.le_of_ble_eq_true rfl, Nat.le_of_ble_eq_true rfl⟩) hC hS (fun _ h => h) (fun q h => hA q (Nat.le_trans hS.1 h))  hW rfl rfl hl.1 (Nat.le_of_ble_eq_true rfl) ⟨Nat.le_trans (show (0 + 1) + 1 ≤ 2 by omega) (Nat.le_of_ble_eq_true rfl), Nat.le_trans (show (0 + 6) + 6 ≤ 12 by omega) (Nat.le_of_ble_eq_true rfl)⟩ dX2_first_8 hnx hlocks (by omega) (by omega) (fun E H9 q _ => ⟨Or.inr ⟨q.1, ⟨i, hi, hxi⟩, q.2.1⟩, _, _, q.2.2, hF⟩) (fun rv9 H9 L9 hP9 hk9 hS => ?_)
  have hZ9 := hS.1
  obtain ⟨⟨j, hj, hyj, hrv⟩, hW⟩ := hP9
  subst hrv
  refine lv_iconst (v := nI 0) hx hb dX2_first_11 (by decide) ?_
  refine kV_i (A := A) (b := (SA (7 + 2 * i))) (As := [.int (nI (codeT.getD j 0)), .int (nI 0)]) (rest := []) ⟨hx, hb, hml, hown, hts⟩ (mX0_firstPlaceOfCode (A := A) (ca := SA (8 + 2 * i)) (i := 0) (codeT_lt j) (Nat.zero_le _)) (cwV 2 hts (gV tw_4_32 tw_4_33 tw_4_34 tw_1_2 tw_4_35) rfl rfl rfl (by decide +kernel) ⟨Nat.le_of_ble_eq_true rfl, Nat.le_of_ble_eq_true rfl⟩) hC hS hA ((hW.line (i := i) (by omega)).recv hK) (hW.line (i := i) (by omega)) rfl rfl hl.1 (Nat.le_of_ble_eq_true rfl) ⟨Nat.le_trans (show ((0 + 1) + 1) ≤ 2 by omega) (Nat.le_of_ble_eq_true rfl), Nat.le_trans (show ((0 + 6) + 6) ≤ 12 by omega) (Nat.le_of_ble_eq_true rfl)⟩ dX2_first_12 (fun r_10 hr_10 => ?_)
  have h7 : fstR (fun k9 => 0 ≤ k9 ∧ k9 < (T i).length ∧ (T i).getD k9 0 = codeT.getD j 0) r_10 := hr_10
  rw [ei] at h7
  exact vx_ret (q_i hx hb hr hlocks dX2_first_15 hS (by omega) (by omega) ⟨i, j, hi, hxi, hj, hyj, h7, _, _, hW, hF⟩)

abbrev rmX2_last : Room := { frames := 7, cells := 2, slots := 12, locals := 110 }
theorem mX2_last {l : Launch} {G : Cx} {A : Nat → Prop} (hst : l.stackTraces = false) {SA : Nat → Nat} {X : Nat → List Nat} {es : List Nat} {k : Int32} {x y : Int32} (hAS : ∀ i : Nat, i < 39 → A (SA i)) : vx_Met l yX2_last (.code yX2_last cX2_last 4 (some .int) :: GW) rmX2_last (PC G A [.ref (SA 0), .int x, .int y] (SS G SA X es k)) (qI A (fun r H => ∃ i j : Nat, i < 4 ∧ x = nI i ∧ j < 24 ∧ y = nI j ∧ lstR (fun k9 => k9 < (X i).length ∧ (X i).getD k9 0 = codeT.getD j 0) r ∧ SS G SA X es k H)) (xE A (fun E H => ((E = "java/lang/IndexOutOfBoundsException" ∧ NT x) ∨ (E = "java/lang/IllegalArgumentException" ∧ (∃ i : Nat, i < 4 ∧ x = nI i) ∧ NS y)) ∧ SS G SA X es k H)) 2 12 A := by
  refine mstartX "Signtext" (by decide +kernel) rfl (Nat.le_of_ble_eq_true rfl) ?_
  intro p e s m below meth c ls hx hb hr hts hown hml hlocks hnx hC hA hW hl
  have hl : lv_has ls 4 [(0, .ref (SA 0)), (1, .int x), (2, .int y)] := hl
  have hK := hC.1
  have hS : va_S A s.heap s.heap [] := va_S.rf
  obtain ⟨T, es2, hW, hF⟩ := hW
  have hO := hW.2.1
  have hR1 := hW.2.2.1
  have hR2 := hW.2.2.2.1
  refine lv_aload_n hx hb dX2_last_0 rfl (lv_at hl 0 rfl) ?_
  refine lv_iload_n hx hb dX2_last_1 rfl (lv_at hl 1 rfl) ?_
  refine xR_V (A := A) (A1 := A) (b := (SA 0)) (As := [.int x]) (rest := []) ⟨hx, hb, hml, hown, hts⟩ (mX2_textOf (A := A) hst ) (cwV 1 hts (gV tw_3_4 tw_3_6 sel_X2_textOf tw_1_1 tw_3_7) rfl rfl rfl (by decide +kernel) ⟨Nat.le_of_ble_eq_true rfl, Nat.le_of_ble_eq_true rfl⟩) hC hS (fun _ h => h) (fun q h => hA q (Nat.le_trans hS.1 h)) (hW.recv hK) hW rfl rfl hl.1 (Nat.le_of_ble_eq_true rfl) ⟨Nat.le_trans (show 0 + 1 ≤ 2 by omega) (Nat.le_of_ble_eq_true rfl), Nat.le_trans (show 0 + 6 ≤ 12 by omega) (Nat.le_of_ble_eq_true rfl)⟩ dX2_last_2 hnx hlocks (by omega) (by omega) (fun E H9 q _ => ⟨Or.inl ⟨q.1, q.2.1⟩, _, _, q.2.2, hF⟩) (fun rv11 H11 L11 hP11 hk11 hS => ?_)
  have hZ11 := hS.1
  obtain ⟨⟨i, hi, hxi, hrv⟩, hW⟩ := hP11
  subst hrv
  have hO := hW.2.1
  have hR1 := hW.2.2.1
  have hR2 := hW.2.2.2.1
  have ei := hF i (Or.inl hi)
  refine lv_astore_n (lv' := [(3, .ref (SA (7 + 2 * i))), (0, .ref (SA 0)), (1, .int x), (2, .int y)]) hx hb dX2_last_5 rfl hl (by decide) rfl (fun ls hl => ?_)
  refine lv_aload_n hx hb dX2_last_6 rfl (lv_at hl 0 rfl) ?_
  refine lv_iload_n hx hb dX2_last_7 rfl (lv_at hl 3 rfl) ?_
  refine xI_S (A := A) (A1 := A)  (As := [.int y]) (rest := .ref (SA (7 + 2 * i)) :: []) ⟨hx, hb, hml, hown, hts⟩ (mX2_codeOf (A := A) hst ) (va_cwS 1 hts (gS tw_3_27 tw_3_28 tw_1_1 tw_3_29) rfl rfl rfl (by decide +kernel) ⟨Nat.le_of_ble_eq_true rfl, Nat.le_of_ble_eq_true rfl⟩) hC hS (fun _ h => h) (fun q h => hA q (Nat.le_trans hS.1 h))  hW rfl rfl hl.1 (Nat.le_of_ble_eq_true rfl) ⟨Nat.le_trans (show (0 + 1) + 1 ≤ 2 by omega) (Nat.le_of_ble_eq_true rfl), Nat.le_trans (show (0 + 6) + 6 ≤ 12 by omega) (Nat.le_of_ble_eq_true rfl)⟩ dX2_last_8 hnx hlocks (by omega) (by omega) (fun E H9 q _ => ⟨Or.inr ⟨q.1, ⟨i, hi, hxi⟩, q.2.1⟩, _, _, q.2.2, hF⟩) (fun rv12 H12 L12 hP12 hk12 hS => ?_)
  have hZ12 := hS.1
  obtain ⟨⟨j, hj, hyj, hrv⟩, hW⟩ := hP12
  subst hrv
  refine kV_i (A := A) (b := (SA (7 + 2 * i))) (As := [.int (nI (codeT.getD j 0))]) (rest := []) ⟨hx, hb, hml, hown, hts⟩ (mX0_lastPlaceOfCode (A := A) (ca := SA (8 + 2 * i)) (codeT_lt j)) (cwV 1 hts (gV tw_4_43 tw_4_44 tw_4_45 tw_1_2 tw_4_46) rfl rfl rfl (by decide +kernel) ⟨Nat.le_of_ble_eq_true rfl, Nat.le_of_ble_eq_true rfl⟩) hC hS hA ((hW.line (i := i) (by omega)).recv hK) (hW.line (i := i) (by omega)) rfl rfl hl.1 (Nat.le_of_ble_eq_true rfl) ⟨Nat.le_trans (show ((0 + 1) + 1) ≤ 2 by omega) (Nat.le_of_ble_eq_true rfl), Nat.le_trans (show ((0 + 6) + 6) ≤ 12 by omega) (Nat.le_of_ble_eq_true rfl)⟩ dX2_last_11 (fun r_13 hr_13 => ?_)
  have h7 : lstR (fun k9 => k9 < (T i).length ∧ (T i).getD k9 0 = codeT.getD j 0) r_13 := hr_13
  rw [ei] at h7
  exact vx_ret (q_i hx hb hr hlocks dX2_last_14 hS (by omega) (by omega) ⟨i, j, hi, hxi, hj, hyj, h7, _, _, hW, hF⟩)

abbrev rmX2_next : Room := { frames := 7, cells := 3, slots := 18, locals := 110 }
theorem mX2_next {l : Launch} {G : Cx} {A : Nat → Prop} (hst : l.stackTraces = false) {SA : Nat → Nat} {X : Nat → List Nat} {es : List Nat} {k : Int32} {x f9 y : Int32} (hAS : ∀ i : Nat, i < 39 → A (SA i)) : vx_Met l yX2_next (.code yX2_next cX2_next 5 (some .int) :: GW) rmX2_next (PC G A [.ref (SA 0), .int x, .int f9, .int y] (SS G SA X es k)) (qI A (fun r H => ∃ i a9 j : Nat, i < 4 ∧ x = nI i ∧ a9 ≤ (X i).length ∧ f9 = nI a9 ∧ j < 24 ∧ y = nI j ∧ fstR (fun k9 => a9 ≤ k9 ∧ k9 < (X i).length ∧ (X i).getD k9 0 = codeT.getD j 0) r ∧ SS G SA X es k H)) (xE A (fun E H => ((E = "java/lang/IndexOutOfBoundsException" ∧ (NT x ∨ ¬ ∃ i a9 : Nat, i < 4 ∧ x = nI i ∧ f9 = nI a9 ∧ a9 ≤ (X i).length)) ∨ (E = "java/lang/IllegalArgumentException" ∧ (∃ i a9 : Nat, i < 4 ∧ x = nI i ∧ f9 = nI a9 ∧ a9 ≤ (X i).length) ∧ NS y)) ∧ SS G SA X es k H)) 3 18 A := by
  refine mstartX "Signtext" (by decide +kernel) rfl (Nat.le_of_ble_eq_true rfl) ?_
  intro p e s m below meth c ls hx hb hr hts hown hml hlocks hnx hC hA hW hl
  have hl : lv_has ls 5 [(0, .ref (SA 0)), (1, .int x), (2, .int f9), (3, .int y)] := hl
  have hK := hC.1
  have hS : va_S A s.heap s.heap [] := va_S.rf
  obtain ⟨T, es2, hW, hF⟩ := hW
  have hO := hW.2.1
  have hR1 := hW.2.2.1
  have hR2 := hW.2.2.2.1
  refine lv_aload_n hx hb dX2_next_0 rfl (lv_at hl 0 rfl) ?_
  refine lv_iload_n hx hb dX2_next_1 rfl (lv_at hl 1 rfl) ?_
  refine xR_V (A := A) (A1 := A) (b := (SA 0)) (As := [.int x]) (rest := []) ⟨hx, hb, hml, hown, hts⟩ (mX2_textOf (A := A) hst ) (cwV 1 hts (gV tw_3_4 tw_3_6 sel_X2_textOf tw_1_1 tw_3_7) rfl rfl rfl (by decide +kernel) ⟨Nat.le_of_ble_eq_true rfl, Nat.le_of_ble_eq_true rfl⟩) hC hS (fun _ h => h) (fun q h => hA q (Nat.le_trans hS.1 h)) (hW.recv hK) hW rfl rfl hl.1 (Nat.le_of_ble_eq_true rfl) ⟨Nat.le_trans (show 0 + 1 ≤ 3 by omega) (Nat.le_of_ble_eq_true rfl), Nat.le_trans (show 0 + 6 ≤ 18 by omega) (Nat.le_of_ble_eq_true rfl)⟩ dX2_next_2 hnx hlocks (by omega) (by omega) (fun E H9 q _ => ⟨Or.inl ⟨q.1, Or.inl q.2.1⟩, _, _, q.2.2, hF⟩) (fun rv14 H14 L14 hP14 hk14 hS => ?_)
  have hZ14 := hS.1
  obtain ⟨⟨i, hi, hxi, hrv⟩, hW⟩ := hP14
  subst hrv
  have hO := hW.2.1
  have hR1 := hW.2.2.1
  have hR2 := hW.2.2.2.1
  have ei := hF i (Or.inl hi)
  refine lv_astore (lv' := [(4, .ref (SA (7 + 2 * i))), (0, .ref (SA 0)), (1, .int x), (2, .int f9), (3, .int y)]) hx hb dX2_next_5 hl (by decide) rfl (fun ls hl => ?_)
  refine lv_aload hx hb dX2_next_7 (lv_at hl 0 rfl) ?_
  refine lv_iload_n hx hb dX2_next_9 rfl (lv_at hl 3 rfl) ?_
  refine xV_S (A := A) (A1 := A)  (As := [.ref (SA (7 + 2 * i)), .int f9]) (rest := []) ⟨hx, hb, hml, hown, hts⟩ (mX2_needPlaceOrEnd (A := A) hst (q := i) (by omega)) (va_cwS 2 hts (gS tw_3_87 tw_3_88 tw_1_1 tw_3_89) rfl rfl rfl (by decide +kernel) ⟨Nat.le_of_ble_eq_true rfl, Nat.le_of_ble_eq_true rfl⟩) hC hS (fun _ h => h) (fun q h => hA q (Nat.le_trans hS.1 h))  hW rfl rfl hl.1 (Nat.le_of_ble_eq_true rfl) ⟨Nat.le_trans (show (0 + 1) + 1 ≤ 3 by omega) (Nat.le_of_ble_eq_true rfl), Nat.le_trans (show (0 + 6) + 6 ≤ 18 by omega) (Nat.le_of_ble_eq_true rfl)⟩ dX2_next_10 hnx hlocks (by omega) (by omega) (fun E H9 q _ => ⟨Or.inl ⟨q.1, Or.inr (fun ⟨i9, a0, w1, w2, w3, w4⟩ => q.2.1 ⟨a0, by have w7 : i9 = i := (nI_eq (by omega) (by omega)).mp (w2.symm.trans hxi); rw [w7, ← ei] at w4; exact w4, w3⟩)⟩, _, _, q.2.2, hF⟩) (fun H15 L15 hP15 hk15 hS => ?_)
  have hZ15 := hS.1
  obtain ⟨⟨a9, ha9, rfl⟩, hW⟩ := hP15
  refine lv_aload hx hb dX2_next_13 (lv_at hl 0 rfl) ?_
  refine lv_iload_n hx hb dX2_next_15 rfl (lv_at hl 4 rfl) ?_
  refine xI_S (A := A) (A1 := A)  (As := [.int y]) (rest := .ref (SA (7 + 2 * i)) :: []) ⟨hx, hb, hml, hown, hts⟩ (mX2_codeOf (A := A) hst ) (va_cwS 1 hts (gS tw_3_27 tw_3_28 tw_1_1 tw_3_29) rfl rfl rfl (by decide +kernel) ⟨Nat.le_of_ble_eq_true rfl, Nat.le_of_ble_eq_true rfl⟩) hC hS (fun _ h => h) (fun q h => hA q (Nat.le_trans hS.1 h))  hW rfl rfl hl.1 (Nat.le_of_ble_eq_true rfl) ⟨Nat.le_trans (show ((0 + 1) + 1) + 1 ≤ 3 by omega) (Nat.le_of_ble_eq_true rfl), Nat.le_trans (show ((0 + 6) + 6) + 6 ≤ 18 by omega) (Nat.le_of_ble_eq_true rfl)⟩ dX2_next_16 hnx hlocks (by omega) (by omega) (fun E H9 q _ => ⟨Or.inr ⟨q.1, ⟨i, a9, hi, hxi, rfl, by rw [← ei]; exact ha9⟩, q.2.1⟩, _, _, q.2.2, hF⟩) (fun rv16 H16 L16 hP16 hk16 hS => ?_)
  have hZ16 := hS.1
  obtain ⟨⟨j, hj, hyj, hrv⟩, hW⟩ := hP16
  subst hrv
  refine lv_iload_n hx hb dX2_next_19 rfl (lv_at hl 3 rfl) ?_
  refine kV_i (A := A) (b := (SA (7 + 2 * i))) (As := [.int (nI (codeT.getD j 0)), .int (nI a9)]) (rest := []) ⟨hx, hb, hml, hown, hts⟩ (mX0_firstPlaceOfCode (A := A) (ca := SA (8 + 2 * i)) (i := a9) (codeT_lt j) ha9) (cwV 2 hts (gV tw_4_32 tw_4_33 tw_4_34 tw_1_2 tw_4_35) rfl rfl rfl (by decide +kernel) ⟨Nat.le_of_ble_eq_true rfl, Nat.le_of_ble_eq_true rfl⟩) hC hS hA ((hW.line (i := i) (by omega)).recv hK) (hW.line (i := i) (by omega)) rfl rfl hl.1 (Nat.le_of_ble_eq_true rfl) ⟨Nat.le_trans (show (((0 + 1) + 1) + 1) ≤ 3 by omega) (Nat.le_of_ble_eq_true rfl), Nat.le_trans (show (((0 + 6) + 6) + 6) ≤ 18 by omega) (Nat.le_of_ble_eq_true rfl)⟩ dX2_next_20 (fun r_17 hr_17 => ?_)
  have h7 : fstR (fun k9 => a9 ≤ k9 ∧ k9 < (T i).length ∧ (T i).getD k9 0 = codeT.getD j 0) r_17 := hr_17
  rw [ei] at h7
  exact vx_ret (q_i hx hb hr hlocks dX2_next_23 hS (by omega) (by omega) ⟨i, a9, j, hi, hxi, by rw [← ei]; exact ha9, rfl, hj, hyj, h7, _, _, hW, hF⟩)

abbrev rmX2_begins : Room := { frames := 7, cells := 2, slots := 12, locals := 110 }
theorem mX2_begins {l : Launch} {G : Cx} {A : Nat → Prop} (hst : l.stackTraces = false) {SA : Nat → Nat} {X : Nat → List Nat} {es : List Nat} {k : Int32} {x y : Int32} {b : Bool} (hAS : ∀ i : Nat, i < 39 → A (SA i)) : vx_Met l yX2_begins (.code yX2_begins cX2_begins 6 (some .boolean) :: GW) rmX2_begins (PC G A [.ref (SA 0), .int x, .int y, .int (bI b)] (SS G SA X es k)) (qI A (fun r H => ∃ (i j : Nat) (v : Bool), i < 4 ∧ x = nI i ∧ j < 7 ∧ y = nI j ∧ (v = true ↔ if b then (knT j).length ≤ (X i).length ∧ stL false (X i) (knT j) ((X i).length - (knT j).length) else stL false (X i) (knT j) 0) ∧ r = bI v ∧ SS G SA X es k H)) (xE A (fun E H => ((E = "java/lang/IndexOutOfBoundsException" ∧ NT x) ∨ (E = "java/lang/IllegalArgumentException" ∧ (∃ i : Nat, i < 4 ∧ x = nI i) ∧ NK y)) ∧ SS G SA X es k H)) 2 12 A := by
  refine mstartX "Signtext" (by decide +kernel) rfl (Nat.le_of_ble_eq_true rfl) ?_
  intro p e s m below meth c ls hx hb hr hts hown hml hlocks hnx hC hA hW hl
  have hl : lv_has ls 6 [(0, .ref (SA 0)), (1, .int x), (2, .int y), (3, .int (bI b))] := hl
  have hK := hC.1
  have hS : va_S A s.heap s.heap [] := va_S.rf
  obtain ⟨T, es2, hW, hF⟩ := hW
  have hO := hW.2.1
  have hR1 := hW.2.2.1
  have hR2 := hW.2.2.2.1
  refine lv_aload_n hx hb dX2_begins_0 rfl (lv_at hl 0 rfl) ?_
  refine lv_iload_n hx hb dX2_begins_1 rfl (lv_at hl 1 rfl) ?_
  refine xR_V (A := A) (A1 := A) (b := (SA 0)) (As := [.int x]) (rest := []) ⟨hx, hb, hml, hown, hts⟩ (mX2_textOf (A := A) hst ) (cwV 1 hts (gV tw_3_4 tw_3_6 sel_X2_textOf tw_1_1 tw_3_7) rfl rfl rfl (by decide +kernel) ⟨Nat.le_of_ble_eq_true rfl, Nat.le_of_ble_eq_true rfl⟩) hC hS (fun _ h => h) (fun q h => hA q (Nat.le_trans hS.1 h)) (hW.recv hK) hW rfl rfl hl.1 (Nat.le_of_ble_eq_true rfl) ⟨Nat.le_trans (show 0 + 1 ≤ 2 by omega) (Nat.le_of_ble_eq_true rfl), Nat.le_trans (show 0 + 6 ≤ 12 by omega) (Nat.le_of_ble_eq_true rfl)⟩ dX2_begins_2 hnx hlocks (by omega) (by omega) (fun E H9 q _ => ⟨Or.inl ⟨q.1, q.2.1⟩, _, _, q.2.2, hF⟩) (fun rv18 H18 L18 hP18 hk18 hS => ?_)
  have hZ18 := hS.1
  obtain ⟨⟨i, hi, hxi, hrv⟩, hW⟩ := hP18
  subst hrv
  have hO := hW.2.1
  have hR1 := hW.2.2.1
  have hR2 := hW.2.2.2.1
  have ei := hF i (Or.inl hi)
  refine lv_astore (lv' := [(4, .ref (SA (7 + 2 * i))), (0, .ref (SA 0)), (1, .int x), (2, .int y), (3, .int (bI b))]) hx hb dX2_begins_5 hl (by decide) rfl (fun ls hl => ?_)
  refine lv_aload_n hx hb dX2_begins_7 rfl (lv_at hl 1 rfl) ?_
  refine lv_iload_n hx hb dX2_begins_8 rfl (lv_at hl 3 rfl) ?_
  refine xR_V (A := A) (A1 := A) (b := (SA 0)) (As := [.int y]) (rest := []) ⟨hx, hb, hml, hown, hts⟩ (mX2_knownOf (A := A) hst ) (cwV 1 hts (gV tw_3_162 tw_3_164 sel_X2_knownOf tw_1_1 tw_3_165) rfl rfl rfl (by decide +kernel) ⟨Nat.le_of_ble_eq_true rfl, Nat.le_of_ble_eq_true rfl⟩) hC hS (fun _ h => h) (fun q h => hA q (Nat.le_trans hS.1 h)) (hW.recv hK) hW rfl rfl hl.1 (Nat.le_of_ble_eq_true rfl) ⟨Nat.le_trans (show (0 + 1) + 1 ≤ 2 by omega) (Nat.le_of_ble_eq_true rfl), Nat.le_trans (show (0 + 6) + 6 ≤ 12 by omega) (Nat.le_of_ble_eq_true rfl)⟩ dX2_begins_9 hnx hlocks (by omega) (by omega) (fun E H9 q _ => ⟨Or.inr ⟨q.1, ⟨i, hi, hxi⟩, q.2.1⟩, _, _, q.2.2, hF⟩) (fun rv19 H19 L19 hP19 hk19 hS => ?_)
  have hZ19 := hS.1
  obtain ⟨⟨j, hj, hyj, hrv⟩, hW⟩ := hP19
  rw [show 15 + 2 * j = 7 + 2 * (4 + j) by omega] at hrv
  subst hrv
  have ek := hW.2.2.2.2.2.2.2.2.2 j hj
  refine lv_astore (lv' := [(5, .ref (SA (7 + 2 * (4 + j)))), (4, .ref (SA (7 + 2 * i))), (0, .ref (SA 0)), (1, .int x), (2, .int y), (3, .int (bI b))]) hx hb dX2_begins_12 hl (by decide) rfl (fun ls hl => ?_)
  refine lv_aload hx hb dX2_begins_14 (lv_at hl 1 rfl) ?_
  refine lv_aload hx hb dX2_begins_16 (lv_at hl 0 rfl) ?_
  refine lv_iload_n hx hb dX2_begins_18 rfl (lv_at hl 5 rfl) ?_
  have i60 := (hW.line (i := i) (by omega)).1
  have k60 := (hW.line (i := 4 + j) (by omega)).1
  refine f_eq (tgt := 36) hx hb dX2_begins_19 (by decide) (fun c_20 => ?_) (fun c_20 => ?_)
  · subst c_20
    refine lv_iconst (v := nI 0) hx hb dX2_begins_36 (by decide) ?_
    refine lv_iconst (v := nI 0) hx hb dX2_begins_37 (by decide) ?_
    refine kV_i (A := A) (b := (SA (7 + 2 * i))) (As := [.ref (SA (7 + 2 * (4 + j))), .int (nI 0), .int (bI false)]) (rest := []) ⟨hx, hb, hml, hown, hts⟩ (mX0_standsAt (A := A) (ca := SA (8 + 2 * i)) (cb := SA (8 + 2 * (4 + j))) (i := 0) (b0 := false) (by omega)) (cwV 3 hts (gV tw_2_94 tw_2_16 tw_2_17 tw_1_2 tw_2_18) rfl rfl rfl (by decide +kernel) ⟨Nat.le_of_ble_eq_true rfl, Nat.le_of_ble_eq_true rfl⟩) hC hS hA ((hW.line (i := i) (by omega)).recv hK) ⟨hW.line (i := i) (by omega), hW.line (i := (4 + j)) (by omega)⟩ rfl rfl hl.1 (Nat.le_of_ble_eq_true rfl) ⟨Nat.le_trans (show ((0 + 1) + 1) ≤ 2 by omega) (Nat.le_of_ble_eq_true rfl), Nat.le_trans (show ((0 + 6) + 6) ≤ 12 by omega) (Nat.le_of_ble_eq_true rfl)⟩ dX2_begins_38 (fun r_21 hr_21 => ?_)
    obtain ⟨v, hv, rfl⟩ := hr_21
    rw [ei, ek] at hv
    exact vx_ret (q_z (b9 := v) hx hb hr hlocks dX2_begins_41 hS (by omega) (by omega) ⟨i, j, v, hi, hxi, hj, hyj, hv, rfl, _, _, hW, hF⟩)
  · subst c_20
    refine lv_aload hx hb dX2_begins_22 (lv_at hl 1 rfl) ?_
    refine kV_i (A := A) (b := (SA (7 + 2 * i))) (As := []) (rest := .ref (SA (7 + 2 * (4 + j))) :: .ref (SA (7 + 2 * i)) :: []) ⟨hx, hb, hml, hown, hts⟩ (mX0_size (A := A) (ca := SA (8 + 2 * i))) (cwV 0 hts (gV tw_2_30 tw_2_12 tw_2_13 tw_1_2 tw_2_14) rfl rfl rfl (by decide +kernel) ⟨Nat.le_of_ble_eq_true rfl, Nat.le_of_ble_eq_true rfl⟩) hC hS hA ((hW.line (i := i) (by omega)).recv hK) (hW.line (i := i) (by omega)) rfl rfl hl.1 (Nat.le_of_ble_eq_true rfl) ⟨Nat.le_trans (show ((0 + 1) + 1) ≤ 2 by omega) (Nat.le_of_ble_eq_true rfl), Nat.le_trans (show ((0 + 6) + 6) ≤ 12 by omega) (Nat.le_of_ble_eq_true rfl)⟩ dX2_begins_24 (fun r9 h9 => lv_cv h9 ?_)
    refine lv_aload hx hb dX2_begins_27 (lv_at hl 0 rfl) ?_
    refine kV_i (A := A) (b := (SA (7 + 2 * (4 + j)))) (As := []) (rest := .int (nI ((T i).length)) :: .ref (SA (7 + 2 * (4 + j))) :: .ref (SA (7 + 2 * i)) :: []) ⟨hx, hb, hml, hown, hts⟩ (mX0_size (A := A) (ca := SA (8 + 2 * (4 + j)))) (cwV 0 hts (gV tw_2_30 tw_2_12 tw_2_13 tw_1_2 tw_2_14) rfl rfl rfl (by decide +kernel) ⟨Nat.le_of_ble_eq_true rfl, Nat.le_of_ble_eq_true rfl⟩) hC hS hA ((hW.line (i := (4 + j)) (by omega)).recv hK) (hW.line (i := (4 + j)) (by omega)) rfl rfl hl.1 (Nat.le_of_ble_eq_true rfl) ⟨Nat.le_trans (show ((0 + 1) + 1) ≤ 2 by omega) (Nat.le_of_ble_eq_true rfl), Nat.le_trans (show ((0 + 6) + 6) ≤ 12 by omega) (Nat.le_of_ble_eq_true rfl)⟩ dX2_begins_29 (fun r9 h9 => lv_cv h9 ?_)
    refine lv_isub hx hb dX2_begins_32 ?_
    refine lv_goto (tgt := 37) hx hb dX2_begins_33 (by decide) ?_
    refine lv_iconst (v := nI 0) hx hb dX2_begins_37 (by decide) ?_
    rcases Nat.lt_or_ge (T i).length (T (4 + j)).length with hlt | hge
    · have hneg := subI_neg (by omega) (by omega) hlt
      refine kV_i (A := A) (b := (SA (7 + 2 * i))) (As := [.ref (SA (7 + 2 * (4 + j))), .int (nI ((T i).length) - nI ((T (4 + j)).length)), .int (bI false)]) (rest := []) ⟨hx, hb, hml, hown, hts⟩ (mX0_standsAt_n (A := A) (ca := SA (8 + 2 * i)) (cb := SA (8 + 2 * (4 + j))) (b0 := false) hneg) (cwV 3 hts (gV tw_2_94 tw_2_16 tw_2_17 tw_1_2 tw_2_18) rfl rfl rfl (by decide +kernel) ⟨Nat.le_of_ble_eq_true rfl, Nat.le_of_ble_eq_true rfl⟩) hC hS hA ((hW.line (i := i) (by omega)).recv hK) ⟨hW.line (i := i) (by omega), hW.line (i := (4 + j)) (by omega)⟩ rfl rfl hl.1 (Nat.le_of_ble_eq_true rfl) ⟨Nat.le_trans (show ((0 + 1) + 1) ≤ 2 by omega) (Nat.le_of_ble_eq_true rfl), Nat.le_trans (show ((0 + 6) + 6) ≤ 12 by omega) (Nat.le_of_ble_eq_true rfl)⟩ dX2_begins_38 (fun r9 h9 => lv_cv h9 ?_)
      exact vx_ret (q_z (b9 := false) hx hb hr hlocks dX2_begins_41 hS (by omega) (by omega) ⟨i, j, false, hi, hxi, hj, hyj, ⟨fun q => Bool.noConfusion q, fun q => by rw [if_pos rfl, ← ei, ← ek] at q; exact absurd q.1 (by omega)⟩, rfl, _, _, hW, hF⟩)
    · rw [pk_sub hge]
      refine kV_i (A := A) (b := (SA (7 + 2 * i))) (As := [.ref (SA (7 + 2 * (4 + j))), .int (nI ((T i).length - (T (4 + j)).length)), .int (bI false)]) (rest := []) ⟨hx, hb, hml, hown, hts⟩ (mX0_standsAt (A := A) (ca := SA (8 + 2 * i)) (cb := SA (8 + 2 * (4 + j))) (i := (T i).length - (T (4 + j)).length) (b0 := false) (by omega)) (cwV 3 hts (gV tw_2_94 tw_2_16 tw_2_17 tw_1_2 tw_2_18) rfl rfl rfl (by decide +kernel) ⟨Nat.le_of_ble_eq_true rfl, Nat.le_of_ble_eq_true rfl⟩) hC hS hA ((hW.line (i := i) (by omega)).recv hK) ⟨hW.line (i := i) (by omega), hW.line (i := (4 + j)) (by omega)⟩ rfl rfl hl.1 (Nat.le_of_ble_eq_true rfl) ⟨Nat.le_trans (show ((0 + 1) + 1) ≤ 2 by omega) (Nat.le_of_ble_eq_true rfl), Nat.le_trans (show ((0 + 6) + 6) ≤ 12 by omega) (Nat.le_of_ble_eq_true rfl)⟩ dX2_begins_38 (fun r_22 hr_22 => ?_)
      obtain ⟨v, hv, rfl⟩ := hr_22
      rw [ei, ek] at hv
      exact vx_ret (q_z (b9 := v) hx hb hr hlocks dX2_begins_41 hS (by omega) (by omega) ⟨i, j, v, hi, hxi, hj, hyj, by rw [if_pos rfl]; exact ⟨fun q => ⟨by rw [← ei, ← ek]; exact hge, hv.mp q⟩, fun q => hv.mpr q.2⟩, rfl, _, _, hW, hF⟩)

abbrev rmX2_stands : Room := { frames := 7, cells := 2, slots := 12, locals := 110 }
theorem mX2_stands {l : Launch} {G : Cx} {A : Nat → Prop} (hst : l.stackTraces = false) {SA : Nat → Nat} {X : Nat → List Nat} {es : List Nat} {k : Int32} {x p9 y : Int32} {b : Bool} (hAS : ∀ i : Nat, i < 39 → A (SA i)) : vx_Met l yX2_stands (.code yX2_stands cX2_stands 6 (some .boolean) :: GW) rmX2_stands (PC G A [.ref (SA 0), .int x, .int p9, .int y, .int (bI b)] (SS G SA X es k)) (qI A (fun r H => ∃ (i j : Nat) (v : Bool), i < 4 ∧ x = nI i ∧ j < 7 ∧ y = nI j ∧ (v = true ↔ ∃ a9 : Nat, a9 < 2 ^ 31 ∧ p9 = nI a9 ∧ stL b (X i) (knT j) a9) ∧ r = bI v ∧ SS G SA X es k H)) (xE A (fun E H => ((E = "java/lang/IndexOutOfBoundsException" ∧ NT x) ∨ (E = "java/lang/IllegalArgumentException" ∧ (∃ i : Nat, i < 4 ∧ x = nI i) ∧ NK y)) ∧ SS G SA X es k H)) 2 12 A := by
  refine mstartX "Signtext" (by decide +kernel) rfl (Nat.le_of_ble_eq_true rfl) ?_
  intro p e s m below meth c ls hx hb hr hts hown hml hlocks hnx hC hA hW hl
  have hl : lv_has ls 6 [(0, .ref (SA 0)), (1, .int x), (2, .int p9), (3, .int y), (4, .int (bI b))] := hl
  have hK := hC.1
  have hS : va_S A s.heap s.heap [] := va_S.rf
  obtain ⟨T, es2, hW, hF⟩ := hW
  have hO := hW.2.1
  have hR1 := hW.2.2.1
  have hR2 := hW.2.2.2.1
  refine lv_aload_n hx hb dX2_stands_0 rfl (lv_at hl 0 rfl) ?_
  refine lv_iload_n hx hb dX2_stands_1 rfl (lv_at hl 1 rfl) ?_
  refine xR_V (A := A) (A1 := A) (b := (SA 0)) (As := [.int x]) (rest := []) ⟨hx, hb, hml, hown, hts⟩ (mX2_textOf (A := A) hst ) (cwV 1 hts (gV tw_3_4 tw_3_6 sel_X2_textOf tw_1_1 tw_3_7) rfl rfl rfl (by decide +kernel) ⟨Nat.le_of_ble_eq_true rfl, Nat.le_of_ble_eq_true rfl⟩) hC hS (fun _ h => h) (fun q h => hA q (Nat.le_trans hS.1 h)) (hW.recv hK) hW rfl rfl hl.1 (Nat.le_of_ble_eq_true rfl) ⟨Nat.le_trans (show 0 + 1 ≤ 2 by omega) (Nat.le_of_ble_eq_true rfl), Nat.le_trans (show 0 + 6 ≤ 12 by omega) (Nat.le_of_ble_eq_true rfl)⟩ dX2_stands_2 hnx hlocks (by omega) (by omega) (fun E H9 q _ => ⟨Or.inl ⟨q.1, q.2.1⟩, _, _, q.2.2, hF⟩) (fun rv23 H23 L23 hP23 hk23 hS => ?_)
  have hZ23 := hS.1
  obtain ⟨⟨i, hi, hxi, hrv⟩, hW⟩ := hP23
  subst hrv
  have hO := hW.2.1
  have hR1 := hW.2.2.1
  have hR2 := hW.2.2.2.1
  have ei := hF i (Or.inl hi)
  refine lv_astore (lv' := [(5, .ref (SA (7 + 2 * i))), (0, .ref (SA 0)), (1, .int x), (2, .int p9), (3, .int y), (4, .int (bI b))]) hx hb dX2_stands_5 hl (by decide) rfl (fun ls hl => ?_)
  refine lv_aload hx hb dX2_stands_7 (lv_at hl 0 rfl) ?_
  refine lv_aload_n hx hb dX2_stands_9 rfl (lv_at hl 1 rfl) ?_
  refine lv_iload_n hx hb dX2_stands_10 rfl (lv_at hl 4 rfl) ?_
  refine xR_V (A := A) (A1 := A) (b := (SA 0)) (As := [.int y]) (rest := .ref (SA (7 + 2 * i)) :: []) ⟨hx, hb, hml, hown, hts⟩ (mX2_knownOf (A := A) hst ) (cwV 1 hts (gV tw_3_162 tw_3_164 sel_X2_knownOf tw_1_1 tw_3_165) rfl rfl rfl (by decide +kernel) ⟨Nat.le_of_ble_eq_true rfl, Nat.le_of_ble_eq_true rfl⟩) hC hS (fun _ h => h) (fun q h => hA q (Nat.le_trans hS.1 h)) (hW.recv hK) hW rfl rfl hl.1 (Nat.le_of_ble_eq_true rfl) ⟨Nat.le_trans (show (0 + 1) + 1 ≤ 2 by omega) (Nat.le_of_ble_eq_true rfl), Nat.le_trans (show (0 + 6) + 6 ≤ 12 by omega) (Nat.le_of_ble_eq_true rfl)⟩ dX2_stands_11 hnx hlocks (by omega) (by omega) (fun E H9 q _ => ⟨Or.inr ⟨q.1, ⟨i, hi, hxi⟩, q.2.1⟩, _, _, q.2.2, hF⟩) (fun rv24 H24 L24 hP24 hk24 hS => ?_)
  have hZ24 := hS.1
  obtain ⟨⟨j, hj, hyj, hrv⟩, hW⟩ := hP24
  rw [show 15 + 2 * j = 7 + 2 * (4 + j) by omega] at hrv
  subst hrv
  have ek := hW.2.2.2.2.2.2.2.2.2 j hj
  refine lv_iload_n hx hb dX2_stands_14 rfl (lv_at hl 3 rfl) ?_
  refine lv_iload hx hb dX2_stands_15 (lv_at hl 5 rfl) ?_
  by_cases hneg : p9 < 0
  · refine kV_i (A := A) (b := (SA (7 + 2 * i))) (As := [.ref (SA (7 + 2 * (4 + j))), .int p9, .int (bI b)]) (rest := []) ⟨hx, hb, hml, hown, hts⟩ (mX0_standsAt_n (A := A) (ca := SA (8 + 2 * i)) (cb := SA (8 + 2 * (4 + j))) (b0 := b) hneg) (cwV 3 hts (gV tw_2_94 tw_2_16 tw_2_17 tw_1_2 tw_2_18) rfl rfl rfl (by decide +kernel) ⟨Nat.le_of_ble_eq_true rfl, Nat.le_of_ble_eq_true rfl⟩) hC hS hA ((hW.line (i := i) (by omega)).recv hK) ⟨hW.line (i := i) (by omega), hW.line (i := (4 + j)) (by omega)⟩ rfl rfl hl.1 (Nat.le_of_ble_eq_true rfl) ⟨Nat.le_trans (show ((0 + 1) + 1) ≤ 2 by omega) (Nat.le_of_ble_eq_true rfl), Nat.le_trans (show ((0 + 6) + 6) ≤ 12 by omega) (Nat.le_of_ble_eq_true rfl)⟩ dX2_stands_17 (fun r9 h9 => lv_cv h9 ?_)
    exact vx_ret (q_z (b9 := false) hx hb hr hlocks dX2_stands_20 hS (by omega) (by omega) ⟨i, j, false, hi, hxi, hj, hyj, ⟨fun q => Bool.noConfusion q, fun ⟨a9, w1, w2, w3⟩ => by rw [w2] at hneg; exact absurd hneg (nI_pos w1)⟩, rfl, _, _, hW, hF⟩)
  · obtain ⟨a9, ha31, rfl⟩ := nI_of hneg
    refine kV_i (A := A) (b := (SA (7 + 2 * i))) (As := [.ref (SA (7 + 2 * (4 + j))), .int (nI a9), .int (bI b)]) (rest := []) ⟨hx, hb, hml, hown, hts⟩ (mX0_standsAt (A := A) (ca := SA (8 + 2 * i)) (cb := SA (8 + 2 * (4 + j))) (i := a9) (b0 := b) (by omega)) (cwV 3 hts (gV tw_2_94 tw_2_16 tw_2_17 tw_1_2 tw_2_18) rfl rfl rfl (by decide +kernel) ⟨Nat.le_of_ble_eq_true rfl, Nat.le_of_ble_eq_true rfl⟩) hC hS hA ((hW.line (i := i) (by omega)).recv hK) ⟨hW.line (i := i) (by omega), hW.line (i := (4 + j)) (by omega)⟩ rfl rfl hl.1 (Nat.le_of_ble_eq_true rfl) ⟨Nat.le_trans (show ((0 + 1) + 1) ≤ 2 by omega) (Nat.le_of_ble_eq_true rfl), Nat.le_trans (show ((0 + 6) + 6) ≤ 12 by omega) (Nat.le_of_ble_eq_true rfl)⟩ dX2_stands_17 (fun r_25 hr_25 => ?_)
    obtain ⟨v, hv, rfl⟩ := hr_25
    rw [ei, ek] at hv
    exact vx_ret (q_z (b9 := v) hx hb hr hlocks dX2_stands_20 hS (by omega) (by omega) ⟨i, j, v, hi, hxi, hj, hyj, ⟨fun q => ⟨a9, ha31, rfl, hv.mp q⟩, fun ⟨a0, w1, w2, w3⟩ => hv.mpr (by rw [(nI_eq ha31 w1).mp w2]; exact w3)⟩, rfl, _, _, hW, hF⟩)

abbrev rmX2_firstOf : Room := { frames := 7, cells := 2, slots := 12, locals := 110 }
theorem mX2_firstOf {l : Launch} {G : Cx} {A : Nat → Prop} (hst : l.stackTraces = false) {SA : Nat → Nat} {X : Nat → List Nat} {es : List Nat} {k : Int32} {x y : Int32} (hAS : ∀ i : Nat, i < 39 → A (SA i)) : vx_Met l yX2_firstOf (.code yX2_firstOf cX2_firstOf 3 (some .int) :: GW) rmX2_firstOf (PC G A [.ref (SA 0), .int x, .int y] (SS G SA X es k)) (qI A (fun r H => ∃ i j : Nat, i < 4 ∧ x = nI i ∧ j < 4 ∧ y = nI j ∧ fstR (fun k9 => stL false (X i) (X j) k9) r ∧ SS G SA X es k H)) (xE A (fun E H => (E = "java/lang/IndexOutOfBoundsException" ∧ (NT x ∨ NT y)) ∧ SS G SA X es k H)) 2 12 A := by
  refine mstartX "Signtext" (by decide +kernel) rfl (Nat.le_of_ble_eq_true rfl) ?_
  intro p e s m below meth c ls hx hb hr hts hown hml hlocks hnx hC hA hW hl
  have hl : lv_has ls 3 [(0, .ref (SA 0)), (1, .int x), (2, .int y)] := hl
  have hK := hC.1
  have hS : va_S A s.heap s.heap [] := va_S.rf
  obtain ⟨T, es2, hW, hF⟩ := hW
  have hO := hW.2.1
  have hR1 := hW.2.2.1
  have hR2 := hW.2.2.2.1
  refine lv_aload_n hx hb dX2_firstOf_0 rfl (lv_at hl 0 rfl) ?_
  refine lv_iload_n hx hb dX2_firstOf_1 rfl (lv_at hl 1 rfl) ?_
  refine xR_V (A := A) (A1 := A) (b := (SA 0)) (As := [.int x]) (rest := []) ⟨hx, hb, hml, hown, hts⟩ (mX2_textOf (A := A) hst ) (cwV 1 hts (gV tw_3_4 tw_3_6 sel_X2_textOf tw_1_1 tw_3_7) rfl rfl rfl (by decide +kernel) ⟨Nat.le_of_ble_eq_true rfl, Nat.le_of_ble_eq_true rfl⟩) hC hS (fun _ h => h) (fun q h => hA q (Nat.le_trans hS.1 h)) (hW.recv hK) hW rfl rfl hl.1 (Nat.le_of_ble_eq_true rfl) ⟨Nat.le_trans (show 0 + 1 ≤ 2 by omega) (Nat.le_of_ble_eq_true rfl), Nat.le_trans (show 0 + 6 ≤ 12 by omega) (Nat.le_of_ble_eq_true rfl)⟩ dX2_firstOf_2 hnx hlocks (by omega) (by omega) (fun E H9 q _ => ⟨⟨q.1, Or.inl q.2.1⟩, _, _, q.2.2, hF⟩) (fun rv26 H26 L26 hP26 hk26 hS => ?_)
  have hZ26 := hS.1
  obtain ⟨⟨i, hi, hxi, hrv⟩, hW⟩ := hP26
  subst hrv
  have hO := hW.2.1
  have hR1 := hW.2.2.1
  have hR2 := hW.2.2.2.1
  have ei := hF i (Or.inl hi)
  refine lv_aload_n hx hb dX2_firstOf_5 rfl (lv_at hl 0 rfl) ?_
  refine lv_iload_n hx hb dX2_firstOf_6 rfl (lv_at hl 2 rfl) ?_
  refine xR_V (A := A) (A1 := A) (b := (SA 0)) (As := [.int y]) (rest := .ref (SA (7 + 2 * i)) :: []) ⟨hx, hb, hml, hown, hts⟩ (mX2_textOf (A := A) hst ) (cwV 1 hts (gV tw_3_4 tw_3_6 sel_X2_textOf tw_1_1 tw_3_7) rfl rfl rfl (by decide +kernel) ⟨Nat.le_of_ble_eq_true rfl, Nat.le_of_ble_eq_true rfl⟩) hC hS (fun _ h => h) (fun q h => hA q (Nat.le_trans hS.1 h)) (hW.recv hK) hW rfl rfl hl.1 (Nat.le_of_ble_eq_true rfl) ⟨Nat.le_trans (show (0 + 1) + 1 ≤ 2 by omega) (Nat.le_of_ble_eq_true rfl), Nat.le_trans (show (0 + 6) + 6 ≤ 12 by omega) (Nat.le_of_ble_eq_true rfl)⟩ dX2_firstOf_7 hnx hlocks (by omega) (by omega) (fun E H9 q _ => ⟨⟨q.1, Or.inr q.2.1⟩, _, _, q.2.2, hF⟩) (fun rv27 H27 L27 hP27 hk27 hS => ?_)
  have hZ27 := hS.1
  obtain ⟨⟨j, hj, hxj, hrv⟩, hW⟩ := hP27
  subst hrv
  have hO := hW.2.1
  have hR1 := hW.2.2.1
  have hR2 := hW.2.2.2.1
  have ej := hF j (Or.inl hj)
  refine kV_i (A := A) (b := (SA (7 + 2 * i))) (As := [.ref (SA (7 + 2 * j))]) (rest := []) ⟨hx, hb, hml, hown, hts⟩ (mX0_firstPlaceOf (A := A) (ca := SA (8 + 2 * i)) (cb := SA (8 + 2 * j)) ) (cwV 1 hts (gV tw_2_102 tw_2_103 tw_2_104 tw_1_2 tw_2_105) rfl rfl rfl (by decide +kernel) ⟨Nat.le_of_ble_eq_true rfl, Nat.le_of_ble_eq_true rfl⟩) hC hS hA ((hW.line (i := i) (by omega)).recv hK) ⟨hW.line (i := i) (by omega), hW.line (i := j) (by omega)⟩ rfl rfl hl.1 (Nat.le_of_ble_eq_true rfl) ⟨Nat.le_trans (show ((0 + 1) + 1) ≤ 2 by omega) (Nat.le_of_ble_eq_true rfl), Nat.le_trans (show ((0 + 6) + 6) ≤ 12 by omega) (Nat.le_of_ble_eq_true rfl)⟩ dX2_firstOf_10 (fun r_28 hr_28 => ?_)
  have h7 : fstR (fun k9 => stL false (T i) (T j) k9) r_28 := hr_28
  rw [ei, ej] at h7
  exact vx_ret (q_i hx hb hr hlocks dX2_firstOf_13 hS (by omega) (by omega) ⟨i, j, hi, hxi, hj, hxj, h7, _, _, hW, hF⟩)

abbrev rmX2_lastOf : Room := { frames := 7, cells := 2, slots := 12, locals := 110 }
theorem mX2_lastOf {l : Launch} {G : Cx} {A : Nat → Prop} (hst : l.stackTraces = false) {SA : Nat → Nat} {X : Nat → List Nat} {es : List Nat} {k : Int32} {x y : Int32} (hAS : ∀ i : Nat, i < 39 → A (SA i)) : vx_Met l yX2_lastOf (.code yX2_lastOf cX2_lastOf 3 (some .int) :: GW) rmX2_lastOf (PC G A [.ref (SA 0), .int x, .int y] (SS G SA X es k)) (qI A (fun r H => ∃ i j : Nat, i < 4 ∧ x = nI i ∧ j < 4 ∧ y = nI j ∧ lstR (fun k9 => stL false (X i) (X j) k9) r ∧ SS G SA X es k H)) (xE A (fun E H => (E = "java/lang/IndexOutOfBoundsException" ∧ (NT x ∨ NT y)) ∧ SS G SA X es k H)) 2 12 A := by
  refine mstartX "Signtext" (by decide +kernel) rfl (Nat.le_of_ble_eq_true rfl) ?_
  intro p e s m below meth c ls hx hb hr hts hown hml hlocks hnx hC hA hW hl
  have hl : lv_has ls 3 [(0, .ref (SA 0)), (1, .int x), (2, .int y)] := hl
  have hK := hC.1
  have hS : va_S A s.heap s.heap [] := va_S.rf
  obtain ⟨T, es2, hW, hF⟩ := hW
  have hO := hW.2.1
  have hR1 := hW.2.2.1
  have hR2 := hW.2.2.2.1
  refine lv_aload_n hx hb dX2_lastOf_0 rfl (lv_at hl 0 rfl) ?_
  refine lv_iload_n hx hb dX2_lastOf_1 rfl (lv_at hl 1 rfl) ?_
  refine xR_V (A := A) (A1 := A) (b := (SA 0)) (As := [.int x]) (rest := []) ⟨hx, hb, hml, hown, hts⟩ (mX2_textOf (A := A) hst ) (cwV 1 hts (gV tw_3_4 tw_3_6 sel_X2_textOf tw_1_1 tw_3_7) rfl rfl rfl (by decide +kernel) ⟨Nat.le_of_ble_eq_true rfl, Nat.le_of_ble_eq_true rfl⟩) hC hS (fun _ h => h) (fun q h => hA q (Nat.le_trans hS.1 h)) (hW.recv hK) hW rfl rfl hl.1 (Nat.le_of_ble_eq_true rfl) ⟨Nat.le_trans (show 0 + 1 ≤ 2 by omega) (Nat.le_of_ble_eq_true rfl), Nat.le_trans (show 0 + 6 ≤ 12 by omega) (Nat.le_of_ble_eq_true rfl)⟩ dX2_lastOf_2 hnx hlocks (by omega) (by omega) (fun E H9 q _ => ⟨⟨q.1, Or.inl q.2.1⟩, _, _, q.2.2, hF⟩) (fun rv29 H29 L29 hP29 hk29 hS => ?_)
  have hZ29 := hS.1
  obtain ⟨⟨i, hi, hxi, hrv⟩, hW⟩ := hP29
  subst hrv
  have hO := hW.2.1
  have hR1 := hW.2.2.1
  have hR2 := hW.2.2.2.1
  have ei := hF i (Or.inl hi)
  refine lv_aload_n hx hb dX2_lastOf_5 rfl (lv_at hl 0 rfl) ?_
  refine lv_iload_n hx hb dX2_lastOf_6 rfl (lv_at hl 2 rfl) ?_
  refine xR_V (A := A) (A1 := A) (b := (SA 0)) (As := [.int y]) (rest := .ref (SA (7 + 2 * i)) :: []) ⟨hx, hb, hml, hown, hts⟩ (mX2_textOf (A := A) hst ) (cwV 1 hts (gV tw_3_4 tw_3_6 sel_X2_textOf tw_1_1 tw_3_7) rfl rfl rfl (by decide +kernel) ⟨Nat.le_of_ble_eq_true rfl, Nat.le_of_ble_eq_true rfl⟩) hC hS (fun _ h => h) (fun q h => hA q (Nat.le_trans hS.1 h)) (hW.recv hK) hW rfl rfl hl.1 (Nat.le_of_ble_eq_true rfl) ⟨Nat.le_trans (show (0 + 1) + 1 ≤ 2 by omega) (Nat.le_of_ble_eq_true rfl), Nat.le_trans (show (0 + 6) + 6 ≤ 12 by omega) (Nat.le_of_ble_eq_true rfl)⟩ dX2_lastOf_7 hnx hlocks (by omega) (by omega) (fun E H9 q _ => ⟨⟨q.1, Or.inr q.2.1⟩, _, _, q.2.2, hF⟩) (fun rv30 H30 L30 hP30 hk30 hS => ?_)
  have hZ30 := hS.1
  obtain ⟨⟨j, hj, hxj, hrv⟩, hW⟩ := hP30
  subst hrv
  have hO := hW.2.1
  have hR1 := hW.2.2.1
  have hR2 := hW.2.2.2.1
  have ej := hF j (Or.inl hj)
  refine kV_i (A := A) (b := (SA (7 + 2 * i))) (As := [.ref (SA (7 + 2 * j))]) (rest := []) ⟨hx, hb, hml, hown, hts⟩ (mX0_lastPlaceOf (A := A) (ca := SA (8 + 2 * i)) (cb := SA (8 + 2 * j)) ) (cwV 1 hts (gV tw_2_106 tw_2_107 tw_2_108 tw_1_2 tw_2_109) rfl rfl rfl (by decide +kernel) ⟨Nat.le_of_ble_eq_true rfl, Nat.le_of_ble_eq_true rfl⟩) hC hS hA ((hW.line (i := i) (by omega)).recv hK) ⟨hW.line (i := i) (by omega), hW.line (i := j) (by omega)⟩ rfl rfl hl.1 (Nat.le_of_ble_eq_true rfl) ⟨Nat.le_trans (show ((0 + 1) + 1) ≤ 2 by omega) (Nat.le_of_ble_eq_true rfl), Nat.le_trans (show ((0 + 6) + 6) ≤ 12 by omega) (Nat.le_of_ble_eq_true rfl)⟩ dX2_lastOf_10 (fun r_31 hr_31 => ?_)
  have h7 : lstR (fun k9 => stL false (T i) (T j) k9) r_31 := hr_31
  rw [ei, ej] at h7
  exact vx_ret (q_i hx hb hr hlocks dX2_lastOf_13 hS (by omega) (by omega) ⟨i, j, hi, hxi, hj, hxj, h7, _, _, hW, hF⟩)

abbrev rmX2_isIn : Room := { frames := 7, cells := 2, slots := 12, locals := 110 }
theorem mX2_isIn {l : Launch} {G : Cx} {A : Nat → Prop} (hst : l.stackTraces = false) {SA : Nat → Nat} {X : Nat → List Nat} {es : List Nat} {k : Int32} {x y : Int32} (hAS : ∀ i : Nat, i < 39 → A (SA i)) : vx_Met l yX2_isIn (.code yX2_isIn cX2_isIn 3 (some .boolean) :: GW) rmX2_isIn (PC G A [.ref (SA 0), .int x, .int y] (SS G SA X es k)) (qI A (fun r H => ∃ i j : Nat, i < 4 ∧ x = nI i ∧ j < 4 ∧ y = nI j ∧ (∃ v : Bool, (v = true ↔ ∃ k9, stL false (X i) (X j) k9) ∧ r = bI v) ∧ SS G SA X es k H)) (xE A (fun E H => (E = "java/lang/IndexOutOfBoundsException" ∧ (NT x ∨ NT y)) ∧ SS G SA X es k H)) 2 12 A := by
  refine mstartX "Signtext" (by decide +kernel) rfl (Nat.le_of_ble_eq_true rfl) ?_
  intro p e s m below meth c ls hx hb hr hts hown hml hlocks hnx hC hA hW hl
  have hl : lv_has ls 3 [(0, .ref (SA 0)), (1, .int x), (2, .int y)] := hl
  have hK := hC.1
  have hS : va_S A s.heap s.heap [] := va_S.rf
  obtain ⟨T, es2, hW, hF⟩ := hW
  have hO := hW.2.1
  have hR1 := hW.2.2.1
  have hR2 := hW.2.2.2.1
  refine lv_aload_n hx hb dX2_isIn_0 rfl (lv_at hl 0 rfl) ?_
  refine lv_iload_n hx hb dX2_isIn_1 rfl (lv_at hl 1 rfl) ?_
  refine xR_V (A := A) (A1 := A) (b := (SA 0)) (As := [.int x]) (rest := []) ⟨hx, hb, hml, hown, hts⟩ (mX2_textOf (A := A) hst ) (cwV 1 hts (gV tw_3_4 tw_3_6 sel_X2_textOf tw_1_1 tw_3_7) rfl rfl rfl (by decide +kernel) ⟨Nat.le_of_ble_eq_true rfl, Nat.le_of_ble_eq_true rfl⟩) hC hS (fun _ h => h) (fun q h => hA q (Nat.le_trans hS.1 h)) (hW.recv hK) hW rfl rfl hl.1 (Nat.le_of_ble_eq_true rfl) ⟨Nat.le_trans (show 0 + 1 ≤ 2 by omega) (Nat.le_of_ble_eq_true rfl), Nat.le_trans (show 0 + 6 ≤ 12 by omega) (Nat.le_of_ble_eq_true rfl)⟩ dX2_isIn_2 hnx hlocks (by omega) (by omega) (fun E H9 q _ => ⟨⟨q.1, Or.inl q.2.1⟩, _, _, q.2.2, hF⟩) (fun rv32 H32 L32 hP32 hk32 hS => ?_)
  have hZ32 := hS.1
  obtain ⟨⟨i, hi, hxi, hrv⟩, hW⟩ := hP32
  subst hrv
  have hO := hW.2.1
  have hR1 := hW.2.2.1
  have hR2 := hW.2.2.2.1
  have ei := hF i (Or.inl hi)
  refine lv_aload_n hx hb dX2_isIn_5 rfl (lv_at hl 0 rfl) ?_
  refine lv_iload_n hx hb dX2_isIn_6 rfl (lv_at hl 2 rfl) ?_
  refine xR_V (A := A) (A1 := A) (b := (SA 0)) (As := [.int y]) (rest := .ref (SA (7 + 2 * i)) :: []) ⟨hx, hb, hml, hown, hts⟩ (mX2_textOf (A := A) hst ) (cwV 1 hts (gV tw_3_4 tw_3_6 sel_X2_textOf tw_1_1 tw_3_7) rfl rfl rfl (by decide +kernel) ⟨Nat.le_of_ble_eq_true rfl, Nat.le_of_ble_eq_true rfl⟩) hC hS (fun _ h => h) (fun q h => hA q (Nat.le_trans hS.1 h)) (hW.recv hK) hW rfl rfl hl.1 (Nat.le_of_ble_eq_true rfl) ⟨Nat.le_trans (show (0 + 1) + 1 ≤ 2 by omega) (Nat.le_of_ble_eq_true rfl), Nat.le_trans (show (0 + 6) + 6 ≤ 12 by omega) (Nat.le_of_ble_eq_true rfl)⟩ dX2_isIn_7 hnx hlocks (by omega) (by omega) (fun E H9 q _ => ⟨⟨q.1, Or.inr q.2.1⟩, _, _, q.2.2, hF⟩) (fun rv33 H33 L33 hP33 hk33 hS => ?_)
  have hZ33 := hS.1
  obtain ⟨⟨j, hj, hxj, hrv⟩, hW⟩ := hP33
  subst hrv
  have hO := hW.2.1
  have hR1 := hW.2.2.1
  have hR2 := hW.2.2.2.1
  have ej := hF j (Or.inl hj)
  refine kV_i (A := A) (b := (SA (7 + 2 * i))) (As := [.ref (SA (7 + 2 * j))]) (rest := []) ⟨hx, hb, hml, hown, hts⟩ (mX0_holds (A := A) (ca := SA (8 + 2 * i)) (cb := SA (8 + 2 * j)) ) (cwV 1 hts (gV tw_2_114 tw_2_115 tw_2_116 tw_1_2 tw_2_117) rfl rfl rfl (by decide +kernel) ⟨Nat.le_of_ble_eq_true rfl, Nat.le_of_ble_eq_true rfl⟩) hC hS hA ((hW.line (i := i) (by omega)).recv hK) ⟨hW.line (i := i) (by omega), hW.line (i := j) (by omega)⟩ rfl rfl hl.1 (Nat.le_of_ble_eq_true rfl) ⟨Nat.le_trans (show ((0 + 1) + 1) ≤ 2 by omega) (Nat.le_of_ble_eq_true rfl), Nat.le_trans (show ((0 + 6) + 6) ≤ 12 by omega) (Nat.le_of_ble_eq_true rfl)⟩ dX2_isIn_10 (fun r_34 hr_34 => ?_)
  obtain ⟨v, hv, rfl⟩ := hr_34
  rw [ei, ej] at hv
  exact vx_ret (q_z (b9 := v) hx hb hr hlocks dX2_isIn_13 hS (by omega) (by omega) ⟨i, j, hi, hxi, hj, hxj, ⟨v, hv, rfl⟩, _, _, hW, hF⟩)

abbrev rmX2_isSame : Room := { frames := 7, cells := 2, slots := 12, locals := 110 }
theorem mX2_isSame {l : Launch} {G : Cx} {A : Nat → Prop} (hst : l.stackTraces = false) {SA : Nat → Nat} {X : Nat → List Nat} {es : List Nat} {k : Int32} {x y : Int32} {b : Bool} (hAS : ∀ i : Nat, i < 39 → A (SA i)) : vx_Met l yX2_isSame (.code yX2_isSame cX2_isSame 4 (some .boolean) :: GW) rmX2_isSame (PC G A [.ref (SA 0), .int x, .int y, .int (bI b)] (SS G SA X es k)) (qI A (fun r H => ∃ i j : Nat, i < 4 ∧ x = nI i ∧ j < 4 ∧ y = nI j ∧ (∃ v : Bool, (v = true ↔ (X i).length = (X j).length ∧ stL b (X i) (X j) 0) ∧ r = bI v) ∧ SS G SA X es k H)) (xE A (fun E H => (E = "java/lang/IndexOutOfBoundsException" ∧ (NT x ∨ NT y)) ∧ SS G SA X es k H)) 2 12 A := by
  refine mstartX "Signtext" (by decide +kernel) rfl (Nat.le_of_ble_eq_true rfl) ?_
  intro p e s m below meth c ls hx hb hr hts hown hml hlocks hnx hC hA hW hl
  have hl : lv_has ls 4 [(0, .ref (SA 0)), (1, .int x), (2, .int y), (3, .int (bI b))] := hl
  have hK := hC.1
  have hS : va_S A s.heap s.heap [] := va_S.rf
  obtain ⟨T, es2, hW, hF⟩ := hW
  have hO := hW.2.1
  have hR1 := hW.2.2.1
  have hR2 := hW.2.2.2.1
  refine lv_aload_n hx hb dX2_isSame_0 rfl (lv_at hl 0 rfl) ?_
  refine lv_iload_n hx hb dX2_isSame_1 rfl (lv_at hl 1 rfl) ?_
  refine xR_V (A := A) (A1 := A) (b := (SA 0)) (As := [.int x]) (rest := []) ⟨hx, hb, hml, hown, hts⟩ (mX2_textOf (A := A) hst ) (cwV 1 hts (gV tw_3_4 tw_3_6 sel_X2_textOf tw_1_1 tw_3_7) rfl rfl rfl (by decide +kernel) ⟨Nat.le_of_ble_eq_true rfl, Nat.le_of_ble_eq_true rfl⟩) hC hS (fun _ h => h) (fun q h => hA q (Nat.le_trans hS.1 h)) (hW.recv hK) hW rfl rfl hl.1 (Nat.le_of_ble_eq_true rfl) ⟨Nat.le_trans (show 0 + 1 ≤ 2 by omega) (Nat.le_of_ble_eq_true rfl), Nat.le_trans (show 0 + 6 ≤ 12 by omega) (Nat.le_of_ble_eq_true rfl)⟩ dX2_isSame_2 hnx hlocks (by omega) (by omega) (fun E H9 q _ => ⟨⟨q.1, Or.inl q.2.1⟩, _, _, q.2.2, hF⟩) (fun rv35 H35 L35 hP35 hk35 hS => ?_)
  have hZ35 := hS.1
  obtain ⟨⟨i, hi, hxi, hrv⟩, hW⟩ := hP35
  subst hrv
  have hO := hW.2.1
  have hR1 := hW.2.2.1
  have hR2 := hW.2.2.2.1
  have ei := hF i (Or.inl hi)
  refine lv_aload_n hx hb dX2_isSame_5 rfl (lv_at hl 0 rfl) ?_
  refine lv_iload_n hx hb dX2_isSame_6 rfl (lv_at hl 2 rfl) ?_
  refine xR_V (A := A) (A1 := A) (b := (SA 0)) (As := [.int y]) (rest := .ref (SA (7 + 2 * i)) :: []) ⟨hx, hb, hml, hown, hts⟩ (mX2_textOf (A := A) hst ) (cwV 1 hts (gV tw_3_4 tw_3_6 sel_X2_textOf tw_1_1 tw_3_7) rfl rfl rfl (by decide +kernel) ⟨Nat.le_of_ble_eq_true rfl, Nat.le_of_ble_eq_true rfl⟩) hC hS (fun _ h => h) (fun q h => hA q (Nat.le_trans hS.1 h)) (hW.recv hK) hW rfl rfl hl.1 (Nat.le_of_ble_eq_true rfl) ⟨Nat.le_trans (show (0 + 1) + 1 ≤ 2 by omega) (Nat.le_of_ble_eq_true rfl), Nat.le_trans (show (0 + 6) + 6 ≤ 12 by omega) (Nat.le_of_ble_eq_true rfl)⟩ dX2_isSame_7 hnx hlocks (by omega) (by omega) (fun E H9 q _ => ⟨⟨q.1, Or.inr q.2.1⟩, _, _, q.2.2, hF⟩) (fun rv36 H36 L36 hP36 hk36 hS => ?_)
  have hZ36 := hS.1
  obtain ⟨⟨j, hj, hxj, hrv⟩, hW⟩ := hP36
  subst hrv
  have hO := hW.2.1
  have hR1 := hW.2.2.1
  have hR2 := hW.2.2.2.1
  have ej := hF j (Or.inl hj)
  refine lv_iload_n hx hb dX2_isSame_10 rfl (lv_at hl 3 rfl) ?_
  refine kV_i (A := A) (b := (SA (7 + 2 * i))) (As := [.ref (SA (7 + 2 * j)), .int (bI b)]) (rest := []) ⟨hx, hb, hml, hown, hts⟩ (mX0_isSameAs (A := A) (ca := SA (8 + 2 * i)) (cb := SA (8 + 2 * j)) (b0 := b)) (cwV 2 hts (gV tw_2_7 tw_2_8 tw_2_9 tw_1_2 tw_2_10) rfl rfl rfl (by decide +kernel) ⟨Nat.le_of_ble_eq_true rfl, Nat.le_of_ble_eq_true rfl⟩) hC hS hA ((hW.line (i := i) (by omega)).recv hK) ⟨hW.line (i := i) (by omega), hW.line (i := j) (by omega)⟩ rfl rfl hl.1 (Nat.le_of_ble_eq_true rfl) ⟨Nat.le_trans (show ((0 + 1) + 1) ≤ 2 by omega) (Nat.le_of_ble_eq_true rfl), Nat.le_trans (show ((0 + 6) + 6) ≤ 12 by omega) (Nat.le_of_ble_eq_true rfl)⟩ dX2_isSame_11 (fun r_37 hr_37 => ?_)
  obtain ⟨v, hv, rfl⟩ := hr_37
  rw [ei, ej] at hv
  exact vx_ret (q_z (b9 := v) hx hb hr hlocks dX2_isSame_14 hS (by omega) (by omega) ⟨i, j, hi, hxi, hj, hxj, ⟨v, hv, rfl⟩, _, _, hW, hF⟩)

abbrev rmX2_order : Room := { frames := 7, cells := 2, slots := 12, locals := 110 }
theorem mX2_order {l : Launch} {G : Cx} {A : Nat → Prop} (hst : l.stackTraces = false) {SA : Nat → Nat} {X : Nat → List Nat} {es : List Nat} {k : Int32} {x y : Int32} (hAS : ∀ i : Nat, i < 39 → A (SA i)) : vx_Met l yX2_order (.code yX2_order cX2_order 3 (some .int) :: GW) rmX2_order (PC G A [.ref (SA 0), .int x, .int y] (SS G SA X es k)) (qI A (fun r H => ∃ i j : Nat, i < 4 ∧ x = nI i ∧ j < 4 ∧ y = nI j ∧ ordR false (X i) (X j) r ∧ SS G SA X es k H)) (xE A (fun E H => (E = "java/lang/IndexOutOfBoundsException" ∧ (NT x ∨ NT y)) ∧ SS G SA X es k H)) 2 12 A := by
  refine mstartX "Signtext" (by decide +kernel) rfl (Nat.le_of_ble_eq_true rfl) ?_
  intro p e s m below meth c ls hx hb hr hts hown hml hlocks hnx hC hA hW hl
  have hl : lv_has ls 3 [(0, .ref (SA 0)), (1, .int x), (2, .int y)] := hl
  have hK := hC.1
  have hS : va_S A s.heap s.heap [] := va_S.rf
  obtain ⟨T, es2, hW, hF⟩ := hW
  have hO := hW.2.1
  have hR1 := hW.2.2.1
  have hR2 := hW.2.2.2.1
  refine lv_aload_n hx hb dX2_order_0 rfl (lv_at hl 0 rfl) ?_
  refine lv_iload_n hx hb dX2_order_1 rfl (lv_at hl 1 rfl) ?_
  refine xR_V (A := A) (A1 := A) (b := (SA 0)) (As := [.int x]) (rest := []) ⟨hx, hb, hml, hown, hts⟩ (mX2_textOf (A := A) hst ) (cwV 1 hts (gV tw_3_4 tw_3_6 sel_X2_textOf tw_1_1 tw_3_7) rfl rfl rfl (by decide +kernel) ⟨Nat.le_of_ble_eq_true rfl, Nat.le_of_ble_eq_true rfl⟩) hC hS (fun _ h => h) (fun q h => hA q (Nat.le_trans hS.1 h)) (hW.recv hK) hW rfl rfl hl.1 (Nat.le_of_ble_eq_true rfl) ⟨Nat.le_trans (show 0 + 1 ≤ 2 by omega) (Nat.le_of_ble_eq_true rfl), Nat.le_trans (show 0 + 6 ≤ 12 by omega) (Nat.le_of_ble_eq_true rfl)⟩ dX2_order_2 hnx hlocks (by omega) (by omega) (fun E H9 q _ => ⟨⟨q.1, Or.inl q.2.1⟩, _, _, q.2.2, hF⟩) (fun rv38 H38 L38 hP38 hk38 hS => ?_)
  have hZ38 := hS.1
  obtain ⟨⟨i, hi, hxi, hrv⟩, hW⟩ := hP38
  subst hrv
  have hO := hW.2.1
  have hR1 := hW.2.2.1
  have hR2 := hW.2.2.2.1
  have ei := hF i (Or.inl hi)
  refine lv_aload_n hx hb dX2_order_5 rfl (lv_at hl 0 rfl) ?_
  refine lv_iload_n hx hb dX2_order_6 rfl (lv_at hl 2 rfl) ?_
  refine xR_V (A := A) (A1 := A) (b := (SA 0)) (As := [.int y]) (rest := .ref (SA (7 + 2 * i)) :: []) ⟨hx, hb, hml, hown, hts⟩ (mX2_textOf (A := A) hst ) (cwV 1 hts (gV tw_3_4 tw_3_6 sel_X2_textOf tw_1_1 tw_3_7) rfl rfl rfl (by decide +kernel) ⟨Nat.le_of_ble_eq_true rfl, Nat.le_of_ble_eq_true rfl⟩) hC hS (fun _ h => h) (fun q h => hA q (Nat.le_trans hS.1 h)) (hW.recv hK) hW rfl rfl hl.1 (Nat.le_of_ble_eq_true rfl) ⟨Nat.le_trans (show (0 + 1) + 1 ≤ 2 by omega) (Nat.le_of_ble_eq_true rfl), Nat.le_trans (show (0 + 6) + 6 ≤ 12 by omega) (Nat.le_of_ble_eq_true rfl)⟩ dX2_order_7 hnx hlocks (by omega) (by omega) (fun E H9 q _ => ⟨⟨q.1, Or.inr q.2.1⟩, _, _, q.2.2, hF⟩) (fun rv39 H39 L39 hP39 hk39 hS => ?_)
  have hZ39 := hS.1
  obtain ⟨⟨j, hj, hxj, hrv⟩, hW⟩ := hP39
  subst hrv
  have hO := hW.2.1
  have hR1 := hW.2.2.1
  have hR2 := hW.2.2.2.1
  have ej := hF j (Or.inl hj)
  refine lv_iconst (v := nI 0) hx hb dX2_order_10 (by decide) ?_
  refine kV_i (A := A) (b := (SA (7 + 2 * i))) (As := [.ref (SA (7 + 2 * j)), .int (bI false)]) (rest := []) ⟨hx, hb, hml, hown, hts⟩ (mX0_orderTo (A := A) (ca := SA (8 + 2 * i)) (cb := SA (8 + 2 * j)) (b0 := false)) (cwV 2 hts (gV tw_2_98 tw_2_99 tw_2_100 tw_1_2 tw_2_101) rfl rfl rfl (by decide +kernel) ⟨Nat.le_of_ble_eq_true rfl, Nat.le_of_ble_eq_true rfl⟩) hC hS hA ((hW.line (i := i) (by omega)).recv hK) ⟨hW.line (i := i) (by omega), hW.line (i := j) (by omega)⟩ rfl rfl hl.1 (Nat.le_of_ble_eq_true rfl) ⟨Nat.le_trans (show ((0 + 1) + 1) ≤ 2 by omega) (Nat.le_of_ble_eq_true rfl), Nat.le_trans (show ((0 + 6) + 6) ≤ 12 by omega) (Nat.le_of_ble_eq_true rfl)⟩ dX2_order_11 (fun r_40 hr_40 => ?_)
  have h7 : ordR false (T i) (T j) r_40 := hr_40
  rw [ei, ej] at h7
  exact vx_ret (q_i hx hb hr hlocks dX2_order_14 hS (by omega) (by omega) ⟨i, j, hi, hxi, hj, hxj, h7, _, _, hW, hF⟩)

abbrev rmJ6_compare_7cf53 : Room := { frames := 0, cells := 0, slots := 0, locals := 0 }
theorem mJ6_compare_7cf53 {l : Launch} {G : Cx} {A : Nat → Prop} {x : Int32} : Met l yJ6_compare_7cf53 (.code yJ6_compare_7cf53 cJ6_compare_7cf53 2 (some .int) :: GW) rmJ6_compare_7cf53 (PC G A [.int x, .int (nI 0)] (fun _ => True)) (vp_Si (fun r => r = sgI x)) 0 0 (fun _ => False) := by
  refine mstart "java/lang/Integer" (by decide +kernel) rfl (Nat.le_of_ble_eq_true rfl) ?_
  intro p e s m below meth c ls hx hb hr hts hown hml hlocks hname hC hA hW hl
  have hl : lv_has ls 2 [(0, .int x), (1, .int (nI 0))] := hl
  have hK := hC.1
  have hS : va_S A s.heap s.heap [] := va_S.rf
  refine lv_iload_n hx hb dJ6_compare_7cf53_0 rfl (lv_at hl 0 rfl) ?_
  refine lv_iload_n hx hb dJ6_compare_7cf53_1 rfl (lv_at hl 1 rfl) ?_
  refine lv_icmp_ge (tgt := 9) hx hb dJ6_compare_7cf53_2 (by decide) (fun c_41 => ?_) (fun c_41 => ?_)
  · refine lv_iload_n hx hb dJ6_compare_7cf53_9 rfl (lv_at hl 0 rfl) ?_
    refine lv_iload_n hx hb dJ6_compare_7cf53_10 rfl (lv_at hl 1 rfl) ?_
    refine lv_icmp_ne (tgt := 18) hx hb dJ6_compare_7cf53_11 (by decide) (fun c_42 => ?_) (fun c_42 => ?_)
    · refine lv_iconst (v := nI 1) hx hb dJ6_compare_7cf53_18 (by decide) ?_
      exact p_i hx hb hr hlocks dJ6_compare_7cf53_19 (by unfold sgI; rw [if_neg (show ¬ x < 0 from (fun q => absurd c_41 (Int32.not_le.mpr q))), if_neg (show ¬ x = 0 from c_42)]; rfl)
    · refine lv_iconst (v := nI 0) hx hb dJ6_compare_7cf53_14 (by decide) ?_
      refine lv_goto (tgt := 19) hx hb dJ6_compare_7cf53_15 (by decide) ?_
      exact p_i hx hb hr hlocks dJ6_compare_7cf53_19 (by unfold sgI; rw [if_neg (show ¬ x < 0 from (fun q => absurd c_41 (Int32.not_le.mpr q))), if_pos (show x = 0 from c_42)]; rfl)
  · refine lv_iconst (v := (-1)) hx hb dJ6_compare_7cf53_5 (by decide) ?_
    refine lv_goto (tgt := 19) hx hb dJ6_compare_7cf53_6 (by decide) ?_
    exact p_i hx hb hr hlocks dJ6_compare_7cf53_19 (by unfold sgI; rw [if_pos (show x < 0 from (Int32.not_le.mp c_41))])

abbrev rmX2_directionOf : Room := { frames := 1, cells := 0, slots := 0, locals := 21 }
theorem mX2_directionOf {l : Launch} {G : Cx} {A : Nat → Prop} {x : Int32} : Met l yX2_directionOf (.code yX2_directionOf cX2_directionOf 1 (some .int) :: GW) rmX2_directionOf (PC G A [.int x] (fun _ => True)) (vp_Si (fun r => r = sgI x)) 0 0 (fun _ => False) := by
  refine mstart "Signtext" (by decide +kernel) rfl (Nat.le_of_ble_eq_true rfl) ?_
  intro p e s m below meth c ls hx hb hr hts hown hml hlocks hname hC hA hW hl
  have hl : lv_has ls 1 [(0, .int x)] := hl
  have hK := hC.1
  have hS : va_S A s.heap s.heap [] := va_S.rf
  refine lv_iload_n hx hb dX2_directionOf_0 rfl (lv_at hl 0 rfl) ?_
  refine lv_iconst (v := nI 0) hx hb dX2_directionOf_1 (by decide) ?_
  refine kS_i (A := A) (As := [.int x, .int (nI 0)]) (rest := []) ⟨hx, hb, hml, hown, hts⟩ (mJ6_compare_7cf53 (A := A) ) (va_cwS 2 hts (gS tw_2_217 tw_2_218 tw_1_27 tw_2_219) rfl rfl rfl (by decide +kernel) ⟨Nat.le_of_ble_eq_true rfl, Nat.le_of_ble_eq_true rfl⟩) hC hS hA  trivial rfl rfl hl.1 (Nat.le_of_ble_eq_true rfl) ⟨Nat.zero_le _, Nat.zero_le _⟩ dX2_directionOf_2 (fun r9 h9 => lv_cv h9 ?_)
  exact p_i hx hb hr hlocks dX2_directionOf_5 rfl

abbrev rmX2_orderLike : Room := { frames := 7, cells := 2, slots := 12, locals := 110 }
theorem mX2_orderLike {l : Launch} {G : Cx} {A : Nat → Prop} (hst : l.stackTraces = false) {SA : Nat → Nat} {X : Nat → List Nat} {es : List Nat} {k : Int32} {x y : Int32} (hAS : ∀ i : Nat, i < 39 → A (SA i)) : vx_Met l yX2_orderLike (.code yX2_orderLike cX2_orderLike 3 (some .int) :: GW) rmX2_orderLike (PC G A [.ref (SA 0), .int x, .int y] (SS G SA X es k)) (qI A (fun r H => ∃ i j : Nat, i < 4 ∧ x = nI i ∧ j < 4 ∧ y = nI j ∧ (∃ o9, ordR true (X i) (X j) o9 ∧ r = sgI o9) ∧ SS G SA X es k H)) (xE A (fun E H => (E = "java/lang/IndexOutOfBoundsException" ∧ (NT x ∨ NT y)) ∧ SS G SA X es k H)) 2 12 A := by
  refine mstartX "Signtext" (by decide +kernel) rfl (Nat.le_of_ble_eq_true rfl) ?_
  intro p e s m below meth c ls hx hb hr hts hown hml hlocks hnx hC hA hW hl
  have hl : lv_has ls 3 [(0, .ref (SA 0)), (1, .int x), (2, .int y)] := hl
  have hK := hC.1
  have hS : va_S A s.heap s.heap [] := va_S.rf
  obtain ⟨T, es2, hW, hF⟩ := hW
  have hO := hW.2.1
  have hR1 := hW.2.2.1
  have hR2 := hW.2.2.2.1
  refine lv_aload_n hx hb dX2_orderLike_0 rfl (lv_at hl 0 rfl) ?_
  refine lv_iload_n hx hb dX2_orderLike_1 rfl (lv_at hl 1 rfl) ?_
  refine xR_V (A := A) (A1 := A) (b := (SA 0)) (As := [.int x]) (rest := []) ⟨hx, hb, hml, hown, hts⟩ (mX2_textOf (A := A) hst ) (cwV 1 hts (gV tw_3_4 tw_3_6 sel_X2_textOf tw_1_1 tw_3_7) rfl rfl rfl (by decide +kernel) ⟨Nat.le_of_ble_eq_true rfl, Nat.le_of_ble_eq_true rfl⟩) hC hS (fun _ h => h) (fun q h => hA q (Nat.le_trans hS.1 h)) (hW.recv hK) hW rfl rfl hl.1 (Nat.le_of_ble_eq_true rfl) ⟨Nat.le_trans (show 0 + 1 ≤ 2 by omega) (Nat.le_of_ble_eq_true rfl), Nat.le_trans (show 0 + 6 ≤ 12 by omega) (Nat.le_of_ble_eq_true rfl)⟩ dX2_orderLike_2 hnx hlocks (by omega) (by omega) (fun E H9 q _ => ⟨⟨q.1, Or.inl q.2.1⟩, _, _, q.2.2, hF⟩) (fun rv43 H43 L43 hP43 hk43 hS => ?_)
  have hZ43 := hS.1
  obtain ⟨⟨i, hi, hxi, hrv⟩, hW⟩ := hP43
  subst hrv
  have hO := hW.2.1
  have hR1 := hW.2.2.1
  have hR2 := hW.2.2.2.1
  have ei := hF i (Or.inl hi)
  refine lv_aload_n hx hb dX2_orderLike_5 rfl (lv_at hl 0 rfl) ?_
  refine lv_iload_n hx hb dX2_orderLike_6 rfl (lv_at hl 2 rfl) ?_
  refine xR_V (A := A) (A1 := A) (b := (SA 0)) (As := [.int y]) (rest := .ref (SA (7 + 2 * i)) :: []) ⟨hx, hb, hml, hown, hts⟩ (mX2_textOf (A := A) hst ) (cwV 1 hts (gV tw_3_4 tw_3_6 sel_X2_textOf tw_1_1 tw_3_7) rfl rfl rfl (by decide +kernel) ⟨Nat.le_of_ble_eq_true rfl, Nat.le_of_ble_eq_true rfl⟩) hC hS (fun _ h => h) (fun q h => hA q (Nat.le_trans hS.1 h)) (hW.recv hK) hW rfl rfl hl.1 (Nat.le_of_ble_eq_true rfl) ⟨Nat.le_trans (show (0 + 1) + 1 ≤ 2 by omega) (Nat.le_of_ble_eq_true rfl), Nat.le_trans (show (0 + 6) + 6 ≤ 12 by omega) (Nat.le_of_ble_eq_true rfl)⟩ dX2_orderLike_7 hnx hlocks (by omega) (by omega) (fun E H9 q _ => ⟨⟨q.1, Or.inr q.2.1⟩, _, _, q.2.2, hF⟩) (fun rv44 H44 L44 hP44 hk44 hS => ?_)
  have hZ44 := hS.1
  obtain ⟨⟨j, hj, hxj, hrv⟩, hW⟩ := hP44
  subst hrv
  have hO := hW.2.1
  have hR1 := hW.2.2.1
  have hR2 := hW.2.2.2.1
  have ej := hF j (Or.inl hj)
  refine lv_iconst (v := nI 1) hx hb dX2_orderLike_10 (by decide) ?_
  refine kV_i (A := A) (b := (SA (7 + 2 * i))) (As := [.ref (SA (7 + 2 * j)), .int (bI true)]) (rest := []) ⟨hx, hb, hml, hown, hts⟩ (mX0_orderTo (A := A) (ca := SA (8 + 2 * i)) (cb := SA (8 + 2 * j)) (b0 := true)) (cwV 2 hts (gV tw_2_98 tw_2_99 tw_2_100 tw_1_2 tw_2_101) rfl rfl rfl (by decide +kernel) ⟨Nat.le_of_ble_eq_true rfl, Nat.le_of_ble_eq_true rfl⟩) hC hS hA ((hW.line (i := i) (by omega)).recv hK) ⟨hW.line (i := i) (by omega), hW.line (i := j) (by omega)⟩ rfl rfl hl.1 (Nat.le_of_ble_eq_true rfl) ⟨Nat.le_trans (show ((0 + 1) + 1) ≤ 2 by omega) (Nat.le_of_ble_eq_true rfl), Nat.le_trans (show ((0 + 6) + 6) ≤ 12 by omega) (Nat.le_of_ble_eq_true rfl)⟩ dX2_orderLike_11 (fun r_45 hr_45 => ?_)
  have h7 : ordR true (T i) (T j) r_45 := hr_45
  rw [ei, ej] at h7
  refine kS_i (A := A) (As := [.int r_45]) (rest := []) ⟨hx, hb, hml, hown, hts⟩ (mX2_directionOf (A := A) ) (va_cwS 1 hts (gS tw_2_214 tw_2_215 tw_1_1 tw_2_216) rfl rfl rfl (by decide +kernel) ⟨Nat.le_of_ble_eq_true rfl, Nat.le_of_ble_eq_true rfl⟩) hC hS hA  trivial rfl rfl hl.1 (Nat.le_of_ble_eq_true rfl) ⟨Nat.le_trans (show ((0 + 1) + 1) ≤ 2 by omega) (Nat.le_of_ble_eq_true rfl), Nat.le_trans (show ((0 + 6) + 6) ≤ 12 by omega) (Nat.le_of_ble_eq_true rfl)⟩ dX2_orderLike_14 (fun r9 h9 => lv_cv h9 ?_)
  exact vx_ret (q_i hx hb hr hlocks dX2_orderLike_17 hS (by omega) (by omega) ⟨i, j, hi, hxi, hj, hxj, ⟨_, h7, rfl⟩, _, _, hW, hF⟩)

abbrev rmX2_rowAt : Room := { frames := 7, cells := 1, slots := 6, locals := 110 }
theorem mX2_rowAt {l : Launch} {G : Cx} {A : Nat → Prop} (hst : l.stackTraces = false) {SA : Nat → Nat} {X : Nat → List Nat} {es : List Nat} {k : Int32} {x : Int32} (hAS : ∀ i : Nat, i < 39 → A (SA i)) : vx_Met l yX2_rowAt (.code yX2_rowAt cX2_rowAt 2 (some .int) :: GW) rmX2_rowAt (PC G A [.ref (SA 0), .int x] (SS G SA X es k)) (qI A (fun r H => ∃ a9 : Nat, a9 < (X 11).length ∧ x = nI a9 ∧ r = nI ((X 11).getD a9 0) ∧ SS G SA X es k H)) (xE A (fun E H => (E = "java/lang/IndexOutOfBoundsException" ∧ ¬ ∃ a9 : Nat, a9 < (X 11).length ∧ x = nI a9) ∧ SS G SA X es k H)) 1 6 A := by
  refine mstartX "Signtext" (by decide +kernel) rfl (Nat.le_of_ble_eq_true rfl) ?_
  intro p e s m below meth c ls hx hb hr hts hown hml hlocks hnx hC hA hW hl
  have hl : lv_has ls 2 [(0, .ref (SA 0)), (1, .int x)] := hl
  have hK := hC.1
  have hS : va_S A s.heap s.heap [] := va_S.rf
  obtain ⟨T, es2, hW, hF⟩ := hW
  have hO := hW.2.1
  have hR1 := hW.2.2.1
  have hR2 := hW.2.2.2.1
  have e11 := hF 11 (Or.inr (Or.inl rfl))
  refine lv_aload_n hx hb dX2_rowAt_0 rfl (lv_at hl 0 rfl) ?_
  refine va_get (D := G.1) (ci := 6) (C := RX2) (T := TX2) (N := 8) hx hb hts inX2 hown hK (at_P hO) 0 rfl rfl 2 (by decide) (hts _ tw_1_139) (fun _ h9 => h9) rfl dX2_rowAt_1 ?_
  refine lv_iload_n hx hb dX2_rowAt_4 rfl (lv_at hl 1 rfl) ?_
  refine xV_S (A := A) (A1 := A)  (As := [.ref (SA 29), .int x]) (rest := []) ⟨hx, hb, hml, hown, hts⟩ (mX2_needPlace (A := A) hst (q := 11) (by decide)) (va_cwS 2 hts (gS tw_3_180 tw_3_181 tw_1_1 tw_3_182) rfl rfl rfl (by decide +kernel) ⟨Nat.le_of_ble_eq_true rfl, Nat.le_of_ble_eq_true rfl⟩) hC hS (fun _ h => h) (fun q h => hA q (Nat.le_trans hS.1 h))  hW rfl rfl hl.1 (Nat.le_of_ble_eq_true rfl) ⟨Nat.le_trans (show 0 + 1 ≤ 1 by omega) (Nat.le_of_ble_eq_true rfl), Nat.le_trans (show 0 + 6 ≤ 6 by omega) (Nat.le_of_ble_eq_true rfl)⟩ dX2_rowAt_5 hnx hlocks (by omega) (by omega) (fun E H9 q _ => ⟨⟨q.1, by rw [← e11]; exact q.2.1⟩, _, _, q.2.2, hF⟩) (fun H46 L46 hP46 hk46 hS => ?_)
  have hZ46 := hS.1
  obtain ⟨⟨a9, ha9, rfl⟩, hW⟩ := hP46
  have hO := hW.2.1
  have hR1 := hW.2.2.1
  have hR2 := hW.2.2.2.1
  refine lv_aload_n hx hb dX2_rowAt_8 rfl (lv_at hl 0 rfl) ?_
  refine va_get (D := G.1) (ci := 6) (C := RX2) (T := TX2) (N := 8) hx hb hts inX2 hown hK (at_P hO) 0 rfl rfl 2 (by decide) (hts _ tw_1_139) (fun _ h9 => h9) rfl dX2_rowAt_9 ?_
  refine lv_iload_n hx hb dX2_rowAt_12 rfl (lv_at hl 1 rfl) ?_
  refine kV_i (A := A) (b := (SA 29)) (As := [.int (nI a9)]) (rest := []) ⟨hx, hb, hml, hown, hts⟩ (mX0_codeAt (A := A) (ca := SA (8 + 2 * 11)) (i := a9) ha9) (cwV 1 hts (gV tw_2_93 tw_2_20 tw_2_21 tw_1_2 tw_2_22) rfl rfl rfl (by decide +kernel) ⟨Nat.le_of_ble_eq_true rfl, Nat.le_of_ble_eq_true rfl⟩) hC hS hA ((hW.line (i := 11) (by omega)).recv hK) (hW.line (i := 11) (by omega)) rfl rfl hl.1 (Nat.le_of_ble_eq_true rfl) ⟨Nat.le_trans (show (0 + 1) ≤ 1 by omega) (Nat.le_of_ble_eq_true rfl), Nat.le_trans (show (0 + 6) ≤ 6 by omega) (Nat.le_of_ble_eq_true rfl)⟩ dX2_rowAt_13 (fun r9 h9 => lv_cv h9 ?_)
  exact vx_ret (q_i hx hb hr hlocks dX2_rowAt_16 hS (by omega) (by omega) ⟨a9, by rw [← e11]; exact ha9, rfl, by rw [e11], _, _, hW, hF⟩)
