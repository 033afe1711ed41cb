/-! THE LAW, 2: its calls of the class, each with its exceptions caught -/
theorem cw_put : Cond.codeWith yL_put cL_put 9 (some .int) [(0, 19, 22, 19), (0, 19, 26, 21), (0, 19, 30, 23)] ∈ GW := gw_at tin_2 236 rfl rfl
theorem cw_clear : Cond.codeWith yL_clear cL_clear 4 (some .int) [(0, 10, 13, 19)] ∈ GW := gw_at tin_3 61 rfl rfl
theorem cw_copy : Cond.codeWith yL_copy cL_copy 5 (some .int) [(0, 11, 14, 19)] ∈ GW := gw_at tin_3 68 rfl rfl
theorem cw_part : Cond.codeWith yL_part cL_part 7 (some .int) [(0, 15, 18, 19)] ∈ GW := gw_at tin_3 75 rfl rfl
theorem cw_tail : Cond.codeWith yL_tail cL_tail 6 (some .int) [(0, 13, 16, 19)] ∈ GW := gw_at tin_3 82 rfl rfl
theorem cw_join : Cond.codeWith yL_join cL_join 6 (some .int) [(0, 13, 16, 19), (0, 13, 20, 23)] ∈ GW := gw_at tin_3 92 rfl rfl
theorem cw_times : Cond.codeWith yL_times cL_times 6 (some .int) [(0, 13, 16, 19), (0, 13, 20, 21), (0, 13, 24, 23)] ∈ GW := gw_at tin_3 99 rfl rfl
theorem cw_trim : Cond.codeWith yL_trim cL_trim 6 (some .int) [(0, 13, 16, 19)] ∈ GW := gw_at tin_3 106 rfl rfl
theorem cw_number : Cond.codeWith yL_number cL_number 6 (some .int) [(0, 13, 16, 19), (0, 13, 20, 23)] ∈ GW := gw_at tin_3 113 rfl rfl
theorem cw_great : Cond.codeWith yL_great cL_great 6 (some .int) [(0, 13, 16, 19), (0, 13, 20, 23)] ∈ GW := gw_at tin_3 133 rfl rfl
theorem cw_truth : Cond.codeWith yL_truth cL_truth 6 (some .int) [(0, 13, 16, 19), (0, 13, 20, 23)] ∈ GW := gw_at tin_3 141 rfl rfl
theorem cw_ahead : Cond.codeWith yL_ahead cL_ahead 5 (some .int) [(0, 11, 14, 19), (0, 11, 18, 21), (0, 11, 22, 23)] ∈ GW := gw_at tin_3 150 rfl rfl
theorem cw_known : Cond.codeWith yL_known cL_known 5 (some .int) [(0, 11, 14, 19), (0, 11, 18, 21), (0, 11, 22, 23)] ∈ GW := gw_at tin_3 157 rfl rfl
theorem cw_lay : Cond.codeWith yL_lay cL_lay 4 (some .int) [(0, 10, 13, 19)] ∈ GW := gw_at tin_3 168 rfl rfl
theorem cw_set : Cond.codeWith yL_set cL_set 5 (some .int) [(0, 11, 14, 19), (0, 11, 18, 21)] ∈ GW := gw_at tin_3 175 rfl rfl
theorem cw_take : Cond.codeWith yL_take cL_take 4 (some .int) [(0, 10, 13, 19)] ∈ GW := gw_at tin_3 189 rfl rfl
theorem cw_takePart : Cond.codeWith yL_takePart cL_takePart 6 (some .int) [(0, 13, 16, 19)] ∈ GW := gw_at tin_3 196 rfl rfl
theorem cw_cut : Cond.codeWith yL_cut cL_cut 4 (some .int) [(0, 10, 13, 19)] ∈ GW := gw_at tin_3 203 rfl rfl
theorem cw_takePiece : Cond.codeWith yL_takePiece cL_takePiece 5 (some .int) [(0, 11, 14, 19)] ∈ GW := gw_at tin_3 210 rfl rfl
theorem cw_text : Cond.codeWith yL_text cL_text 4 (some .int) [(0, 9, 12, 19)] ∈ GW := gw_at tin_3 225 rfl rfl
theorem cw_length : Cond.codeWith yL_length cL_length 4 (some .int) [(0, 10, 13, 19)] ∈ GW := gw_at tin_3 232 rfl rfl
theorem cw_at : Cond.codeWith yL_at cL_at 5 (some .int) [(0, 11, 14, 19)] ∈ GW := gw_at tin_3 239 rfl rfl
theorem cw_isEmpty : Cond.codeWith yL_isEmpty cL_isEmpty 4 (some .int) [(0, 17, 20, 19)] ∈ GW := gw_at tin_4 6 rfl rfl
theorem cw_isBlank : Cond.codeWith yL_isBlank cL_isBlank 4 (some .int) [(0, 17, 20, 19)] ∈ GW := gw_at tin_4 13 rfl rfl
theorem cw_hash : Cond.codeWith yL_hash cL_hash 4 (some .int) [(0, 10, 13, 19)] ∈ GW := gw_at tin_4 20 rfl rfl
theorem cw_first : Cond.codeWith yL_first cL_first 5 (some .int) [(0, 11, 14, 19), (0, 11, 18, 21)] ∈ GW := gw_at tin_4 27 rfl rfl
theorem cw_last : Cond.codeWith yL_last cL_last 5 (some .int) [(0, 11, 14, 19), (0, 11, 18, 21)] ∈ GW := gw_at tin_4 38 rfl rfl
theorem cw_next : Cond.codeWith yL_next cL_next 6 (some .int) [(0, 13, 16, 19), (0, 13, 20, 21)] ∈ GW := gw_at tin_4 49 rfl rfl
theorem cw_begins : Cond.codeWith yL_begins cL_begins 6 (some .int) [(0, 20, 23, 19), (0, 20, 27, 21)] ∈ GW := gw_at tin_4 56 rfl rfl
theorem cw_stands : Cond.codeWith yL_stands cL_stands 7 (some .int) [(0, 22, 25, 19), (0, 22, 29, 21)] ∈ GW := gw_at tin_4 63 rfl rfl
theorem cw_firstOf : Cond.codeWith yL_firstOf cL_firstOf 5 (some .int) [(0, 11, 14, 19)] ∈ GW := gw_at tin_4 70 rfl rfl
theorem cw_lastOf : Cond.codeWith yL_lastOf cL_lastOf 5 (some .int) [(0, 11, 14, 19)] ∈ GW := gw_at tin_4 77 rfl rfl
theorem cw_isIn : Cond.codeWith yL_isIn cL_isIn 5 (some .int) [(0, 18, 21, 19)] ∈ GW := gw_at tin_4 84 rfl rfl
theorem cw_isSame : Cond.codeWith yL_isSame cL_isSame 6 (some .int) [(0, 20, 23, 19)] ∈ GW := gw_at tin_4 91 rfl rfl
theorem cw_order : Cond.codeWith yL_order cL_order 5 (some .int) [(0, 11, 14, 19)] ∈ GW := gw_at tin_4 98 rfl rfl
theorem cw_orderLike : Cond.codeWith yL_orderLike cL_orderLike 5 (some .int) [(0, 11, 14, 19)] ∈ GW := gw_at tin_4 105 rfl rfl
theorem cw_rowAt : Cond.codeWith yL_rowAt cL_rowAt 4 (some .int) [(0, 10, 13, 19)] ∈ GW := gw_at tin_4 112 rfl rfl
theorem cw_piece : Cond.codeWith yL_piece cL_piece 4 (some .int) [(0, 9, 12, 19)] ∈ GW := gw_at tin_4 119 rfl rfl
theorem cw_isPiece : Cond.codeWith yL_isPiece cL_isPiece 5 (some .int) [(0, 18, 21, 19)] ∈ GW := gw_at tin_4 126 rfl rfl
theorem cw_house : Cond.codeWith yL_house cL_house 4 (some .int) [(0, 10, 13, 21)] ∈ GW := gw_at tin_4 133 rfl rfl
theorem dL_put_0 : decode cL_put 0 = .ok (.aload 7, 2) := by decide +kernel
theorem dL_put_2 : decode cL_put 2 = .ok (.aload_n 0, 1) := by decide +kernel
theorem dL_put_3 : decode cL_put 3 = .ok (.iload_n 1, 1) := by decide +kernel
theorem dL_put_4 : decode cL_put 4 = .ok (.iload_n 2, 1) := by decide +kernel
theorem dL_put_5 : decode cL_put 5 = .ok (.iload_n 3, 1) := by decide +kernel
theorem dL_put_6 : decode cL_put 6 = .ok (.iload 4, 2) := by decide +kernel
theorem dL_put_8 : decode cL_put 8 = .ok (.iload 5, 2) := by decide +kernel
theorem dL_put_10 : decode cL_put 10 = .ok (.iload 6, 2) := by decide +kernel
theorem dL_put_12 : decode cL_put 12 = .ok (.invokevirtual 7, 3) := by decide +kernel
theorem dL_put_15 : decode cL_put 15 = .ok (.i2l, 1) := by decide +kernel
theorem dL_put_16 : decode cL_put 16 = .ok (.putfield 13, 3) := by decide +kernel
theorem dL_put_19 : decode cL_put 19 = .ok (.goto 15, 3) := by decide +kernel
theorem dL_put_22 : decode cL_put 22 = .ok (.astore 8, 2) := by decide +kernel
theorem dL_put_24 : decode cL_put 24 = .ok (.iconst 1, 1) := by decide +kernel
theorem dL_put_25 : decode cL_put 25 = .ok (.ireturn, 1) := by decide +kernel
theorem dL_put_26 : decode cL_put 26 = .ok (.astore 8, 2) := by decide +kernel
theorem dL_put_28 : decode cL_put 28 = .ok (.iconst 2, 1) := by decide +kernel
theorem dL_put_29 : decode cL_put 29 = .ok (.ireturn, 1) := by decide +kernel
theorem dL_put_30 : decode cL_put 30 = .ok (.astore 8, 2) := by decide +kernel
theorem dL_put_32 : decode cL_put 32 = .ok (.iconst 3, 1) := by decide +kernel
theorem dL_put_33 : decode cL_put 33 = .ok (.ireturn, 1) := by decide +kernel
theorem dL_put_34 : decode cL_put 34 = .ok (.iconst 0, 1) := by decide +kernel
theorem dL_put_35 : decode cL_put 35 = .ok (.ireturn, 1) := by decide +kernel
theorem dL_clear_0 : decode cL_clear 0 = .ok (.aload_n 2, 1) := by decide +kernel
theorem dL_clear_1 : decode cL_clear 1 = .ok (.aload_n 0, 1) := by decide +kernel
theorem dL_clear_2 : decode cL_clear 2 = .ok (.iload_n 1, 1) := by decide +kernel
theorem dL_clear_3 : decode cL_clear 3 = .ok (.invokevirtual 25, 3) := by decide +kernel
theorem dL_clear_6 : decode cL_clear 6 = .ok (.i2l, 1) := by decide +kernel
theorem dL_clear_7 : decode cL_clear 7 = .ok (.putfield 13, 3) := by decide +kernel
theorem dL_clear_10 : decode cL_clear 10 = .ok (.goto 6, 3) := by decide +kernel
theorem dL_clear_13 : decode cL_clear 13 = .ok (.astore_n 3, 1) := by decide +kernel
theorem dL_clear_14 : decode cL_clear 14 = .ok (.iconst 1, 1) := by decide +kernel
theorem dL_clear_15 : decode cL_clear 15 = .ok (.ireturn, 1) := by decide +kernel
theorem dL_clear_16 : decode cL_clear 16 = .ok (.iconst 0, 1) := by decide +kernel
theorem dL_clear_17 : decode cL_clear 17 = .ok (.ireturn, 1) := by decide +kernel
theorem dL_copy_0 : decode cL_copy 0 = .ok (.aload_n 3, 1) := by decide +kernel
theorem dL_copy_1 : decode cL_copy 1 = .ok (.aload_n 0, 1) := by decide +kernel
theorem dL_copy_2 : decode cL_copy 2 = .ok (.iload_n 1, 1) := by decide +kernel
theorem dL_copy_3 : decode cL_copy 3 = .ok (.iload_n 2, 1) := by decide +kernel
theorem dL_copy_4 : decode cL_copy 4 = .ok (.invokevirtual 29, 3) := by decide +kernel
theorem dL_copy_7 : decode cL_copy 7 = .ok (.i2l, 1) := by decide +kernel
theorem dL_copy_8 : decode cL_copy 8 = .ok (.putfield 13, 3) := by decide +kernel
theorem dL_copy_11 : decode cL_copy 11 = .ok (.goto 7, 3) := by decide +kernel
theorem dL_copy_14 : decode cL_copy 14 = .ok (.astore 4, 2) := by decide +kernel
theorem dL_copy_16 : decode cL_copy 16 = .ok (.iconst 1, 1) := by decide +kernel
theorem dL_copy_17 : decode cL_copy 17 = .ok (.ireturn, 1) := by decide +kernel
theorem dL_copy_18 : decode cL_copy 18 = .ok (.iconst 0, 1) := by decide +kernel
theorem dL_copy_19 : decode cL_copy 19 = .ok (.ireturn, 1) := by decide +kernel
theorem dL_part_0 : decode cL_part 0 = .ok (.aload 5, 2) := by decide +kernel
theorem dL_part_2 : decode cL_part 2 = .ok (.aload_n 0, 1) := by decide +kernel
theorem dL_part_3 : decode cL_part 3 = .ok (.iload_n 1, 1) := by decide +kernel
theorem dL_part_4 : decode cL_part 4 = .ok (.iload_n 2, 1) := by decide +kernel
theorem dL_part_5 : decode cL_part 5 = .ok (.iload_n 3, 1) := by decide +kernel
theorem dL_part_6 : decode cL_part 6 = .ok (.iload 4, 2) := by decide +kernel
theorem dL_part_8 : decode cL_part 8 = .ok (.invokevirtual 33, 3) := by decide +kernel
theorem dL_part_11 : decode cL_part 11 = .ok (.i2l, 1) := by decide +kernel
theorem dL_part_12 : decode cL_part 12 = .ok (.putfield 13, 3) := by decide +kernel
theorem dL_part_15 : decode cL_part 15 = .ok (.goto 7, 3) := by decide +kernel
theorem dL_part_18 : decode cL_part 18 = .ok (.astore 6, 2) := by decide +kernel
theorem dL_part_20 : decode cL_part 20 = .ok (.iconst 1, 1) := by decide +kernel
theorem dL_part_21 : decode cL_part 21 = .ok (.ireturn, 1) := by decide +kernel
theorem dL_part_22 : decode cL_part 22 = .ok (.iconst 0, 1) := by decide +kernel
theorem dL_part_23 : decode cL_part 23 = .ok (.ireturn, 1) := by decide +kernel
theorem dL_tail_0 : decode cL_tail 0 = .ok (.aload 4, 2) := by decide +kernel
theorem dL_tail_2 : decode cL_tail 2 = .ok (.aload_n 0, 1) := by decide +kernel
theorem dL_tail_3 : decode cL_tail 3 = .ok (.iload_n 1, 1) := by decide +kernel
theorem dL_tail_4 : decode cL_tail 4 = .ok (.iload_n 2, 1) := by decide +kernel
theorem dL_tail_5 : decode cL_tail 5 = .ok (.iload_n 3, 1) := by decide +kernel
theorem dL_tail_6 : decode cL_tail 6 = .ok (.invokevirtual 37, 3) := by decide +kernel
theorem dL_tail_9 : decode cL_tail 9 = .ok (.i2l, 1) := by decide +kernel
theorem dL_tail_10 : decode cL_tail 10 = .ok (.putfield 13, 3) := by decide +kernel
theorem dL_tail_13 : decode cL_tail 13 = .ok (.goto 7, 3) := by decide +kernel
theorem dL_tail_16 : decode cL_tail 16 = .ok (.astore 5, 2) := by decide +kernel
theorem dL_tail_18 : decode cL_tail 18 = .ok (.iconst 1, 1) := by decide +kernel
theorem dL_tail_19 : decode cL_tail 19 = .ok (.ireturn, 1) := by decide +kernel
theorem dL_tail_20 : decode cL_tail 20 = .ok (.iconst 0, 1) := by decide +kernel
theorem dL_tail_21 : decode cL_tail 21 = .ok (.ireturn, 1) := by decide +kernel
theorem dL_join_0 : decode cL_join 0 = .ok (.aload 4, 2) := by decide +kernel
theorem dL_join_2 : decode cL_join 2 = .ok (.aload_n 0, 1) := by decide +kernel
theorem dL_join_3 : decode cL_join 3 = .ok (.iload_n 1, 1) := by decide +kernel
theorem dL_join_4 : decode cL_join 4 = .ok (.iload_n 2, 1) := by decide +kernel
theorem dL_join_5 : decode cL_join 5 = .ok (.iload_n 3, 1) := by decide +kernel
theorem dL_join_6 : decode cL_join 6 = .ok (.invokevirtual 41, 3) := by decide +kernel
theorem dL_join_9 : decode cL_join 9 = .ok (.i2l, 1) := by decide +kernel
theorem dL_join_10 : decode cL_join 10 = .ok (.putfield 13, 3) := by decide +kernel
theorem dL_join_13 : decode cL_join 13 = .ok (.goto 11, 3) := by decide +kernel
theorem dL_join_16 : decode cL_join 16 = .ok (.astore 5, 2) := by decide +kernel
theorem dL_join_18 : decode cL_join 18 = .ok (.iconst 1, 1) := by decide +kernel
theorem dL_join_19 : decode cL_join 19 = .ok (.ireturn, 1) := by decide +kernel
theorem dL_join_20 : decode cL_join 20 = .ok (.astore 5, 2) := by decide +kernel
theorem dL_join_22 : decode cL_join 22 = .ok (.iconst 2, 1) := by decide +kernel
theorem dL_join_23 : decode cL_join 23 = .ok (.ireturn, 1) := by decide +kernel
theorem dL_join_24 : decode cL_join 24 = .ok (.iconst 0, 1) := by decide +kernel
theorem dL_join_25 : decode cL_join 25 = .ok (.ireturn, 1) := by decide +kernel
theorem dL_times_0 : decode cL_times 0 = .ok (.aload 4, 2) := by decide +kernel
theorem dL_times_2 : decode cL_times 2 = .ok (.aload_n 0, 1) := by decide +kernel
theorem dL_times_3 : decode cL_times 3 = .ok (.iload_n 1, 1) := by decide +kernel
theorem dL_times_4 : decode cL_times 4 = .ok (.iload_n 2, 1) := by decide +kernel
theorem dL_times_5 : decode cL_times 5 = .ok (.iload_n 3, 1) := by decide +kernel
theorem dL_times_6 : decode cL_times 6 = .ok (.invokevirtual 44, 3) := by decide +kernel
theorem dL_times_9 : decode cL_times 9 = .ok (.i2l, 1) := by decide +kernel
theorem dL_times_10 : decode cL_times 10 = .ok (.putfield 13, 3) := by decide +kernel
theorem dL_times_13 : decode cL_times 13 = .ok (.goto 15, 3) := by decide +kernel
theorem dL_times_16 : decode cL_times 16 = .ok (.astore 5, 2) := by decide +kernel
theorem dL_times_18 : decode cL_times 18 = .ok (.iconst 1, 1) := by decide +kernel
theorem dL_times_19 : decode cL_times 19 = .ok (.ireturn, 1) := by decide +kernel
theorem dL_times_20 : decode cL_times 20 = .ok (.astore 5, 2) := by decide +kernel
theorem dL_times_22 : decode cL_times 22 = .ok (.iconst 2, 1) := by decide +kernel
theorem dL_times_23 : decode cL_times 23 = .ok (.ireturn, 1) := by decide +kernel
theorem dL_times_24 : decode cL_times 24 = .ok (.astore 5, 2) := by decide +kernel
theorem dL_times_26 : decode cL_times 26 = .ok (.iconst 3, 1) := by decide +kernel
theorem dL_times_27 : decode cL_times 27 = .ok (.ireturn, 1) := by decide +kernel
theorem dL_times_28 : decode cL_times 28 = .ok (.iconst 0, 1) := by decide +kernel
theorem dL_times_29 : decode cL_times 29 = .ok (.ireturn, 1) := by decide +kernel
theorem dL_trim_0 : decode cL_trim 0 = .ok (.aload 4, 2) := by decide +kernel
theorem dL_trim_2 : decode cL_trim 2 = .ok (.aload_n 0, 1) := by decide +kernel
theorem dL_trim_3 : decode cL_trim 3 = .ok (.iload_n 1, 1) := by decide +kernel
theorem dL_trim_4 : decode cL_trim 4 = .ok (.iload_n 2, 1) := by decide +kernel
theorem dL_trim_5 : decode cL_trim 5 = .ok (.iload_n 3, 1) := by decide +kernel
theorem dL_trim_6 : decode cL_trim 6 = .ok (.invokevirtual 47, 3) := by decide +kernel
theorem dL_trim_9 : decode cL_trim 9 = .ok (.i2l, 1) := by decide +kernel
theorem dL_trim_10 : decode cL_trim 10 = .ok (.putfield 13, 3) := by decide +kernel
theorem dL_trim_13 : decode cL_trim 13 = .ok (.goto 7, 3) := by decide +kernel
theorem dL_trim_16 : decode cL_trim 16 = .ok (.astore 5, 2) := by decide +kernel
theorem dL_trim_18 : decode cL_trim 18 = .ok (.iconst 1, 1) := by decide +kernel
theorem dL_trim_19 : decode cL_trim 19 = .ok (.ireturn, 1) := by decide +kernel
theorem dL_trim_20 : decode cL_trim 20 = .ok (.iconst 0, 1) := by decide +kernel
theorem dL_trim_21 : decode cL_trim 21 = .ok (.ireturn, 1) := by decide +kernel
theorem dL_number_0 : decode cL_number 0 = .ok (.aload 4, 2) := by decide +kernel
theorem dL_number_2 : decode cL_number 2 = .ok (.aload_n 0, 1) := by decide +kernel
theorem dL_number_3 : decode cL_number 3 = .ok (.iload_n 1, 1) := by decide +kernel
theorem dL_number_4 : decode cL_number 4 = .ok (.iload_n 2, 1) := by decide +kernel
theorem dL_number_5 : decode cL_number 5 = .ok (.iload_n 3, 1) := by decide +kernel
theorem dL_number_6 : decode cL_number 6 = .ok (.invokevirtual 51, 3) := by decide +kernel
theorem dL_number_9 : decode cL_number 9 = .ok (.i2l, 1) := by decide +kernel
theorem dL_number_10 : decode cL_number 10 = .ok (.putfield 13, 3) := by decide +kernel
theorem dL_number_13 : decode cL_number 13 = .ok (.goto 11, 3) := by decide +kernel
theorem dL_number_16 : decode cL_number 16 = .ok (.astore 5, 2) := by decide +kernel
theorem dL_number_18 : decode cL_number 18 = .ok (.iconst 1, 1) := by decide +kernel
theorem dL_number_19 : decode cL_number 19 = .ok (.ireturn, 1) := by decide +kernel
theorem dL_number_20 : decode cL_number 20 = .ok (.astore 5, 2) := by decide +kernel
theorem dL_number_22 : decode cL_number 22 = .ok (.iconst 2, 1) := by decide +kernel
theorem dL_number_23 : decode cL_number 23 = .ok (.ireturn, 1) := by decide +kernel
theorem dL_number_24 : decode cL_number 24 = .ok (.iconst 0, 1) := by decide +kernel
theorem dL_number_25 : decode cL_number 25 = .ok (.ireturn, 1) := by decide +kernel
theorem dL_great_0 : decode cL_great 0 = .ok (.aload 4, 2) := by decide +kernel
theorem dL_great_2 : decode cL_great 2 = .ok (.aload_n 0, 1) := by decide +kernel
theorem dL_great_3 : decode cL_great 3 = .ok (.iload_n 1, 1) := by decide +kernel
theorem dL_great_4 : decode cL_great 4 = .ok (.iload_n 2, 1) := by decide +kernel
theorem dL_great_5 : decode cL_great 5 = .ok (.iload_n 3, 1) := by decide +kernel
theorem dL_great_6 : decode cL_great 6 = .ok (.invokevirtual 55, 3) := by decide +kernel
theorem dL_great_9 : decode cL_great 9 = .ok (.i2l, 1) := by decide +kernel
theorem dL_great_10 : decode cL_great 10 = .ok (.putfield 13, 3) := by decide +kernel
theorem dL_great_13 : decode cL_great 13 = .ok (.goto 11, 3) := by decide +kernel
theorem dL_great_16 : decode cL_great 16 = .ok (.astore 5, 2) := by decide +kernel
theorem dL_great_18 : decode cL_great 18 = .ok (.iconst 1, 1) := by decide +kernel
theorem dL_great_19 : decode cL_great 19 = .ok (.ireturn, 1) := by decide +kernel
theorem dL_great_20 : decode cL_great 20 = .ok (.astore 5, 2) := by decide +kernel
theorem dL_great_22 : decode cL_great 22 = .ok (.iconst 2, 1) := by decide +kernel
theorem dL_great_23 : decode cL_great 23 = .ok (.ireturn, 1) := by decide +kernel
theorem dL_great_24 : decode cL_great 24 = .ok (.iconst 0, 1) := by decide +kernel
theorem dL_great_25 : decode cL_great 25 = .ok (.ireturn, 1) := by decide +kernel
theorem dL_truth_0 : decode cL_truth 0 = .ok (.aload 4, 2) := by decide +kernel
theorem dL_truth_2 : decode cL_truth 2 = .ok (.aload_n 0, 1) := by decide +kernel
theorem dL_truth_3 : decode cL_truth 3 = .ok (.iload_n 1, 1) := by decide +kernel
theorem dL_truth_4 : decode cL_truth 4 = .ok (.iload_n 2, 1) := by decide +kernel
theorem dL_truth_5 : decode cL_truth 5 = .ok (.iload_n 3, 1) := by decide +kernel
theorem dL_truth_6 : decode cL_truth 6 = .ok (.invokevirtual 58, 3) := by decide +kernel
theorem dL_truth_9 : decode cL_truth 9 = .ok (.i2l, 1) := by decide +kernel
theorem dL_truth_10 : decode cL_truth 10 = .ok (.putfield 13, 3) := by decide +kernel
theorem dL_truth_13 : decode cL_truth 13 = .ok (.goto 11, 3) := by decide +kernel
theorem dL_truth_16 : decode cL_truth 16 = .ok (.astore 5, 2) := by decide +kernel
theorem dL_truth_18 : decode cL_truth 18 = .ok (.iconst 1, 1) := by decide +kernel
theorem dL_truth_19 : decode cL_truth 19 = .ok (.ireturn, 1) := by decide +kernel
theorem dL_truth_20 : decode cL_truth 20 = .ok (.astore 5, 2) := by decide +kernel
theorem dL_truth_22 : decode cL_truth 22 = .ok (.iconst 2, 1) := by decide +kernel
theorem dL_truth_23 : decode cL_truth 23 = .ok (.ireturn, 1) := by decide +kernel
theorem dL_truth_24 : decode cL_truth 24 = .ok (.iconst 0, 1) := by decide +kernel
theorem dL_truth_25 : decode cL_truth 25 = .ok (.ireturn, 1) := by decide +kernel
theorem dL_ahead_0 : decode cL_ahead 0 = .ok (.aload_n 3, 1) := by decide +kernel
theorem dL_ahead_1 : decode cL_ahead 1 = .ok (.aload_n 0, 1) := by decide +kernel
theorem dL_ahead_2 : decode cL_ahead 2 = .ok (.iload_n 1, 1) := by decide +kernel
theorem dL_ahead_3 : decode cL_ahead 3 = .ok (.iload_n 2, 1) := by decide +kernel
theorem dL_ahead_4 : decode cL_ahead 4 = .ok (.invokevirtual 62, 3) := by decide +kernel
theorem dL_ahead_7 : decode cL_ahead 7 = .ok (.i2l, 1) := by decide +kernel
theorem dL_ahead_8 : decode cL_ahead 8 = .ok (.putfield 13, 3) := by decide +kernel
theorem dL_ahead_11 : decode cL_ahead 11 = .ok (.goto 15, 3) := by decide +kernel
theorem dL_ahead_14 : decode cL_ahead 14 = .ok (.astore 4, 2) := by decide +kernel
theorem dL_ahead_16 : decode cL_ahead 16 = .ok (.iconst 1, 1) := by decide +kernel
theorem dL_ahead_17 : decode cL_ahead 17 = .ok (.ireturn, 1) := by decide +kernel
theorem dL_ahead_18 : decode cL_ahead 18 = .ok (.astore 4, 2) := by decide +kernel
theorem dL_ahead_20 : decode cL_ahead 20 = .ok (.iconst 2, 1) := by decide +kernel
theorem dL_ahead_21 : decode cL_ahead 21 = .ok (.ireturn, 1) := by decide +kernel
theorem dL_ahead_22 : decode cL_ahead 22 = .ok (.astore 4, 2) := by decide +kernel
theorem dL_ahead_24 : decode cL_ahead 24 = .ok (.iconst 3, 1) := by decide +kernel
theorem dL_ahead_25 : decode cL_ahead 25 = .ok (.ireturn, 1) := by decide +kernel
theorem dL_ahead_26 : decode cL_ahead 26 = .ok (.iconst 0, 1) := by decide +kernel
theorem dL_ahead_27 : decode cL_ahead 27 = .ok (.ireturn, 1) := by decide +kernel
theorem dL_known_0 : decode cL_known 0 = .ok (.aload_n 3, 1) := by decide +kernel
theorem dL_known_1 : decode cL_known 1 = .ok (.aload_n 0, 1) := by decide +kernel
theorem dL_known_2 : decode cL_known 2 = .ok (.iload_n 1, 1) := by decide +kernel
theorem dL_known_3 : decode cL_known 3 = .ok (.iload_n 2, 1) := by decide +kernel
theorem dL_known_4 : decode cL_known 4 = .ok (.invokevirtual 65, 3) := by decide +kernel
theorem dL_known_7 : decode cL_known 7 = .ok (.i2l, 1) := by decide +kernel
theorem dL_known_8 : decode cL_known 8 = .ok (.putfield 13, 3) := by decide +kernel
theorem dL_known_11 : decode cL_known 11 = .ok (.goto 15, 3) := by decide +kernel
theorem dL_known_14 : decode cL_known 14 = .ok (.astore 4, 2) := by decide +kernel
theorem dL_known_16 : decode cL_known 16 = .ok (.iconst 1, 1) := by decide +kernel
theorem dL_known_17 : decode cL_known 17 = .ok (.ireturn, 1) := by decide +kernel
theorem dL_known_18 : decode cL_known 18 = .ok (.astore 4, 2) := by decide +kernel
theorem dL_known_20 : decode cL_known 20 = .ok (.iconst 2, 1) := by decide +kernel
theorem dL_known_21 : decode cL_known 21 = .ok (.ireturn, 1) := by decide +kernel
theorem dL_known_22 : decode cL_known 22 = .ok (.astore 4, 2) := by decide +kernel
theorem dL_known_24 : decode cL_known 24 = .ok (.iconst 3, 1) := by decide +kernel
theorem dL_known_25 : decode cL_known 25 = .ok (.ireturn, 1) := by decide +kernel
theorem dL_known_26 : decode cL_known 26 = .ok (.iconst 0, 1) := by decide +kernel
theorem dL_known_27 : decode cL_known 27 = .ok (.ireturn, 1) := by decide +kernel
theorem dL_lay_0 : decode cL_lay 0 = .ok (.aload_n 2, 1) := by decide +kernel
theorem dL_lay_1 : decode cL_lay 1 = .ok (.aload_n 0, 1) := by decide +kernel
theorem dL_lay_2 : decode cL_lay 2 = .ok (.iload_n 1, 1) := by decide +kernel
theorem dL_lay_3 : decode cL_lay 3 = .ok (.invokevirtual 68, 3) := by decide +kernel
theorem dL_lay_6 : decode cL_lay 6 = .ok (.i2l, 1) := by decide +kernel
theorem dL_lay_7 : decode cL_lay 7 = .ok (.putfield 13, 3) := by decide +kernel
theorem dL_lay_10 : decode cL_lay 10 = .ok (.goto 6, 3) := by decide +kernel
theorem dL_lay_13 : decode cL_lay 13 = .ok (.astore_n 3, 1) := by decide +kernel
theorem dL_lay_14 : decode cL_lay 14 = .ok (.iconst 1, 1) := by decide +kernel
theorem dL_lay_15 : decode cL_lay 15 = .ok (.ireturn, 1) := by decide +kernel
theorem dL_lay_16 : decode cL_lay 16 = .ok (.iconst 0, 1) := by decide +kernel
theorem dL_lay_17 : decode cL_lay 17 = .ok (.ireturn, 1) := by decide +kernel
theorem dL_set_0 : decode cL_set 0 = .ok (.aload_n 3, 1) := by decide +kernel
theorem dL_set_1 : decode cL_set 1 = .ok (.aload_n 0, 1) := by decide +kernel
theorem dL_set_2 : decode cL_set 2 = .ok (.iload_n 1, 1) := by decide +kernel
theorem dL_set_3 : decode cL_set 3 = .ok (.iload_n 2, 1) := by decide +kernel
theorem dL_set_4 : decode cL_set 4 = .ok (.invokevirtual 71, 3) := by decide +kernel
theorem dL_set_7 : decode cL_set 7 = .ok (.i2l, 1) := by decide +kernel
theorem dL_set_8 : decode cL_set 8 = .ok (.putfield 13, 3) := by decide +kernel
theorem dL_set_11 : decode cL_set 11 = .ok (.goto 11, 3) := by decide +kernel
theorem dL_set_14 : decode cL_set 14 = .ok (.astore 4, 2) := by decide +kernel
theorem dL_set_16 : decode cL_set 16 = .ok (.iconst 1, 1) := by decide +kernel
theorem dL_set_17 : decode cL_set 17 = .ok (.ireturn, 1) := by decide +kernel
theorem dL_set_18 : decode cL_set 18 = .ok (.astore 4, 2) := by decide +kernel
theorem dL_set_20 : decode cL_set 20 = .ok (.iconst 2, 1) := by decide +kernel
theorem dL_set_21 : decode cL_set 21 = .ok (.ireturn, 1) := by decide +kernel
theorem dL_set_22 : decode cL_set 22 = .ok (.iconst 0, 1) := by decide +kernel
theorem dL_set_23 : decode cL_set 23 = .ok (.ireturn, 1) := by decide +kernel
theorem dL_take_0 : decode cL_take 0 = .ok (.aload_n 2, 1) := by decide +kernel
theorem dL_take_1 : decode cL_take 1 = .ok (.aload_n 0, 1) := by decide +kernel
theorem dL_take_2 : decode cL_take 2 = .ok (.iload_n 1, 1) := by decide +kernel
theorem dL_take_3 : decode cL_take 3 = .ok (.invokevirtual 74, 3) := by decide +kernel
theorem dL_take_6 : decode cL_take 6 = .ok (.i2l, 1) := by decide +kernel
theorem dL_take_7 : decode cL_take 7 = .ok (.putfield 13, 3) := by decide +kernel
theorem dL_take_10 : decode cL_take 10 = .ok (.goto 6, 3) := by decide +kernel
theorem dL_take_13 : decode cL_take 13 = .ok (.astore_n 3, 1) := by decide +kernel
theorem dL_take_14 : decode cL_take 14 = .ok (.iconst 1, 1) := by decide +kernel
theorem dL_take_15 : decode cL_take 15 = .ok (.ireturn, 1) := by decide +kernel
theorem dL_take_16 : decode cL_take 16 = .ok (.iconst 0, 1) := by decide +kernel
theorem dL_take_17 : decode cL_take 17 = .ok (.ireturn, 1) := by decide +kernel
theorem dL_takePart_0 : decode cL_takePart 0 = .ok (.aload 4, 2) := by decide +kernel
theorem dL_takePart_2 : decode cL_takePart 2 = .ok (.aload_n 0, 1) := by decide +kernel
theorem dL_takePart_3 : decode cL_takePart 3 = .ok (.iload_n 1, 1) := by decide +kernel
theorem dL_takePart_4 : decode cL_takePart 4 = .ok (.iload_n 2, 1) := by decide +kernel
theorem dL_takePart_5 : decode cL_takePart 5 = .ok (.iload_n 3, 1) := by decide +kernel
theorem dL_takePart_6 : decode cL_takePart 6 = .ok (.invokevirtual 77, 3) := by decide +kernel
theorem dL_takePart_9 : decode cL_takePart 9 = .ok (.i2l, 1) := by decide +kernel
theorem dL_takePart_10 : decode cL_takePart 10 = .ok (.putfield 13, 3) := by decide +kernel
theorem dL_takePart_13 : decode cL_takePart 13 = .ok (.goto 7, 3) := by decide +kernel
theorem dL_takePart_16 : decode cL_takePart 16 = .ok (.astore 5, 2) := by decide +kernel
theorem dL_takePart_18 : decode cL_takePart 18 = .ok (.iconst 1, 1) := by decide +kernel
theorem dL_takePart_19 : decode cL_takePart 19 = .ok (.ireturn, 1) := by decide +kernel
theorem dL_takePart_20 : decode cL_takePart 20 = .ok (.iconst 0, 1) := by decide +kernel
theorem dL_takePart_21 : decode cL_takePart 21 = .ok (.ireturn, 1) := by decide +kernel
theorem dL_cut_0 : decode cL_cut 0 = .ok (.aload_n 2, 1) := by decide +kernel
theorem dL_cut_1 : decode cL_cut 1 = .ok (.aload_n 0, 1) := by decide +kernel
theorem dL_cut_2 : decode cL_cut 2 = .ok (.iload_n 1, 1) := by decide +kernel
theorem dL_cut_3 : decode cL_cut 3 = .ok (.invokevirtual 80, 3) := by decide +kernel
theorem dL_cut_6 : decode cL_cut 6 = .ok (.i2l, 1) := by decide +kernel
theorem dL_cut_7 : decode cL_cut 7 = .ok (.putfield 13, 3) := by decide +kernel
theorem dL_cut_10 : decode cL_cut 10 = .ok (.goto 6, 3) := by decide +kernel
theorem dL_cut_13 : decode cL_cut 13 = .ok (.astore_n 3, 1) := by decide +kernel
theorem dL_cut_14 : decode cL_cut 14 = .ok (.iconst 1, 1) := by decide +kernel
theorem dL_cut_15 : decode cL_cut 15 = .ok (.ireturn, 1) := by decide +kernel
theorem dL_cut_16 : decode cL_cut 16 = .ok (.iconst 0, 1) := by decide +kernel
theorem dL_cut_17 : decode cL_cut 17 = .ok (.ireturn, 1) := by decide +kernel
theorem dL_takePiece_0 : decode cL_takePiece 0 = .ok (.aload_n 3, 1) := by decide +kernel
theorem dL_takePiece_1 : decode cL_takePiece 1 = .ok (.aload_n 0, 1) := by decide +kernel
theorem dL_takePiece_2 : decode cL_takePiece 2 = .ok (.iload_n 1, 1) := by decide +kernel
theorem dL_takePiece_3 : decode cL_takePiece 3 = .ok (.iload_n 2, 1) := by decide +kernel
theorem dL_takePiece_4 : decode cL_takePiece 4 = .ok (.invokevirtual 83, 3) := by decide +kernel
theorem dL_takePiece_7 : decode cL_takePiece 7 = .ok (.i2l, 1) := by decide +kernel
theorem dL_takePiece_8 : decode cL_takePiece 8 = .ok (.putfield 13, 3) := by decide +kernel
theorem dL_takePiece_11 : decode cL_takePiece 11 = .ok (.goto 7, 3) := by decide +kernel
theorem dL_takePiece_14 : decode cL_takePiece 14 = .ok (.astore 4, 2) := by decide +kernel
theorem dL_takePiece_16 : decode cL_takePiece 16 = .ok (.iconst 1, 1) := by decide +kernel
theorem dL_takePiece_17 : decode cL_takePiece 17 = .ok (.ireturn, 1) := by decide +kernel
theorem dL_takePiece_18 : decode cL_takePiece 18 = .ok (.iconst 0, 1) := by decide +kernel
theorem dL_takePiece_19 : decode cL_takePiece 19 = .ok (.ireturn, 1) := by decide +kernel
theorem dL_text_0 : decode cL_text 0 = .ok (.aload_n 2, 1) := by decide +kernel
theorem dL_text_1 : decode cL_text 1 = .ok (.aload_n 0, 1) := by decide +kernel
theorem dL_text_2 : decode cL_text 2 = .ok (.iload_n 1, 1) := by decide +kernel
theorem dL_text_3 : decode cL_text 3 = .ok (.invokevirtual 86, 3) := by decide +kernel
theorem dL_text_6 : decode cL_text 6 = .ok (.putfield 90, 3) := by decide +kernel
theorem dL_text_9 : decode cL_text 9 = .ok (.goto 6, 3) := by decide +kernel
theorem dL_text_12 : decode cL_text 12 = .ok (.astore_n 3, 1) := by decide +kernel
theorem dL_text_13 : decode cL_text 13 = .ok (.iconst 1, 1) := by decide +kernel
theorem dL_text_14 : decode cL_text 14 = .ok (.ireturn, 1) := by decide +kernel
theorem dL_text_15 : decode cL_text 15 = .ok (.iconst 0, 1) := by decide +kernel
theorem dL_text_16 : decode cL_text 16 = .ok (.ireturn, 1) := by decide +kernel
theorem dL_length_0 : decode cL_length 0 = .ok (.aload_n 2, 1) := by decide +kernel
theorem dL_length_1 : decode cL_length 1 = .ok (.aload_n 0, 1) := by decide +kernel
theorem dL_length_2 : decode cL_length 2 = .ok (.iload_n 1, 1) := by decide +kernel
theorem dL_length_3 : decode cL_length 3 = .ok (.invokevirtual 94, 3) := by decide +kernel
theorem dL_length_6 : decode cL_length 6 = .ok (.i2l, 1) := by decide +kernel
theorem dL_length_7 : decode cL_length 7 = .ok (.putfield 13, 3) := by decide +kernel
theorem dL_length_10 : decode cL_length 10 = .ok (.goto 6, 3) := by decide +kernel
theorem dL_length_13 : decode cL_length 13 = .ok (.astore_n 3, 1) := by decide +kernel
theorem dL_length_14 : decode cL_length 14 = .ok (.iconst 1, 1) := by decide +kernel
theorem dL_length_15 : decode cL_length 15 = .ok (.ireturn, 1) := by decide +kernel
theorem dL_length_16 : decode cL_length 16 = .ok (.iconst 0, 1) := by decide +kernel
theorem dL_length_17 : decode cL_length 17 = .ok (.ireturn, 1) := by decide +kernel
theorem dL_at_0 : decode cL_at 0 = .ok (.aload_n 3, 1) := by decide +kernel
theorem dL_at_1 : decode cL_at 1 = .ok (.aload_n 0, 1) := by decide +kernel
theorem dL_at_2 : decode cL_at 2 = .ok (.iload_n 1, 1) := by decide +kernel
theorem dL_at_3 : decode cL_at 3 = .ok (.iload_n 2, 1) := by decide +kernel
theorem dL_at_4 : decode cL_at 4 = .ok (.invokevirtual 97, 3) := by decide +kernel
theorem dL_at_7 : decode cL_at 7 = .ok (.i2l, 1) := by decide +kernel
theorem dL_at_8 : decode cL_at 8 = .ok (.putfield 13, 3) := by decide +kernel
theorem dL_at_11 : decode cL_at 11 = .ok (.goto 7, 3) := by decide +kernel
theorem dL_at_14 : decode cL_at 14 = .ok (.astore 4, 2) := by decide +kernel
theorem dL_at_16 : decode cL_at 16 = .ok (.iconst 1, 1) := by decide +kernel
theorem dL_at_17 : decode cL_at 17 = .ok (.ireturn, 1) := by decide +kernel
theorem dL_at_18 : decode cL_at 18 = .ok (.iconst 0, 1) := by decide +kernel
theorem dL_at_19 : decode cL_at 19 = .ok (.ireturn, 1) := by decide +kernel
theorem dL_isEmpty_0 : decode cL_isEmpty 0 = .ok (.aload_n 2, 1) := by decide +kernel
theorem dL_isEmpty_1 : decode cL_isEmpty 1 = .ok (.aload_n 0, 1) := by decide +kernel
theorem dL_isEmpty_2 : decode cL_isEmpty 2 = .ok (.iload_n 1, 1) := by decide +kernel
theorem dL_isEmpty_3 : decode cL_isEmpty 3 = .ok (.invokevirtual 100, 3) := by decide +kernel
theorem dL_isEmpty_6 : decode cL_isEmpty 6 = .ok (.ifCond .eq 7, 3) := by decide +kernel
theorem dL_isEmpty_9 : decode cL_isEmpty 9 = .ok (.lconst 1, 1) := by decide +kernel
theorem dL_isEmpty_10 : decode cL_isEmpty 10 = .ok (.goto 4, 3) := by decide +kernel
theorem dL_isEmpty_13 : decode cL_isEmpty 13 = .ok (.lconst 0, 1) := by decide +kernel
theorem dL_isEmpty_14 : decode cL_isEmpty 14 = .ok (.putfield 13, 3) := by decide +kernel
theorem dL_isEmpty_17 : decode cL_isEmpty 17 = .ok (.goto 6, 3) := by decide +kernel
theorem dL_isEmpty_20 : decode cL_isEmpty 20 = .ok (.astore_n 3, 1) := by decide +kernel
theorem dL_isEmpty_21 : decode cL_isEmpty 21 = .ok (.iconst 1, 1) := by decide +kernel
theorem dL_isEmpty_22 : decode cL_isEmpty 22 = .ok (.ireturn, 1) := by decide +kernel
theorem dL_isEmpty_23 : decode cL_isEmpty 23 = .ok (.iconst 0, 1) := by decide +kernel
theorem dL_isEmpty_24 : decode cL_isEmpty 24 = .ok (.ireturn, 1) := by decide +kernel
theorem dL_isBlank_0 : decode cL_isBlank 0 = .ok (.aload_n 2, 1) := by decide +kernel
theorem dL_isBlank_1 : decode cL_isBlank 1 = .ok (.aload_n 0, 1) := by decide +kernel
theorem dL_isBlank_2 : decode cL_isBlank 2 = .ok (.iload_n 1, 1) := by decide +kernel
theorem dL_isBlank_3 : decode cL_isBlank 3 = .ok (.invokevirtual 104, 3) := by decide +kernel
theorem dL_isBlank_6 : decode cL_isBlank 6 = .ok (.ifCond .eq 7, 3) := by decide +kernel
theorem dL_isBlank_9 : decode cL_isBlank 9 = .ok (.lconst 1, 1) := by decide +kernel
theorem dL_isBlank_10 : decode cL_isBlank 10 = .ok (.goto 4, 3) := by decide +kernel
theorem dL_isBlank_13 : decode cL_isBlank 13 = .ok (.lconst 0, 1) := by decide +kernel
theorem dL_isBlank_14 : decode cL_isBlank 14 = .ok (.putfield 13, 3) := by decide +kernel
theorem dL_isBlank_17 : decode cL_isBlank 17 = .ok (.goto 6, 3) := by decide +kernel
theorem dL_isBlank_20 : decode cL_isBlank 20 = .ok (.astore_n 3, 1) := by decide +kernel
theorem dL_isBlank_21 : decode cL_isBlank 21 = .ok (.iconst 1, 1) := by decide +kernel
theorem dL_isBlank_22 : decode cL_isBlank 22 = .ok (.ireturn, 1) := by decide +kernel
theorem dL_isBlank_23 : decode cL_isBlank 23 = .ok (.iconst 0, 1) := by decide +kernel
theorem dL_isBlank_24 : decode cL_isBlank 24 = .ok (.ireturn, 1) := by decide +kernel
theorem dL_hash_0 : decode cL_hash 0 = .ok (.aload_n 2, 1) := by decide +kernel
theorem dL_hash_1 : decode cL_hash 1 = .ok (.aload_n 0, 1) := by decide +kernel
theorem dL_hash_2 : decode cL_hash 2 = .ok (.iload_n 1, 1) := by decide +kernel
theorem dL_hash_3 : decode cL_hash 3 = .ok (.invokevirtual 107, 3) := by decide +kernel
theorem dL_hash_6 : decode cL_hash 6 = .ok (.i2l, 1) := by decide +kernel
theorem dL_hash_7 : decode cL_hash 7 = .ok (.putfield 13, 3) := by decide +kernel
theorem dL_hash_10 : decode cL_hash 10 = .ok (.goto 6, 3) := by decide +kernel
theorem dL_hash_13 : decode cL_hash 13 = .ok (.astore_n 3, 1) := by decide +kernel
theorem dL_hash_14 : decode cL_hash 14 = .ok (.iconst 1, 1) := by decide +kernel
theorem dL_hash_15 : decode cL_hash 15 = .ok (.ireturn, 1) := by decide +kernel
theorem dL_hash_16 : decode cL_hash 16 = .ok (.iconst 0, 1) := by decide +kernel
theorem dL_hash_17 : decode cL_hash 17 = .ok (.ireturn, 1) := by decide +kernel
theorem dL_first_0 : decode cL_first 0 = .ok (.aload_n 3, 1) := by decide +kernel
theorem dL_first_1 : decode cL_first 1 = .ok (.aload_n 0, 1) := by decide +kernel
theorem dL_first_2 : decode cL_first 2 = .ok (.iload_n 1, 1) := by decide +kernel
theorem dL_first_3 : decode cL_first 3 = .ok (.iload_n 2, 1) := by decide +kernel
theorem dL_first_4 : decode cL_first 4 = .ok (.invokevirtual 110, 3) := by decide +kernel
theorem dL_first_7 : decode cL_first 7 = .ok (.i2l, 1) := by decide +kernel
theorem dL_first_8 : decode cL_first 8 = .ok (.putfield 13, 3) := by decide +kernel
theorem dL_first_11 : decode cL_first 11 = .ok (.goto 11, 3) := by decide +kernel
theorem dL_first_14 : decode cL_first 14 = .ok (.astore 4, 2) := by decide +kernel
theorem dL_first_16 : decode cL_first 16 = .ok (.iconst 1, 1) := by decide +kernel
theorem dL_first_17 : decode cL_first 17 = .ok (.ireturn, 1) := by decide +kernel
theorem dL_first_18 : decode cL_first 18 = .ok (.astore 4, 2) := by decide +kernel
theorem dL_first_20 : decode cL_first 20 = .ok (.iconst 2, 1) := by decide +kernel
theorem dL_first_21 : decode cL_first 21 = .ok (.ireturn, 1) := by decide +kernel
theorem dL_first_22 : decode cL_first 22 = .ok (.iconst 0, 1) := by decide +kernel
theorem dL_first_23 : decode cL_first 23 = .ok (.ireturn, 1) := by decide +kernel
theorem dL_last_0 : decode cL_last 0 = .ok (.aload_n 3, 1) := by decide +kernel
theorem dL_last_1 : decode cL_last 1 = .ok (.aload_n 0, 1) := by decide +kernel
theorem dL_last_2 : decode cL_last 2 = .ok (.iload_n 1, 1) := by decide +kernel
theorem dL_last_3 : decode cL_last 3 = .ok (.iload_n 2, 1) := by decide +kernel
theorem dL_last_4 : decode cL_last 4 = .ok (.invokevirtual 113, 3) := by decide +kernel
theorem dL_last_7 : decode cL_last 7 = .ok (.i2l, 1) := by decide +kernel
theorem dL_last_8 : decode cL_last 8 = .ok (.putfield 13, 3) := by decide +kernel
theorem dL_last_11 : decode cL_last 11 = .ok (.goto 11, 3) := by decide +kernel
theorem dL_last_14 : decode cL_last 14 = .ok (.astore 4, 2) := by decide +kernel
theorem dL_last_16 : decode cL_last 16 = .ok (.iconst 1, 1) := by decide +kernel
theorem dL_last_17 : decode cL_last 17 = .ok (.ireturn, 1) := by decide +kernel
theorem dL_last_18 : decode cL_last 18 = .ok (.astore 4, 2) := by decide +kernel
theorem dL_last_20 : decode cL_last 20 = .ok (.iconst 2, 1) := by decide +kernel
theorem dL_last_21 : decode cL_last 21 = .ok (.ireturn, 1) := by decide +kernel
theorem dL_last_22 : decode cL_last 22 = .ok (.iconst 0, 1) := by decide +kernel
theorem dL_last_23 : decode cL_last 23 = .ok (.ireturn, 1) := by decide +kernel
theorem dL_next_0 : decode cL_next 0 = .ok (.aload 4, 2) := by decide +kernel
theorem dL_next_2 : decode cL_next 2 = .ok (.aload_n 0, 1) := by decide +kernel
theorem dL_next_3 : decode cL_next 3 = .ok (.iload_n 1, 1) := by decide +kernel
theorem dL_next_4 : decode cL_next 4 = .ok (.iload_n 2, 1) := by decide +kernel
theorem dL_next_5 : decode cL_next 5 = .ok (.iload_n 3, 1) := by decide +kernel
theorem dL_next_6 : decode cL_next 6 = .ok (.invokevirtual 116, 3) := by decide +kernel
theorem dL_next_9 : decode cL_next 9 = .ok (.i2l, 1) := by decide +kernel
theorem dL_next_10 : decode cL_next 10 = .ok (.putfield 13, 3) := by decide +kernel
theorem dL_next_13 : decode cL_next 13 = .ok (.goto 11, 3) := by decide +kernel
theorem dL_next_16 : decode cL_next 16 = .ok (.astore 5, 2) := by decide +kernel
theorem dL_next_18 : decode cL_next 18 = .ok (.iconst 1, 1) := by decide +kernel
theorem dL_next_19 : decode cL_next 19 = .ok (.ireturn, 1) := by decide +kernel
theorem dL_next_20 : decode cL_next 20 = .ok (.astore 5, 2) := by decide +kernel
theorem dL_next_22 : decode cL_next 22 = .ok (.iconst 2, 1) := by decide +kernel
theorem dL_next_23 : decode cL_next 23 = .ok (.ireturn, 1) := by decide +kernel
theorem dL_next_24 : decode cL_next 24 = .ok (.iconst 0, 1) := by decide +kernel
theorem dL_next_25 : decode cL_next 25 = .ok (.ireturn, 1) := by decide +kernel
theorem dL_begins_0 : decode cL_begins 0 = .ok (.aload 4, 2) := by decide +kernel
theorem dL_begins_2 : decode cL_begins 2 = .ok (.aload_n 0, 1) := by decide +kernel
theorem dL_begins_3 : decode cL_begins 3 = .ok (.iload_n 1, 1) := by decide +kernel
theorem dL_begins_4 : decode cL_begins 4 = .ok (.iload_n 2, 1) := by decide +kernel
theorem dL_begins_5 : decode cL_begins 5 = .ok (.iload_n 3, 1) := by decide +kernel
theorem dL_begins_6 : decode cL_begins 6 = .ok (.invokevirtual 119, 3) := by decide +kernel
theorem dL_begins_9 : decode cL_begins 9 = .ok (.ifCond .eq 7, 3) := by decide +kernel
theorem dL_begins_12 : decode cL_begins 12 = .ok (.lconst 1, 1) := by decide +kernel
theorem dL_begins_13 : decode cL_begins 13 = .ok (.goto 4, 3) := by decide +kernel
theorem dL_begins_16 : decode cL_begins 16 = .ok (.lconst 0, 1) := by decide +kernel
theorem dL_begins_17 : decode cL_begins 17 = .ok (.putfield 13, 3) := by decide +kernel
theorem dL_begins_20 : decode cL_begins 20 = .ok (.goto 11, 3) := by decide +kernel
theorem dL_begins_23 : decode cL_begins 23 = .ok (.astore 5, 2) := by decide +kernel
theorem dL_begins_25 : decode cL_begins 25 = .ok (.iconst 1, 1) := by decide +kernel
theorem dL_begins_26 : decode cL_begins 26 = .ok (.ireturn, 1) := by decide +kernel
theorem dL_begins_27 : decode cL_begins 27 = .ok (.astore 5, 2) := by decide +kernel
theorem dL_begins_29 : decode cL_begins 29 = .ok (.iconst 2, 1) := by decide +kernel
theorem dL_begins_30 : decode cL_begins 30 = .ok (.ireturn, 1) := by decide +kernel
theorem dL_begins_31 : decode cL_begins 31 = .ok (.iconst 0, 1) := by decide +kernel
theorem dL_begins_32 : decode cL_begins 32 = .ok (.ireturn, 1) := by decide +kernel
theorem dL_stands_0 : decode cL_stands 0 = .ok (.aload 5, 2) := by decide +kernel
theorem dL_stands_2 : decode cL_stands 2 = .ok (.aload_n 0, 1) := by decide +kernel
theorem dL_stands_3 : decode cL_stands 3 = .ok (.iload_n 1, 1) := by decide +kernel
theorem dL_stands_4 : decode cL_stands 4 = .ok (.iload_n 2, 1) := by decide +kernel
theorem dL_stands_5 : decode cL_stands 5 = .ok (.iload_n 3, 1) := by decide +kernel
theorem dL_stands_6 : decode cL_stands 6 = .ok (.iload 4, 2) := by decide +kernel
theorem dL_stands_8 : decode cL_stands 8 = .ok (.invokevirtual 123, 3) := by decide +kernel
theorem dL_stands_11 : decode cL_stands 11 = .ok (.ifCond .eq 7, 3) := by decide +kernel
theorem dL_stands_14 : decode cL_stands 14 = .ok (.lconst 1, 1) := by decide +kernel
theorem dL_stands_15 : decode cL_stands 15 = .ok (.goto 4, 3) := by decide +kernel
theorem dL_stands_18 : decode cL_stands 18 = .ok (.lconst 0, 1) := by decide +kernel
theorem dL_stands_19 : decode cL_stands 19 = .ok (.putfield 13, 3) := by decide +kernel
theorem dL_stands_22 : decode cL_stands 22 = .ok (.goto 11, 3) := by decide +kernel
theorem dL_stands_25 : decode cL_stands 25 = .ok (.astore 6, 2) := by decide +kernel
theorem dL_stands_27 : decode cL_stands 27 = .ok (.iconst 1, 1) := by decide +kernel
theorem dL_stands_28 : decode cL_stands 28 = .ok (.ireturn, 1) := by decide +kernel
theorem dL_stands_29 : decode cL_stands 29 = .ok (.astore 6, 2) := by decide +kernel
theorem dL_stands_31 : decode cL_stands 31 = .ok (.iconst 2, 1) := by decide +kernel
theorem dL_stands_32 : decode cL_stands 32 = .ok (.ireturn, 1) := by decide +kernel
theorem dL_stands_33 : decode cL_stands 33 = .ok (.iconst 0, 1) := by decide +kernel
theorem dL_stands_34 : decode cL_stands 34 = .ok (.ireturn, 1) := by decide +kernel
theorem dL_firstOf_0 : decode cL_firstOf 0 = .ok (.aload_n 3, 1) := by decide +kernel
theorem dL_firstOf_1 : decode cL_firstOf 1 = .ok (.aload_n 0, 1) := by decide +kernel
theorem dL_firstOf_2 : decode cL_firstOf 2 = .ok (.iload_n 1, 1) := by decide +kernel
theorem dL_firstOf_3 : decode cL_firstOf 3 = .ok (.iload_n 2, 1) := by decide +kernel
theorem dL_firstOf_4 : decode cL_firstOf 4 = .ok (.invokevirtual 127, 3) := by decide +kernel
theorem dL_firstOf_7 : decode cL_firstOf 7 = .ok (.i2l, 1) := by decide +kernel
theorem dL_firstOf_8 : decode cL_firstOf 8 = .ok (.putfield 13, 3) := by decide +kernel
theorem dL_firstOf_11 : decode cL_firstOf 11 = .ok (.goto 7, 3) := by decide +kernel
theorem dL_firstOf_14 : decode cL_firstOf 14 = .ok (.astore 4, 2) := by decide +kernel
theorem dL_firstOf_16 : decode cL_firstOf 16 = .ok (.iconst 1, 1) := by decide +kernel
theorem dL_firstOf_17 : decode cL_firstOf 17 = .ok (.ireturn, 1) := by decide +kernel
theorem dL_firstOf_18 : decode cL_firstOf 18 = .ok (.iconst 0, 1) := by decide +kernel
theorem dL_firstOf_19 : decode cL_firstOf 19 = .ok (.ireturn, 1) := by decide +kernel
theorem dL_lastOf_0 : decode cL_lastOf 0 = .ok (.aload_n 3, 1) := by decide +kernel
theorem dL_lastOf_1 : decode cL_lastOf 1 = .ok (.aload_n 0, 1) := by decide +kernel
theorem dL_lastOf_2 : decode cL_lastOf 2 = .ok (.iload_n 1, 1) := by decide +kernel
theorem dL_lastOf_3 : decode cL_lastOf 3 = .ok (.iload_n 2, 1) := by decide +kernel
theorem dL_lastOf_4 : decode cL_lastOf 4 = .ok (.invokevirtual 130, 3) := by decide +kernel
theorem dL_lastOf_7 : decode cL_lastOf 7 = .ok (.i2l, 1) := by decide +kernel
theorem dL_lastOf_8 : decode cL_lastOf 8 = .ok (.putfield 13, 3) := by decide +kernel
theorem dL_lastOf_11 : decode cL_lastOf 11 = .ok (.goto 7, 3) := by decide +kernel
theorem dL_lastOf_14 : decode cL_lastOf 14 = .ok (.astore 4, 2) := by decide +kernel
theorem dL_lastOf_16 : decode cL_lastOf 16 = .ok (.iconst 1, 1) := by decide +kernel
theorem dL_lastOf_17 : decode cL_lastOf 17 = .ok (.ireturn, 1) := by decide +kernel
theorem dL_lastOf_18 : decode cL_lastOf 18 = .ok (.iconst 0, 1) := by decide +kernel
theorem dL_lastOf_19 : decode cL_lastOf 19 = .ok (.ireturn, 1) := by decide +kernel
theorem dL_isIn_0 : decode cL_isIn 0 = .ok (.aload_n 3, 1) := by decide +kernel
theorem dL_isIn_1 : decode cL_isIn 1 = .ok (.aload_n 0, 1) := by decide +kernel
theorem dL_isIn_2 : decode cL_isIn 2 = .ok (.iload_n 1, 1) := by decide +kernel
theorem dL_isIn_3 : decode cL_isIn 3 = .ok (.iload_n 2, 1) := by decide +kernel
theorem dL_isIn_4 : decode cL_isIn 4 = .ok (.invokevirtual 133, 3) := by decide +kernel
theorem dL_isIn_7 : decode cL_isIn 7 = .ok (.ifCond .eq 7, 3) := by decide +kernel
theorem dL_isIn_10 : decode cL_isIn 10 = .ok (.lconst 1, 1) := by decide +kernel
theorem dL_isIn_11 : decode cL_isIn 11 = .ok (.goto 4, 3) := by decide +kernel
theorem dL_isIn_14 : decode cL_isIn 14 = .ok (.lconst 0, 1) := by decide +kernel
theorem dL_isIn_15 : decode cL_isIn 15 = .ok (.putfield 13, 3) := by decide +kernel
theorem dL_isIn_18 : decode cL_isIn 18 = .ok (.goto 7, 3) := by decide +kernel
theorem dL_isIn_21 : decode cL_isIn 21 = .ok (.astore 4, 2) := by decide +kernel
theorem dL_isIn_23 : decode cL_isIn 23 = .ok (.iconst 1, 1) := by decide +kernel
theorem dL_isIn_24 : decode cL_isIn 24 = .ok (.ireturn, 1) := by decide +kernel
theorem dL_isIn_25 : decode cL_isIn 25 = .ok (.iconst 0, 1) := by decide +kernel
theorem dL_isIn_26 : decode cL_isIn 26 = .ok (.ireturn, 1) := by decide +kernel
theorem dL_isSame_0 : decode cL_isSame 0 = .ok (.aload 4, 2) := by decide +kernel
theorem dL_isSame_2 : decode cL_isSame 2 = .ok (.aload_n 0, 1) := by decide +kernel
theorem dL_isSame_3 : decode cL_isSame 3 = .ok (.iload_n 1, 1) := by decide +kernel
theorem dL_isSame_4 : decode cL_isSame 4 = .ok (.iload_n 2, 1) := by decide +kernel
theorem dL_isSame_5 : decode cL_isSame 5 = .ok (.iload_n 3, 1) := by decide +kernel
theorem dL_isSame_6 : decode cL_isSame 6 = .ok (.invokevirtual 137, 3) := by decide +kernel
theorem dL_isSame_9 : decode cL_isSame 9 = .ok (.ifCond .eq 7, 3) := by decide +kernel
theorem dL_isSame_12 : decode cL_isSame 12 = .ok (.lconst 1, 1) := by decide +kernel
theorem dL_isSame_13 : decode cL_isSame 13 = .ok (.goto 4, 3) := by decide +kernel
theorem dL_isSame_16 : decode cL_isSame 16 = .ok (.lconst 0, 1) := by decide +kernel
theorem dL_isSame_17 : decode cL_isSame 17 = .ok (.putfield 13, 3) := by decide +kernel
theorem dL_isSame_20 : decode cL_isSame 20 = .ok (.goto 7, 3) := by decide +kernel
theorem dL_isSame_23 : decode cL_isSame 23 = .ok (.astore 5, 2) := by decide +kernel
theorem dL_isSame_25 : decode cL_isSame 25 = .ok (.iconst 1, 1) := by decide +kernel
theorem dL_isSame_26 : decode cL_isSame 26 = .ok (.ireturn, 1) := by decide +kernel
theorem dL_isSame_27 : decode cL_isSame 27 = .ok (.iconst 0, 1) := by decide +kernel
theorem dL_isSame_28 : decode cL_isSame 28 = .ok (.ireturn, 1) := by decide +kernel
theorem dL_order_0 : decode cL_order 0 = .ok (.aload_n 3, 1) := by decide +kernel
theorem dL_order_1 : decode cL_order 1 = .ok (.aload_n 0, 1) := by decide +kernel
theorem dL_order_2 : decode cL_order 2 = .ok (.iload_n 1, 1) := by decide +kernel
theorem dL_order_3 : decode cL_order 3 = .ok (.iload_n 2, 1) := by decide +kernel
theorem dL_order_4 : decode cL_order 4 = .ok (.invokevirtual 140, 3) := by decide +kernel
theorem dL_order_7 : decode cL_order 7 = .ok (.i2l, 1) := by decide +kernel
theorem dL_order_8 : decode cL_order 8 = .ok (.putfield 13, 3) := by decide +kernel
theorem dL_order_11 : decode cL_order 11 = .ok (.goto 7, 3) := by decide +kernel
theorem dL_order_14 : decode cL_order 14 = .ok (.astore 4, 2) := by decide +kernel
theorem dL_order_16 : decode cL_order 16 = .ok (.iconst 1, 1) := by decide +kernel
theorem dL_order_17 : decode cL_order 17 = .ok (.ireturn, 1) := by decide +kernel
theorem dL_order_18 : decode cL_order 18 = .ok (.iconst 0, 1) := by decide +kernel
theorem dL_order_19 : decode cL_order 19 = .ok (.ireturn, 1) := by decide +kernel
theorem dL_orderLike_0 : decode cL_orderLike 0 = .ok (.aload_n 3, 1) := by decide +kernel
theorem dL_orderLike_1 : decode cL_orderLike 1 = .ok (.aload_n 0, 1) := by decide +kernel
theorem dL_orderLike_2 : decode cL_orderLike 2 = .ok (.iload_n 1, 1) := by decide +kernel
theorem dL_orderLike_3 : decode cL_orderLike 3 = .ok (.iload_n 2, 1) := by decide +kernel
theorem dL_orderLike_4 : decode cL_orderLike 4 = .ok (.invokevirtual 143, 3) := by decide +kernel
theorem dL_orderLike_7 : decode cL_orderLike 7 = .ok (.i2l, 1) := by decide +kernel
theorem dL_orderLike_8 : decode cL_orderLike 8 = .ok (.putfield 13, 3) := by decide +kernel
theorem dL_orderLike_11 : decode cL_orderLike 11 = .ok (.goto 7, 3) := by decide +kernel
theorem dL_orderLike_14 : decode cL_orderLike 14 = .ok (.astore 4, 2) := by decide +kernel
theorem dL_orderLike_16 : decode cL_orderLike 16 = .ok (.iconst 1, 1) := by decide +kernel
theorem dL_orderLike_17 : decode cL_orderLike 17 = .ok (.ireturn, 1) := by decide +kernel
theorem dL_orderLike_18 : decode cL_orderLike 18 = .ok (.iconst 0, 1) := by decide +kernel
theorem dL_orderLike_19 : decode cL_orderLike 19 = .ok (.ireturn, 1) := by decide +kernel
theorem dL_rowAt_0 : decode cL_rowAt 0 = .ok (.aload_n 2, 1) := by decide +kernel
theorem dL_rowAt_1 : decode cL_rowAt 1 = .ok (.aload_n 0, 1) := by decide +kernel
theorem dL_rowAt_2 : decode cL_rowAt 2 = .ok (.iload_n 1, 1) := by decide +kernel
theorem dL_rowAt_3 : decode cL_rowAt 3 = .ok (.invokevirtual 146, 3) := by decide +kernel
theorem dL_rowAt_6 : decode cL_rowAt 6 = .ok (.i2l, 1) := by decide +kernel
theorem dL_rowAt_7 : decode cL_rowAt 7 = .ok (.putfield 13, 3) := by decide +kernel
theorem dL_rowAt_10 : decode cL_rowAt 10 = .ok (.goto 6, 3) := by decide +kernel
theorem dL_rowAt_13 : decode cL_rowAt 13 = .ok (.astore_n 3, 1) := by decide +kernel
theorem dL_rowAt_14 : decode cL_rowAt 14 = .ok (.iconst 1, 1) := by decide +kernel
theorem dL_rowAt_15 : decode cL_rowAt 15 = .ok (.ireturn, 1) := by decide +kernel
theorem dL_rowAt_16 : decode cL_rowAt 16 = .ok (.iconst 0, 1) := by decide +kernel
theorem dL_rowAt_17 : decode cL_rowAt 17 = .ok (.ireturn, 1) := by decide +kernel
theorem dL_piece_0 : decode cL_piece 0 = .ok (.aload_n 2, 1) := by decide +kernel
theorem dL_piece_1 : decode cL_piece 1 = .ok (.aload_n 0, 1) := by decide +kernel
theorem dL_piece_2 : decode cL_piece 2 = .ok (.iload_n 1, 1) := by decide +kernel
theorem dL_piece_3 : decode cL_piece 3 = .ok (.invokevirtual 149, 3) := by decide +kernel
theorem dL_piece_6 : decode cL_piece 6 = .ok (.putfield 90, 3) := by decide +kernel
theorem dL_piece_9 : decode cL_piece 9 = .ok (.goto 6, 3) := by decide +kernel
theorem dL_piece_12 : decode cL_piece 12 = .ok (.astore_n 3, 1) := by decide +kernel
theorem dL_piece_13 : decode cL_piece 13 = .ok (.iconst 1, 1) := by decide +kernel
theorem dL_piece_14 : decode cL_piece 14 = .ok (.ireturn, 1) := by decide +kernel
theorem dL_piece_15 : decode cL_piece 15 = .ok (.iconst 0, 1) := by decide +kernel
theorem dL_piece_16 : decode cL_piece 16 = .ok (.ireturn, 1) := by decide +kernel
theorem dL_isPiece_0 : decode cL_isPiece 0 = .ok (.aload_n 3, 1) := by decide +kernel
theorem dL_isPiece_1 : decode cL_isPiece 1 = .ok (.aload_n 0, 1) := by decide +kernel
theorem dL_isPiece_2 : decode cL_isPiece 2 = .ok (.iload_n 1, 1) := by decide +kernel
theorem dL_isPiece_3 : decode cL_isPiece 3 = .ok (.iload_n 2, 1) := by decide +kernel
theorem dL_isPiece_4 : decode cL_isPiece 4 = .ok (.invokevirtual 152, 3) := by decide +kernel
theorem dL_isPiece_7 : decode cL_isPiece 7 = .ok (.ifCond .eq 7, 3) := by decide +kernel
theorem dL_isPiece_10 : decode cL_isPiece 10 = .ok (.lconst 1, 1) := by decide +kernel
theorem dL_isPiece_11 : decode cL_isPiece 11 = .ok (.goto 4, 3) := by decide +kernel
theorem dL_isPiece_14 : decode cL_isPiece 14 = .ok (.lconst 0, 1) := by decide +kernel
theorem dL_isPiece_15 : decode cL_isPiece 15 = .ok (.putfield 13, 3) := by decide +kernel
theorem dL_isPiece_18 : decode cL_isPiece 18 = .ok (.goto 7, 3) := by decide +kernel
theorem dL_isPiece_21 : decode cL_isPiece 21 = .ok (.astore 4, 2) := by decide +kernel
theorem dL_isPiece_23 : decode cL_isPiece 23 = .ok (.iconst 1, 1) := by decide +kernel
theorem dL_isPiece_24 : decode cL_isPiece 24 = .ok (.ireturn, 1) := by decide +kernel
theorem dL_isPiece_25 : decode cL_isPiece 25 = .ok (.iconst 0, 1) := by decide +kernel
theorem dL_isPiece_26 : decode cL_isPiece 26 = .ok (.ireturn, 1) := by decide +kernel
theorem dL_house_0 : decode cL_house 0 = .ok (.aload_n 2, 1) := by decide +kernel
theorem dL_house_1 : decode cL_house 1 = .ok (.aload_n 0, 1) := by decide +kernel
theorem dL_house_2 : decode cL_house 2 = .ok (.iload_n 1, 1) := by decide +kernel
theorem dL_house_3 : decode cL_house 3 = .ok (.invokevirtual 155, 3) := by decide +kernel
theorem dL_house_6 : decode cL_house 6 = .ok (.i2l, 1) := by decide +kernel
theorem dL_house_7 : decode cL_house 7 = .ok (.putfield 13, 3) := by decide +kernel
theorem dL_house_10 : decode cL_house 10 = .ok (.goto 6, 3) := by decide +kernel
theorem dL_house_13 : decode cL_house 13 = .ok (.astore_n 3, 1) := by decide +kernel
theorem dL_house_14 : decode cL_house 14 = .ok (.iconst 1, 1) := by decide +kernel
theorem dL_house_15 : decode cL_house 15 = .ok (.ireturn, 1) := by decide +kernel
theorem dL_house_16 : decode cL_house 16 = .ok (.iconst 0, 1) := by decide +kernel
theorem dL_house_17 : decode cL_house 17 = .ok (.ireturn, 1) := by decide +kernel
abbrev rmL_put : Room := { frames := 9, cells := 7, slots := 42, locals := 159 }
theorem mL_put {l : Launch} {G : Cx} {A : Nat → Prop} (hst : l.stackTraces = false) {out : Nat} {SA : Nat → Nat} {X : Nat → List Nat} {es : List Nat} {k : Int32} {x a9 b9 c9 d9 e9 : Int32} (hAS : ∀ i : Nat, i < 39 → A (SA i)) (hAo : A out) (hSo : ∀ i : Nat, i < 39 → SA i ≠ out) : Met l yL_put (.codeWith yL_put cL_put 9 (some .int) [(0, 19, 22, 19), (0, 19, 26, 21), (0, 19, 30, 23)] :: GW) rmL_put (PC G A [.ref (SA 0), .int x, .int a9, .int b9, .int c9, .int d9, .int e9, .ref out] (fun H => SS G SA X es k H ∧ OA G out H)) (qI A (fun r H => (r = 0 ∧ ∃ (v : Int32) (H0 : Heap), (fun r H => ∃ (i : Nat) (w : List Nat), i < 4 ∧ x = nI i ∧ comeS a9 b9 c9 d9 e9 w ∧ (X i ++ w).length ≤ 60 ∧ r = nI (X i ++ w).length ∧ SS G SA (updT X i (X i ++ w)) es k H) v H0 ∧ kp (fun q => q = out) H0 H ∧ ∃ w : Value, va_at G.1 vwCl (out, .inr (7, [.long v.toInt64, w])) H) ∨ (r = 1 ∧ (NT x) ∧ SS G SA X es k H ∧ OA G out H) ∨ (r = 2 ∧ ((∃ i : Nat, i < 4 ∧ x = nI i) ∧ (badS a9 ∨ badS b9 ∨ badS c9 ∨ badS d9 ∨ badS e9)) ∧ SS G SA X es k H ∧ OA G out H) ∨ (r = 3 ∧ (∃ (i : Nat) (w : List Nat), i < 4 ∧ x = nI i ∧ comeS a9 b9 c9 d9 e9 w ∧ 60 < (X i ++ w).length) ∧ SS G SA X es k H ∧ OA G out H))) 7 42 (A) := by
  refine mstartH "SigntextLaw" (by decide +kernel) rfl (Nat.le_of_ble_eq_true rfl) ?_
  intro p e s m below meth c ls hx hb hr hts hown hml hlocks htab hC hA hW hl
  have hl : lv_has ls 9 [(0, .ref (SA 0)), (1, .int x), (2, .int a9), (3, .int b9), (4, .int c9), (5, .int d9), (6, .int e9), (7, .ref out)] := hl
  have hK := hC.1
  have hS : va_S A s.heap s.heap [] := va_S.rf
  obtain ⟨hSS, hO⟩ := hW
  refine lv_aload hx hb dL_put_0 (lv_at hl 7 rfl) ?_
  refine lv_aload_n hx hb dL_put_2 rfl (lv_at hl 0 rfl) ?_
  refine lv_iload_n hx hb dL_put_3 rfl (lv_at hl 1 rfl) ?_
  refine lv_iload_n hx hb dL_put_4 rfl (lv_at hl 2 rfl) ?_
  refine lv_iload_n hx hb dL_put_5 rfl (lv_at hl 3 rfl) ?_
  refine lv_iload hx hb dL_put_6 (lv_at hl 4 rfl) ?_
  refine lv_iload hx hb dL_put_8 (lv_at hl 5 rfl) ?_
  refine lv_iload hx hb dL_put_10 (lv_at hl 6 rfl) ?_
  refine cI_V (A := A) (A1 := (fun q => A q ∧ q ≠ out)) (b := SA 0) (As := [.int x, .int a9, .int b9, .int c9, .int d9, .int e9]) (rest := .ref out :: []) ⟨hx, hb, hml, hown, hts⟩ (mX2_put (A := (fun q => A q ∧ q ≠ out)) hst (SA := SA) (X := X) (es := es) (k := k) (fun i hi => ⟨hAS i hi, hSo i hi⟩)) (cwV 6 hts (gV tw_3_0 tw_3_1 tw_3_2 tw_1_1 tw_3_3) rfl rfl rfl (by decide +kernel) ⟨Nat.le_of_ble_eq_true rfl, Nat.le_of_ble_eq_true rfl⟩) hC hS (fun _ h => h.1) (fun q h => ⟨hA q h, fun q9 => absurd hO.lt (by rw [← q9]; exact Nat.not_lt_of_le h)⟩) (hSS.recv hK) hSS rfl rfl hl.1 (Nat.le_of_ble_eq_true rfl) ⟨Nat.le_of_ble_eq_true rfl, Nat.le_of_ble_eq_true rfl⟩ dL_put_12 (fun E ce q9 H1 L1 hX hk hS h1 h2 h3 => ?_) (fun r1 H1 L1 hP hk hS => ?_)
  · have hO := hO.kp hk (fun h => h.2 rfl)
    obtain ⟨hX, hSS⟩ := hX
    rcases hX with ⟨rfl, hc⟩ | ⟨rfl, hc⟩ | ⟨rfl, hc⟩
    · refine vx_catch hown [] ⟨0, 19, 22, 19⟩ [⟨0, 19, 26, 21⟩, ⟨0, 19, 30, 23⟩] (htab.trans rfl) (fun z hz => absurd hz List.not_mem_nil) (by decide) (by decide) (hts _ tw_2_237) (hC.2.2.2.2.2.2.2.2.2.2.2.1.use xw_io) h1 h2 h3 ?_
      refine lv_astore (lv' := [(8, .ref q9), (0, .ref (SA 0)), (1, .int x), (2, .int a9), (3, .int b9), (4, .int c9), (5, .int d9), (6, .int e9), (7, .ref out)]) hx hb dL_put_22 hl (by decide) rfl (fun ls hl => ?_)
      refine lv_iconst (v := nI 1) hx hb dL_put_24 (by decide) ?_
      exact q_i hx hb hr hlocks dL_put_25 hS (Nat.le_of_ble_eq_true rfl) (Nat.le_of_ble_eq_true rfl) (Or.inr (Or.inl ⟨rfl, hc, hSS, hO⟩))
    · refine vx_catch hown [⟨0, 19, 22, 19⟩] ⟨0, 19, 26, 21⟩ [⟨0, 19, 30, 23⟩] (htab.trans rfl) (List.forall_mem_cons.mpr ⟨Or.inr ⟨by decide, "java/lang/IndexOutOfBoundsException", hts _ tw_2_237, hC.2.2.2.2.2.2.2.2.2.2.2.1.2 ("java/lang/IllegalArgumentException", "java/lang/IndexOutOfBoundsException") (by decide)⟩, (fun z hz => absurd hz List.not_mem_nil)⟩) (by decide) (by decide) (hts _ tw_2_238) (hC.2.2.2.2.2.2.2.2.2.2.2.1.use xw_ia) h1 h2 h3 ?_
      refine lv_astore (lv' := [(8, .ref q9), (0, .ref (SA 0)), (1, .int x), (2, .int a9), (3, .int b9), (4, .int c9), (5, .int d9), (6, .int e9), (7, .ref out)]) hx hb dL_put_26 hl (by decide) rfl (fun ls hl => ?_)
      refine lv_iconst (v := nI 2) hx hb dL_put_28 (by decide) ?_
      exact q_i hx hb hr hlocks dL_put_29 hS (Nat.le_of_ble_eq_true rfl) (Nat.le_of_ble_eq_true rfl) (Or.inr (Or.inr (Or.inl ⟨rfl, hc, hSS, hO⟩)))
    · refine vx_catch hown [⟨0, 19, 22, 19⟩, ⟨0, 19, 26, 21⟩] ⟨0, 19, 30, 23⟩ [] (htab.trans rfl) (List.forall_mem_cons.mpr ⟨Or.inr ⟨by decide, "java/lang/IndexOutOfBoundsException", hts _ tw_2_237, hC.2.2.2.2.2.2.2.2.2.2.2.1.2 ("java/lang/IllegalStateException", "java/lang/IndexOutOfBoundsException") (by decide)⟩, (List.forall_mem_cons.mpr ⟨Or.inr ⟨by decide, "java/lang/IllegalArgumentException", hts _ tw_2_238, hC.2.2.2.2.2.2.2.2.2.2.2.1.2 ("java/lang/IllegalStateException", "java/lang/IllegalArgumentException") (by decide)⟩, (fun z hz => absurd hz List.not_mem_nil)⟩)⟩) (by decide) (by decide) (hts _ tw_2_239) (hC.2.2.2.2.2.2.2.2.2.2.2.1.use xw_is) h1 h2 h3 ?_
      refine lv_astore (lv' := [(8, .ref q9), (0, .ref (SA 0)), (1, .int x), (2, .int a9), (3, .int b9), (4, .int c9), (5, .int d9), (6, .int e9), (7, .ref out)]) hx hb dL_put_30 hl (by decide) rfl (fun ls hl => ?_)
      refine lv_iconst (v := nI 3) hx hb dL_put_32 (by decide) ?_
      exact q_i hx hb hr hlocks dL_put_33 hS (Nat.le_of_ble_eq_true rfl) (Nat.le_of_ble_eq_true rfl) (Or.inr (Or.inr (Or.inr (⟨rfl, hc, hSS, hO⟩))))
  · obtain ⟨n9, v9, hO⟩ := hO.kp hk (fun h => h.2 rfl)
    try dsimp only at hP
    refine lv_i2l hx hb dL_put_15 rfl ?_
    refine h_putN (D := G.1) (ci := 7) (C := RX3) (T := TX3) (N := 2) hx hb hts inX3 tyX3 tyX3_ok nmX3 hown hK hO hS hAo rfl 0 (by decide) (va_Nw.use rfl hC.2.2.2.2.2.2.2.2.2.2.2.2.2.1) (fun _ h9 => h9) rfl (tyX3_ok 0 (by decide)) rfl rfl (Nat.le_of_ble_eq_true rfl) dL_put_16 (fun H2 L2 hO2 z2 o2 hS => ?_)
    refine lv_goto (tgt := 34) hx hb dL_put_19 (by decide) ?_
    refine lv_iconst (v := nI 0) hx hb dL_put_34 (by decide) ?_
    exact q_i hx hb hr hlocks dL_put_35 hS (Nat.le_of_ble_eq_true rfl) (Nat.le_of_ble_eq_true rfl) (Or.inl ⟨rfl, r1, H1, hP, kp.one z2 o2, _, hO2⟩)

abbrev rmL_clear : Room := { frames := 8, cells := 1, slots := 6, locals := 133 }
theorem mL_clear {l : Launch} {G : Cx} {A : Nat → Prop} (hst : l.stackTraces = false) {out : Nat} {SA : Nat → Nat} {X : Nat → List Nat} {es : List Nat} {k : Int32} {x : Int32} (hAS : ∀ i : Nat, i < 39 → A (SA i)) (hAo : A out) (hSo : ∀ i : Nat, i < 39 → SA i ≠ out) : Met l yL_clear (.codeWith yL_clear cL_clear 4 (some .int) [(0, 10, 13, 19)] :: GW) rmL_clear (PC G A [.ref (SA 0), .int x, .ref out] (fun H => SS G SA X es k H ∧ OA G out H)) (qI A (fun r H => (r = 0 ∧ ∃ (v : Int32) (H0 : Heap), (fun r H => ∃ i : Nat, i < 4 ∧ x = nI i ∧ r = nI (X i).length ∧ SS G SA (updT X i []) es k H) v H0 ∧ kp (fun q => q = out) H0 H ∧ ∃ w : Value, va_at G.1 vwCl (out, .inr (7, [.long v.toInt64, w])) H) ∨ (r = 1 ∧ (NT x) ∧ SS G SA X es k H ∧ OA G out H))) 1 6 (A) := by
  refine mstartH "SigntextLaw" (by decide +kernel) rfl (Nat.le_of_ble_eq_true rfl) ?_
  intro p e s m below meth c ls hx hb hr hts hown hml hlocks htab hC hA hW hl
  have hl : lv_has ls 4 [(0, .ref (SA 0)), (1, .int x), (2, .ref out)] := hl
  have hK := hC.1
  have hS : va_S A s.heap s.heap [] := va_S.rf
  obtain ⟨hSS, hO⟩ := hW
  refine lv_aload_n hx hb dL_clear_0 rfl (lv_at hl 2 rfl) ?_
  refine lv_aload_n hx hb dL_clear_1 rfl (lv_at hl 0 rfl) ?_
  refine lv_iload_n hx hb dL_clear_2 rfl (lv_at hl 1 rfl) ?_
  refine cI_V (A := A) (A1 := (fun q => A q ∧ q ≠ out)) (b := SA 0) (As := [.int x]) (rest := .ref out :: []) ⟨hx, hb, hml, hown, hts⟩ (mX2_clear (A := (fun q => A q ∧ q ≠ out)) hst (SA := SA) (X := X) (es := es) (k := k) (fun i hi => ⟨hAS i hi, hSo i hi⟩)) (cwV 1 hts (gV tw_3_62 tw_3_63 tw_3_64 tw_1_1 tw_3_65) rfl rfl rfl (by decide +kernel) ⟨Nat.le_of_ble_eq_true rfl, Nat.le_of_ble_eq_true rfl⟩) hC hS (fun _ h => h.1) (fun q h => ⟨hA q h, fun q9 => absurd hO.lt (by rw [← q9]; exact Nat.not_lt_of_le h)⟩) (hSS.recv hK) hSS rfl rfl hl.1 (Nat.le_of_ble_eq_true rfl) ⟨Nat.le_of_ble_eq_true rfl, Nat.le_of_ble_eq_true rfl⟩ dL_clear_3 (fun E ce q9 H1 L1 hX hk hS h1 h2 h3 => ?_) (fun r1 H1 L1 hP hk hS => ?_)
  · have hO := hO.kp hk (fun h => h.2 rfl)
    obtain ⟨hX, hSS⟩ := hX
    obtain ⟨rfl, hc⟩ := hX
    refine vx_catch hown [] ⟨0, 10, 13, 19⟩ [] (htab.trans rfl) (fun z hz => absurd hz List.not_mem_nil) (by decide) (by decide) (hts _ tw_2_237) (hC.2.2.2.2.2.2.2.2.2.2.2.1.use xw_io) h1 h2 h3 ?_
    refine lv_astore_n (lv' := [(3, .ref q9), (0, .ref (SA 0)), (1, .int x), (2, .ref out)]) hx hb dL_clear_13 rfl hl (by decide) rfl (fun ls hl => ?_)
    refine lv_iconst (v := nI 1) hx hb dL_clear_14 (by decide) ?_
    exact q_i hx hb hr hlocks dL_clear_15 hS (Nat.le_of_ble_eq_true rfl) (Nat.le_of_ble_eq_true rfl) (Or.inr (⟨rfl, hc, hSS, hO⟩))
  · obtain ⟨n9, v9, hO⟩ := hO.kp hk (fun h => h.2 rfl)
    try dsimp only at hP
    refine lv_i2l hx hb dL_clear_6 rfl ?_
    refine h_putN (D := G.1) (ci := 7) (C := RX3) (T := TX3) (N := 2) hx hb hts inX3 tyX3 tyX3_ok nmX3 hown hK hO hS hAo rfl 0 (by decide) (va_Nw.use rfl hC.2.2.2.2.2.2.2.2.2.2.2.2.2.1) (fun _ h9 => h9) rfl (tyX3_ok 0 (by decide)) rfl rfl (Nat.le_of_ble_eq_true rfl) dL_clear_7 (fun H2 L2 hO2 z2 o2 hS => ?_)
    refine lv_goto (tgt := 16) hx hb dL_clear_10 (by decide) ?_
    refine lv_iconst (v := nI 0) hx hb dL_clear_16 (by decide) ?_
    exact q_i hx hb hr hlocks dL_clear_17 hS (Nat.le_of_ble_eq_true rfl) (Nat.le_of_ble_eq_true rfl) (Or.inl ⟨rfl, r1, H1, hP, kp.one z2 o2, _, hO2⟩)

abbrev rmL_copy : Room := { frames := 8, cells := 2, slots := 12, locals := 133 }
theorem mL_copy {l : Launch} {G : Cx} {A : Nat → Prop} (hst : l.stackTraces = false) {out : Nat} {SA : Nat → Nat} {X : Nat → List Nat} {es : List Nat} {k : Int32} {x y : Int32} (hAS : ∀ i : Nat, i < 39 → A (SA i)) (hAo : A out) (hSo : ∀ i : Nat, i < 39 → SA i ≠ out) : Met l yL_copy (.codeWith yL_copy cL_copy 5 (some .int) [(0, 11, 14, 19)] :: GW) rmL_copy (PC G A [.ref (SA 0), .int x, .int y, .ref out] (fun H => SS G SA X es k H ∧ OA G out H)) (qI A (fun r H => (r = 0 ∧ ∃ (v : Int32) (H0 : Heap), (fun r H => ∃ i j : Nat, i < 4 ∧ x = nI i ∧ j < 4 ∧ y = nI j ∧ r = nI (X i).length ∧ SS G SA (updT X j (X i)) es k H) v H0 ∧ kp (fun q => q = out) H0 H ∧ ∃ w : Value, va_at G.1 vwCl (out, .inr (7, [.long v.toInt64, w])) H) ∨ (r = 1 ∧ ((NT x ∨ NT y)) ∧ SS G SA X es k H ∧ OA G out H))) 2 12 (A) := by
  refine mstartH "SigntextLaw" (by decide +kernel) rfl (Nat.le_of_ble_eq_true rfl) ?_
  intro p e s m below meth c ls hx hb hr hts hown hml hlocks htab hC hA hW hl
  have hl : lv_has ls 5 [(0, .ref (SA 0)), (1, .int x), (2, .int y), (3, .ref out)] := hl
  have hK := hC.1
  have hS : va_S A s.heap s.heap [] := va_S.rf
  obtain ⟨hSS, hO⟩ := hW
  refine lv_aload_n hx hb dL_copy_0 rfl (lv_at hl 3 rfl) ?_
  refine lv_aload_n hx hb dL_copy_1 rfl (lv_at hl 0 rfl) ?_
  refine lv_iload_n hx hb dL_copy_2 rfl (lv_at hl 1 rfl) ?_
  refine lv_iload_n hx hb dL_copy_3 rfl (lv_at hl 2 rfl) ?_
  refine cI_V (A := A) (A1 := (fun q => A q ∧ q ≠ out)) (b := SA 0) (As := [.int x, .int y]) (rest := .ref out :: []) ⟨hx, hb, hml, hown, hts⟩ (mX2_copy (A := (fun q => A q ∧ q ≠ out)) hst (SA := SA) (X := X) (es := es) (k := k) (fun i hi => ⟨hAS i hi, hSo i hi⟩)) (cwV 2 hts (gV tw_3_69 tw_3_70 tw_3_71 tw_1_1 tw_3_72) rfl rfl rfl (by decide +kernel) ⟨Nat.le_of_ble_eq_true rfl, Nat.le_of_ble_eq_true rfl⟩) hC hS (fun _ h => h.1) (fun q h => ⟨hA q h, fun q9 => absurd hO.lt (by rw [← q9]; exact Nat.not_lt_of_le h)⟩) (hSS.recv hK) hSS rfl rfl hl.1 (Nat.le_of_ble_eq_true rfl) ⟨Nat.le_of_ble_eq_true rfl, Nat.le_of_ble_eq_true rfl⟩ dL_copy_4 (fun E ce q9 H1 L1 hX hk hS h1 h2 h3 => ?_) (fun r1 H1 L1 hP hk hS => ?_)
  · have hO := hO.kp hk (fun h => h.2 rfl)
    obtain ⟨hX, hSS⟩ := hX
    obtain ⟨rfl, hc⟩ := hX
    refine vx_catch hown [] ⟨0, 11, 14, 19⟩ [] (htab.trans rfl) (fun z hz => absurd hz List.not_mem_nil) (by decide) (by decide) (hts _ tw_2_237) (hC.2.2.2.2.2.2.2.2.2.2.2.1.use xw_io) h1 h2 h3 ?_
    refine lv_astore (lv' := [(4, .ref q9), (0, .ref (SA 0)), (1, .int x), (2, .int y), (3, .ref out)]) hx hb dL_copy_14 hl (by decide) rfl (fun ls hl => ?_)
    refine lv_iconst (v := nI 1) hx hb dL_copy_16 (by decide) ?_
    exact q_i hx hb hr hlocks dL_copy_17 hS (Nat.le_of_ble_eq_true rfl) (Nat.le_of_ble_eq_true rfl) (Or.inr (⟨rfl, hc, hSS, hO⟩))
  · obtain ⟨n9, v9, hO⟩ := hO.kp hk (fun h => h.2 rfl)
    try dsimp only at hP
    refine lv_i2l hx hb dL_copy_7 rfl ?_
    refine h_putN (D := G.1) (ci := 7) (C := RX3) (T := TX3) (N := 2) hx hb hts inX3 tyX3 tyX3_ok nmX3 hown hK hO hS hAo rfl 0 (by decide) (va_Nw.use rfl hC.2.2.2.2.2.2.2.2.2.2.2.2.2.1) (fun _ h9 => h9) rfl (tyX3_ok 0 (by decide)) rfl rfl (Nat.le_of_ble_eq_true rfl) dL_copy_8 (fun H2 L2 hO2 z2 o2 hS => ?_)
    refine lv_goto (tgt := 18) hx hb dL_copy_11 (by decide) ?_
    refine lv_iconst (v := nI 0) hx hb dL_copy_18 (by decide) ?_
    exact q_i hx hb hr hlocks dL_copy_19 hS (Nat.le_of_ble_eq_true rfl) (Nat.le_of_ble_eq_true rfl) (Or.inl ⟨rfl, r1, H1, hP, kp.one z2 o2, _, hO2⟩)

abbrev rmL_part : Room := { frames := 8, cells := 3, slots := 18, locals := 136 }
theorem mL_part {l : Launch} {G : Cx} {A : Nat → Prop} (hst : l.stackTraces = false) {out : Nat} {SA : Nat → Nat} {X : Nat → List Nat} {es : List Nat} {k : Int32} {x f9 t9 y : Int32} (hAS : ∀ i : Nat, i < 39 → A (SA i)) (hAo : A out) (hSo : ∀ i : Nat, i < 39 → SA i ≠ out) : Met l yL_part (.codeWith yL_part cL_part 7 (some .int) [(0, 15, 18, 19)] :: GW) rmL_part (PC G A [.ref (SA 0), .int x, .int f9, .int t9, .int y, .ref out] (fun H => SS G SA X es k H ∧ OA G out H)) (qI A (fun r H => (r = 0 ∧ ∃ (v : Int32) (H0 : Heap), (fun r H => ∃ i j a9 b9 : Nat, i < 4 ∧ x = nI i ∧ j < 4 ∧ y = nI j ∧ f9 = nI a9 ∧ t9 = nI b9 ∧ a9 ≤ b9 ∧ b9 ≤ (X i).length ∧ r = nI (cutL (X i) a9 b9).length ∧ SS G SA (updT X j (cutL (X i) a9 b9)) es k H) v H0 ∧ kp (fun q => q = out) H0 H ∧ ∃ w : Value, va_at G.1 vwCl (out, .inr (7, [.long v.toInt64, w])) H) ∨ (r = 1 ∧ ((NT x ∨ NT y ∨ ¬ (∃ i a9 b9 : Nat, i < 4 ∧ x = nI i ∧ f9 = nI a9 ∧ t9 = nI b9 ∧ a9 ≤ b9 ∧ b9 ≤ (X i).length))) ∧ SS G SA X es k H ∧ OA G out H))) 3 18 (A) := by
  refine mstartH "SigntextLaw" (by decide +kernel) rfl (Nat.le_of_ble_eq_true rfl) ?_
  intro p e s m below meth c ls hx hb hr hts hown hml hlocks htab hC hA hW hl
  have hl : lv_has ls 7 [(0, .ref (SA 0)), (1, .int x), (2, .int f9), (3, .int t9), (4, .int y), (5, .ref out)] := hl
  have hK := hC.1
  have hS : va_S A s.heap s.heap [] := va_S.rf
  obtain ⟨hSS, hO⟩ := hW
  refine lv_aload hx hb dL_part_0 (lv_at hl 5 rfl) ?_
  refine lv_aload_n hx hb dL_part_2 rfl (lv_at hl 0 rfl) ?_
  refine lv_iload_n hx hb dL_part_3 rfl (lv_at hl 1 rfl) ?_
  refine lv_iload_n hx hb dL_part_4 rfl (lv_at hl 2 rfl) ?_
  refine lv_iload_n hx hb dL_part_5 rfl (lv_at hl 3 rfl) ?_
  refine lv_iload hx hb dL_part_6 (lv_at hl 4 rfl) ?_
  refine cI_V (A := A) (A1 := (fun q => A q ∧ q ≠ out)) (b := SA 0) (As := [.int x, .int f9, .int t9, .int y]) (rest := .ref out :: []) ⟨hx, hb, hml, hown, hts⟩ (mX2_part (A := (fun q => A q ∧ q ≠ out)) hst (SA := SA) (X := X) (es := es) (k := k) (fun i hi => ⟨hAS i hi, hSo i hi⟩)) (cwV 4 hts (gV tw_3_76 tw_3_77 tw_3_78 tw_1_1 tw_3_79) rfl rfl rfl (by decide +kernel) ⟨Nat.le_of_ble_eq_true rfl, Nat.le_of_ble_eq_true rfl⟩) hC hS (fun _ h => h.1) (fun q h => ⟨hA q h, fun q9 => absurd hO.lt (by rw [← q9]; exact Nat.not_lt_of_le h)⟩) (hSS.recv hK) hSS rfl rfl hl.1 (Nat.le_of_ble_eq_true rfl) ⟨Nat.le_of_ble_eq_true rfl, Nat.le_of_ble_eq_true rfl⟩ dL_part_8 (fun E ce q9 H1 L1 hX hk hS h1 h2 h3 => ?_) (fun r1 H1 L1 hP hk hS => ?_)
  · have hO := hO.kp hk (fun h => h.2 rfl)
    obtain ⟨hX, hSS⟩ := hX
    obtain ⟨rfl, hc⟩ := hX
    refine vx_catch hown [] ⟨0, 15, 18, 19⟩ [] (htab.trans rfl) (fun z hz => absurd hz List.not_mem_nil) (by decide) (by decide) (hts _ tw_2_237) (hC.2.2.2.2.2.2.2.2.2.2.2.1.use xw_io) h1 h2 h3 ?_
    refine lv_astore (lv' := [(6, .ref q9), (0, .ref (SA 0)), (1, .int x), (2, .int f9), (3, .int t9), (4, .int y), (5, .ref out)]) hx hb dL_part_18 hl (by decide) rfl (fun ls hl => ?_)
    refine lv_iconst (v := nI 1) hx hb dL_part_20 (by decide) ?_
    exact q_i hx hb hr hlocks dL_part_21 hS (Nat.le_of_ble_eq_true rfl) (Nat.le_of_ble_eq_true rfl) (Or.inr (⟨rfl, hc, hSS, hO⟩))
  · obtain ⟨n9, v9, hO⟩ := hO.kp hk (fun h => h.2 rfl)
    try dsimp only at hP
    refine lv_i2l hx hb dL_part_11 rfl ?_
    refine h_putN (D := G.1) (ci := 7) (C := RX3) (T := TX3) (N := 2) hx hb hts inX3 tyX3 tyX3_ok nmX3 hown hK hO hS hAo rfl 0 (by decide) (va_Nw.use rfl hC.2.2.2.2.2.2.2.2.2.2.2.2.2.1) (fun _ h9 => h9) rfl (tyX3_ok 0 (by decide)) rfl rfl (Nat.le_of_ble_eq_true rfl) dL_part_12 (fun H2 L2 hO2 z2 o2 hS => ?_)
    refine lv_goto (tgt := 22) hx hb dL_part_15 (by decide) ?_
    refine lv_iconst (v := nI 0) hx hb dL_part_22 (by decide) ?_
    exact q_i hx hb hr hlocks dL_part_23 hS (Nat.le_of_ble_eq_true rfl) (Nat.le_of_ble_eq_true rfl) (Or.inl ⟨rfl, r1, H1, hP, kp.one z2 o2, _, hO2⟩)

abbrev rmL_tail : Room := { frames := 8, cells := 3, slots := 18, locals := 135 }
theorem mL_tail {l : Launch} {G : Cx} {A : Nat → Prop} (hst : l.stackTraces = false) {out : Nat} {SA : Nat → Nat} {X : Nat → List Nat} {es : List Nat} {k : Int32} {x f9 y : Int32} (hAS : ∀ i : Nat, i < 39 → A (SA i)) (hAo : A out) (hSo : ∀ i : Nat, i < 39 → SA i ≠ out) : Met l yL_tail (.codeWith yL_tail cL_tail 6 (some .int) [(0, 13, 16, 19)] :: GW) rmL_tail (PC G A [.ref (SA 0), .int x, .int f9, .int y, .ref out] (fun H => SS G SA X es k H ∧ OA G out H)) (qI A (fun r H => (r = 0 ∧ ∃ (v : Int32) (H0 : Heap), (fun r H => ∃ i j a9 : Nat, i < 4 ∧ x = nI i ∧ j < 4 ∧ y = nI j ∧ f9 = nI a9 ∧ a9 ≤ (X i).length ∧ r = nI (cutL (X i) a9 (X i).length).length ∧ SS G SA (updT X j (cutL (X i) a9 (X i).length)) es k H) v H0 ∧ kp (fun q => q = out) H0 H ∧ ∃ w : Value, va_at G.1 vwCl (out, .inr (7, [.long v.toInt64, w])) H) ∨ (r = 1 ∧ ((NT x ∨ NT y ∨ ¬ ∃ i a9 : Nat, i < 4 ∧ x = nI i ∧ f9 = nI a9 ∧ a9 ≤ (X i).length)) ∧ SS G SA X es k H ∧ OA G out H))) 3 18 (A) := by
  refine mstartH "SigntextLaw" (by decide +kernel) rfl (Nat.le_of_ble_eq_true rfl) ?_
  intro p e s m below meth c ls hx hb hr hts hown hml hlocks htab hC hA hW hl
  have hl : lv_has ls 6 [(0, .ref (SA 0)), (1, .int x), (2, .int f9), (3, .int y), (4, .ref out)] := hl
  have hK := hC.1
  have hS : va_S A s.heap s.heap [] := va_S.rf
  obtain ⟨hSS, hO⟩ := hW
  refine lv_aload hx hb dL_tail_0 (lv_at hl 4 rfl) ?_
  refine lv_aload_n hx hb dL_tail_2 rfl (lv_at hl 0 rfl) ?_
  refine lv_iload_n hx hb dL_tail_3 rfl (lv_at hl 1 rfl) ?_
  refine lv_iload_n hx hb dL_tail_4 rfl (lv_at hl 2 rfl) ?_
  refine lv_iload_n hx hb dL_tail_5 rfl (lv_at hl 3 rfl) ?_
  refine cI_V (A := A) (A1 := (fun q => A q ∧ q ≠ out)) (b := SA 0) (As := [.int x, .int f9, .int y]) (rest := .ref out :: []) ⟨hx, hb, hml, hown, hts⟩ (mX2_tail (A := (fun q => A q ∧ q ≠ out)) hst (SA := SA) (X := X) (es := es) (k := k) (fun i hi => ⟨hAS i hi, hSo i hi⟩)) (cwV 3 hts (gV tw_3_83 tw_3_84 tw_3_85 tw_1_1 tw_3_86) rfl rfl rfl (by decide +kernel) ⟨Nat.le_of_ble_eq_true rfl, Nat.le_of_ble_eq_true rfl⟩) hC hS (fun _ h => h.1) (fun q h => ⟨hA q h, fun q9 => absurd hO.lt (by rw [← q9]; exact Nat.not_lt_of_le h)⟩) (hSS.recv hK) hSS rfl rfl hl.1 (Nat.le_of_ble_eq_true rfl) ⟨Nat.le_of_ble_eq_true rfl, Nat.le_of_ble_eq_true rfl⟩ dL_tail_6 (fun E ce q9 H1 L1 hX hk hS h1 h2 h3 => ?_) (fun r1 H1 L1 hP hk hS => ?_)
  · have hO := hO.kp hk (fun h => h.2 rfl)
    obtain ⟨hX, hSS⟩ := hX
    obtain ⟨rfl, hc⟩ := hX
    refine vx_catch hown [] ⟨0, 13, 16, 19⟩ [] (htab.trans rfl) (fun z hz => absurd hz List.not_mem_nil) (by decide) (by decide) (hts _ tw_2_237) (hC.2.2.2.2.2.2.2.2.2.2.2.1.use xw_io) h1 h2 h3 ?_
    refine lv_astore (lv' := [(5, .ref q9), (0, .ref (SA 0)), (1, .int x), (2, .int f9), (3, .int y), (4, .ref out)]) hx hb dL_tail_16 hl (by decide) rfl (fun ls hl => ?_)
    refine lv_iconst (v := nI 1) hx hb dL_tail_18 (by decide) ?_
    exact q_i hx hb hr hlocks dL_tail_19 hS (Nat.le_of_ble_eq_true rfl) (Nat.le_of_ble_eq_true rfl) (Or.inr (⟨rfl, hc, hSS, hO⟩))
  · obtain ⟨n9, v9, hO⟩ := hO.kp hk (fun h => h.2 rfl)
    try dsimp only at hP
    refine lv_i2l hx hb dL_tail_9 rfl ?_
    refine h_putN (D := G.1) (ci := 7) (C := RX3) (T := TX3) (N := 2) hx hb hts inX3 tyX3 tyX3_ok nmX3 hown hK hO hS hAo rfl 0 (by decide) (va_Nw.use rfl hC.2.2.2.2.2.2.2.2.2.2.2.2.2.1) (fun _ h9 => h9) rfl (tyX3_ok 0 (by decide)) rfl rfl (Nat.le_of_ble_eq_true rfl) dL_tail_10 (fun H2 L2 hO2 z2 o2 hS => ?_)
    refine lv_goto (tgt := 20) hx hb dL_tail_13 (by decide) ?_
    refine lv_iconst (v := nI 0) hx hb dL_tail_20 (by decide) ?_
    exact q_i hx hb hr hlocks dL_tail_21 hS (Nat.le_of_ble_eq_true rfl) (Nat.le_of_ble_eq_true rfl) (Or.inl ⟨rfl, r1, H1, hP, kp.one z2 o2, _, hO2⟩)

abbrev rmL_join : Room := { frames := 9, cells := 4, slots := 24, locals := 155 }
theorem mL_join {l : Launch} {G : Cx} {A : Nat → Prop} (hst : l.stackTraces = false) {out : Nat} {SA : Nat → Nat} {X : Nat → List Nat} {es : List Nat} {k : Int32} {x y z : Int32} (hAS : ∀ i : Nat, i < 39 → A (SA i)) (hAo : A out) (hSo : ∀ i : Nat, i < 39 → SA i ≠ out) : Met l yL_join (.codeWith yL_join cL_join 6 (some .int) [(0, 13, 16, 19), (0, 13, 20, 23)] :: GW) rmL_join (PC G A [.ref (SA 0), .int x, .int y, .int z, .ref out] (fun H => SS G SA X es k H ∧ OA G out H)) (qI A (fun r H => (r = 0 ∧ ∃ (v : Int32) (H0 : Heap), (fun r H => ∃ i j q : Nat, i < 4 ∧ x = nI i ∧ j < 4 ∧ y = nI j ∧ q < 4 ∧ z = nI q ∧ (X i ++ X j).length ≤ 60 ∧ r = nI (X i ++ X j).length ∧ SS G SA (updT X q (X i ++ X j)) es k H) v H0 ∧ kp (fun q => q = out) H0 H ∧ ∃ w : Value, va_at G.1 vwCl (out, .inr (7, [.long v.toInt64, w])) H) ∨ (r = 1 ∧ ((NT x ∨ NT y ∨ NT z)) ∧ SS G SA X es k H ∧ OA G out H) ∨ (r = 2 ∧ (∃ i j q : Nat, i < 4 ∧ x = nI i ∧ j < 4 ∧ y = nI j ∧ q < 4 ∧ z = nI q ∧ 60 < (X i ++ X j).length) ∧ SS G SA X es k H ∧ OA G out H))) 4 24 (A) := by
  refine mstartH "SigntextLaw" (by decide +kernel) rfl (Nat.le_of_ble_eq_true rfl) ?_
  intro p e s m below meth c ls hx hb hr hts hown hml hlocks htab hC hA hW hl
  have hl : lv_has ls 6 [(0, .ref (SA 0)), (1, .int x), (2, .int y), (3, .int z), (4, .ref out)] := hl
  have hK := hC.1
  have hS : va_S A s.heap s.heap [] := va_S.rf
  obtain ⟨hSS, hO⟩ := hW
  refine lv_aload hx hb dL_join_0 (lv_at hl 4 rfl) ?_
  refine lv_aload_n hx hb dL_join_2 rfl (lv_at hl 0 rfl) ?_
  refine lv_iload_n hx hb dL_join_3 rfl (lv_at hl 1 rfl) ?_
  refine lv_iload_n hx hb dL_join_4 rfl (lv_at hl 2 rfl) ?_
  refine lv_iload_n hx hb dL_join_5 rfl (lv_at hl 3 rfl) ?_
  refine cI_V (A := A) (A1 := (fun q => A q ∧ q ≠ out)) (b := SA 0) (As := [.int x, .int y, .int z]) (rest := .ref out :: []) ⟨hx, hb, hml, hown, hts⟩ (mX2_join (A := (fun q => A q ∧ q ≠ out)) hst (SA := SA) (X := X) (es := es) (k := k) (fun i hi => ⟨hAS i hi, hSo i hi⟩)) (cwV 3 hts (gV tw_3_93 tw_3_94 tw_3_95 tw_1_1 tw_3_96) rfl rfl rfl (by decide +kernel) ⟨Nat.le_of_ble_eq_true rfl, Nat.le_of_ble_eq_true rfl⟩) hC hS (fun _ h => h.1) (fun q h => ⟨hA q h, fun q9 => absurd hO.lt (by rw [← q9]; exact Nat.not_lt_of_le h)⟩) (hSS.recv hK) hSS rfl rfl hl.1 (Nat.le_of_ble_eq_true rfl) ⟨Nat.le_of_ble_eq_true rfl, Nat.le_of_ble_eq_true rfl⟩ dL_join_6 (fun E ce q9 H1 L1 hX hk hS h1 h2 h3 => ?_) (fun r1 H1 L1 hP hk hS => ?_)
  · have hO := hO.kp hk (fun h => h.2 rfl)
    obtain ⟨hX, hSS⟩ := hX
    rcases hX with ⟨rfl, hc⟩ | ⟨rfl, hc⟩
    · refine vx_catch hown [] ⟨0, 13, 16, 19⟩ [⟨0, 13, 20, 23⟩] (htab.trans rfl) (fun z hz => absurd hz List.not_mem_nil) (by decide) (by decide) (hts _ tw_2_237) (hC.2.2.2.2.2.2.2.2.2.2.2.1.use xw_io) h1 h2 h3 ?_
      refine lv_astore (lv' := [(5, .ref q9), (0, .ref (SA 0)), (1, .int x), (2, .int y), (3, .int z), (4, .ref out)]) hx hb dL_join_16 hl (by decide) rfl (fun ls hl => ?_)
      refine lv_iconst (v := nI 1) hx hb dL_join_18 (by decide) ?_
      exact q_i hx hb hr hlocks dL_join_19 hS (Nat.le_of_ble_eq_true rfl) (Nat.le_of_ble_eq_true rfl) (Or.inr (Or.inl ⟨rfl, hc, hSS, hO⟩))
    · refine vx_catch hown [⟨0, 13, 16, 19⟩] ⟨0, 13, 20, 23⟩ [] (htab.trans rfl) (List.forall_mem_cons.mpr ⟨Or.inr ⟨by decide, "java/lang/IndexOutOfBoundsException", hts _ tw_2_237, hC.2.2.2.2.2.2.2.2.2.2.2.1.2 ("java/lang/IllegalStateException", "java/lang/IndexOutOfBoundsException") (by decide)⟩, (fun z hz => absurd hz List.not_mem_nil)⟩) (by decide) (by decide) (hts _ tw_2_239) (hC.2.2.2.2.2.2.2.2.2.2.2.1.use xw_is) h1 h2 h3 ?_
      refine lv_astore (lv' := [(5, .ref q9), (0, .ref (SA 0)), (1, .int x), (2, .int y), (3, .int z), (4, .ref out)]) hx hb dL_join_20 hl (by decide) rfl (fun ls hl => ?_)
      refine lv_iconst (v := nI 2) hx hb dL_join_22 (by decide) ?_
      exact q_i hx hb hr hlocks dL_join_23 hS (Nat.le_of_ble_eq_true rfl) (Nat.le_of_ble_eq_true rfl) (Or.inr (Or.inr (⟨rfl, hc, hSS, hO⟩)))
  · obtain ⟨n9, v9, hO⟩ := hO.kp hk (fun h => h.2 rfl)
    try dsimp only at hP
    refine lv_i2l hx hb dL_join_9 rfl ?_
    refine h_putN (D := G.1) (ci := 7) (C := RX3) (T := TX3) (N := 2) hx hb hts inX3 tyX3 tyX3_ok nmX3 hown hK hO hS hAo rfl 0 (by decide) (va_Nw.use rfl hC.2.2.2.2.2.2.2.2.2.2.2.2.2.1) (fun _ h9 => h9) rfl (tyX3_ok 0 (by decide)) rfl rfl (Nat.le_of_ble_eq_true rfl) dL_join_10 (fun H2 L2 hO2 z2 o2 hS => ?_)
    refine lv_goto (tgt := 24) hx hb dL_join_13 (by decide) ?_
    refine lv_iconst (v := nI 0) hx hb dL_join_24 (by decide) ?_
    exact q_i hx hb hr hlocks dL_join_25 hS (Nat.le_of_ble_eq_true rfl) (Nat.le_of_ble_eq_true rfl) (Or.inl ⟨rfl, r1, H1, hP, kp.one z2 o2, _, hO2⟩)

abbrev rmL_times : Room := { frames := 8, cells := 4, slots := 24, locals := 136 }
theorem mL_times {l : Launch} {G : Cx} {A : Nat → Prop} (hst : l.stackTraces = false) {out : Nat} {SA : Nat → Nat} {X : Nat → List Nat} {es : List Nat} {k : Int32} {x m9 y : Int32} (hAS : ∀ i : Nat, i < 39 → A (SA i)) (hAo : A out) (hSo : ∀ i : Nat, i < 39 → SA i ≠ out) : Met l yL_times (.codeWith yL_times cL_times 6 (some .int) [(0, 13, 16, 19), (0, 13, 20, 21), (0, 13, 24, 23)] :: GW) rmL_times (PC G A [.ref (SA 0), .int x, .int m9, .int y, .ref out] (fun H => SS G SA X es k H ∧ OA G out H)) (qI A (fun r H => (r = 0 ∧ ∃ (v : Int32) (H0 : Heap), (fun r H => ∃ i j b8 : Nat, i < 4 ∧ x = nI i ∧ j < 4 ∧ y = nI j ∧ b8 ≤ 60 ∧ m9 = nI b8 ∧ (repL (X i) b8).length ≤ 60 ∧ r = nI (repL (X i) b8).length ∧ SS G SA (updT X j (repL (X i) b8)) es k H) v H0 ∧ kp (fun q => q = out) H0 H ∧ ∃ w : Value, va_at G.1 vwCl (out, .inr (7, [.long v.toInt64, w])) H) ∨ (r = 1 ∧ ((NT x ∨ NT y)) ∧ SS G SA X es k H ∧ OA G out H) ∨ (r = 2 ∧ ((∃ i : Nat, i < 4 ∧ x = nI i) ∧ (∃ j : Nat, j < 4 ∧ y = nI j) ∧ ¬ ∃ b8 : Nat, b8 ≤ 60 ∧ m9 = nI b8) ∧ SS G SA X es k H ∧ OA G out H) ∨ (r = 3 ∧ (∃ i j b8 : Nat, i < 4 ∧ x = nI i ∧ j < 4 ∧ y = nI j ∧ b8 ≤ 60 ∧ m9 = nI b8 ∧ 60 < (repL (X i) b8).length) ∧ SS G SA X es k H ∧ OA G out H))) 4 24 (A) := by
  refine mstartH "SigntextLaw" (by decide +kernel) rfl (Nat.le_of_ble_eq_true rfl) ?_
  intro p e s m below meth c ls hx hb hr hts hown hml hlocks htab hC hA hW hl
  have hl : lv_has ls 6 [(0, .ref (SA 0)), (1, .int x), (2, .int m9), (3, .int y), (4, .ref out)] := hl
  have hK := hC.1
  have hS : va_S A s.heap s.heap [] := va_S.rf
  obtain ⟨hSS, hO⟩ := hW
  refine lv_aload hx hb dL_times_0 (lv_at hl 4 rfl) ?_
  refine lv_aload_n hx hb dL_times_2 rfl (lv_at hl 0 rfl) ?_
  refine lv_iload_n hx hb dL_times_3 rfl (lv_at hl 1 rfl) ?_
  refine lv_iload_n hx hb dL_times_4 rfl (lv_at hl 2 rfl) ?_
  refine lv_iload_n hx hb dL_times_5 rfl (lv_at hl 3 rfl) ?_
  refine cI_V (A := A) (A1 := (fun q => A q ∧ q ≠ out)) (b := SA 0) (As := [.int x, .int m9, .int y]) (rest := .ref out :: []) ⟨hx, hb, hml, hown, hts⟩ (mX2_times (A := (fun q => A q ∧ q ≠ out)) hst (SA := SA) (X := X) (es := es) (k := k) (fun i hi => ⟨hAS i hi, hSo i hi⟩)) (cwV 3 hts (gV tw_3_100 tw_3_101 tw_3_102 tw_1_1 tw_3_103) rfl rfl rfl (by decide +kernel) ⟨Nat.le_of_ble_eq_true rfl, Nat.le_of_ble_eq_true rfl⟩) hC hS (fun _ h => h.1) (fun q h => ⟨hA q h, fun q9 => absurd hO.lt (by rw [← q9]; exact Nat.not_lt_of_le h)⟩) (hSS.recv hK) hSS rfl rfl hl.1 (Nat.le_of_ble_eq_true rfl) ⟨Nat.le_of_ble_eq_true rfl, Nat.le_of_ble_eq_true rfl⟩ dL_times_6 (fun E ce q9 H1 L1 hX hk hS h1 h2 h3 => ?_) (fun r1 H1 L1 hP hk hS => ?_)
  · have hO := hO.kp hk (fun h => h.2 rfl)
    obtain ⟨hX, hSS⟩ := hX
    rcases hX with ⟨rfl, hc⟩ | ⟨rfl, hc⟩ | ⟨rfl, hc⟩
    · refine vx_catch hown [] ⟨0, 13, 16, 19⟩ [⟨0, 13, 20, 21⟩, ⟨0, 13, 24, 23⟩] (htab.trans rfl) (fun z hz => absurd hz List.not_mem_nil) (by decide) (by decide) (hts _ tw_2_237) (hC.2.2.2.2.2.2.2.2.2.2.2.1.use xw_io) h1 h2 h3 ?_
      refine lv_astore (lv' := [(5, .ref q9), (0, .ref (SA 0)), (1, .int x), (2, .int m9), (3, .int y), (4, .ref out)]) hx hb dL_times_16 hl (by decide) rfl (fun ls hl => ?_)
      refine lv_iconst (v := nI 1) hx hb dL_times_18 (by decide) ?_
      exact q_i hx hb hr hlocks dL_times_19 hS (Nat.le_of_ble_eq_true rfl) (Nat.le_of_ble_eq_true rfl) (Or.inr (Or.inl ⟨rfl, hc, hSS, hO⟩))
    · refine vx_catch hown [⟨0, 13, 16, 19⟩] ⟨0, 13, 20, 21⟩ [⟨0, 13, 24, 23⟩] (htab.trans rfl) (List.forall_mem_cons.mpr ⟨Or.inr ⟨by decide, "java/lang/IndexOutOfBoundsException", hts _ tw_2_237, hC.2.2.2.2.2.2.2.2.2.2.2.1.2 ("java/lang/IllegalArgumentException", "java/lang/IndexOutOfBoundsException") (by decide)⟩, (fun z hz => absurd hz List.not_mem_nil)⟩) (by decide) (by decide) (hts _ tw_2_238) (hC.2.2.2.2.2.2.2.2.2.2.2.1.use xw_ia) h1 h2 h3 ?_
      refine lv_astore (lv' := [(5, .ref q9), (0, .ref (SA 0)), (1, .int x), (2, .int m9), (3, .int y), (4, .ref out)]) hx hb dL_times_20 hl (by decide) rfl (fun ls hl => ?_)
      refine lv_iconst (v := nI 2) hx hb dL_times_22 (by decide) ?_
      exact q_i hx hb hr hlocks dL_times_23 hS (Nat.le_of_ble_eq_true rfl) (Nat.le_of_ble_eq_true rfl) (Or.inr (Or.inr (Or.inl ⟨rfl, hc, hSS, hO⟩)))
    · refine vx_catch hown [⟨0, 13, 16, 19⟩, ⟨0, 13, 20, 21⟩] ⟨0, 13, 24, 23⟩ [] (htab.trans rfl) (List.forall_mem_cons.mpr ⟨Or.inr ⟨by decide, "java/lang/IndexOutOfBoundsException", hts _ tw_2_237, hC.2.2.2.2.2.2.2.2.2.2.2.1.2 ("java/lang/IllegalStateException", "java/lang/IndexOutOfBoundsException") (by decide)⟩, (List.forall_mem_cons.mpr ⟨Or.inr ⟨by decide, "java/lang/IllegalArgumentException", hts _ tw_2_238, hC.2.2.2.2.2.2.2.2.2.2.2.1.2 ("java/lang/IllegalStateException", "java/lang/IllegalArgumentException") (by decide)⟩, (fun z hz => absurd hz List.not_mem_nil)⟩)⟩) (by decide) (by decide) (hts _ tw_2_239) (hC.2.2.2.2.2.2.2.2.2.2.2.1.use xw_is) h1 h2 h3 ?_
      refine lv_astore (lv' := [(5, .ref q9), (0, .ref (SA 0)), (1, .int x), (2, .int m9), (3, .int y), (4, .ref out)]) hx hb dL_times_24 hl (by decide) rfl (fun ls hl => ?_)
      refine lv_iconst (v := nI 3) hx hb dL_times_26 (by decide) ?_
      exact q_i hx hb hr hlocks dL_times_27 hS (Nat.le_of_ble_eq_true rfl) (Nat.le_of_ble_eq_true rfl) (Or.inr (Or.inr (Or.inr (⟨rfl, hc, hSS, hO⟩))))
  · obtain ⟨n9, v9, hO⟩ := hO.kp hk (fun h => h.2 rfl)
    try dsimp only at hP
    refine lv_i2l hx hb dL_times_9 rfl ?_
    refine h_putN (D := G.1) (ci := 7) (C := RX3) (T := TX3) (N := 2) hx hb hts inX3 tyX3 tyX3_ok nmX3 hown hK hO hS hAo rfl 0 (by decide) (va_Nw.use rfl hC.2.2.2.2.2.2.2.2.2.2.2.2.2.1) (fun _ h9 => h9) rfl (tyX3_ok 0 (by decide)) rfl rfl (Nat.le_of_ble_eq_true rfl) dL_times_10 (fun H2 L2 hO2 z2 o2 hS => ?_)
    refine lv_goto (tgt := 28) hx hb dL_times_13 (by decide) ?_
    refine lv_iconst (v := nI 0) hx hb dL_times_28 (by decide) ?_
    exact q_i hx hb hr hlocks dL_times_29 hS (Nat.le_of_ble_eq_true rfl) (Nat.le_of_ble_eq_true rfl) (Or.inl ⟨rfl, r1, H1, hP, kp.one z2 o2, _, hO2⟩)

abbrev rmL_trim : Room := { frames := 8, cells := 2, slots := 12, locals := 134 }
theorem mL_trim {l : Launch} {G : Cx} {A : Nat → Prop} (hst : l.stackTraces = false) {out : Nat} {SA : Nat → Nat} {X : Nat → List Nat} {es : List Nat} {k : Int32} {x y : Int32} {b : Bool} (hAS : ∀ i : Nat, i < 39 → A (SA i)) (hAo : A out) (hSo : ∀ i : Nat, i < 39 → SA i ≠ out) : Met l yL_trim (.codeWith yL_trim cL_trim 6 (some .int) [(0, 13, 16, 19)] :: GW) rmL_trim (PC G A [.ref (SA 0), .int x, .int (bI b), .int y, .ref out] (fun H => SS G SA X es k H ∧ OA G out H)) (qI A (fun r H => (r = 0 ∧ ∃ (v : Int32) (H0 : Heap), (fun r H => ∃ i j e9 : Nat, i < 4 ∧ x = nI i ∧ j < 4 ∧ y = nI j ∧ isTe b (X i) e9 ∧ r = nI (cutL (X i) (tbL b (X i)) e9).length ∧ SS G SA (updT X j (cutL (X i) (tbL b (X i)) e9)) es k H) v H0 ∧ kp (fun q => q = out) H0 H ∧ ∃ w : Value, va_at G.1 vwCl (out, .inr (7, [.long v.toInt64, w])) H) ∨ (r = 1 ∧ ((NT x ∨ NT y)) ∧ SS G SA X es k H ∧ OA G out H))) 2 12 (A) := by
  refine mstartH "SigntextLaw" (by decide +kernel) rfl (Nat.le_of_ble_eq_true rfl) ?_
  intro p e s m below meth c ls hx hb hr hts hown hml hlocks htab hC hA hW hl
  have hl : lv_has ls 6 [(0, .ref (SA 0)), (1, .int x), (2, .int (bI b)), (3, .int y), (4, .ref out)] := hl
  have hK := hC.1
  have hS : va_S A s.heap s.heap [] := va_S.rf
  obtain ⟨hSS, hO⟩ := hW
  refine lv_aload hx hb dL_trim_0 (lv_at hl 4 rfl) ?_
  refine lv_aload_n hx hb dL_trim_2 rfl (lv_at hl 0 rfl) ?_
  refine lv_iload_n hx hb dL_trim_3 rfl (lv_at hl 1 rfl) ?_
  refine lv_iload_n hx hb dL_trim_4 rfl (lv_at hl 2 rfl) ?_
  refine lv_iload_n hx hb dL_trim_5 rfl (lv_at hl 3 rfl) ?_
  refine cI_V (A := A) (A1 := (fun q => A q ∧ q ≠ out)) (b := SA 0) (As := [.int x, .int (bI b), .int y]) (rest := .ref out :: []) ⟨hx, hb, hml, hown, hts⟩ (mX2_trim (A := (fun q => A q ∧ q ≠ out)) hst (SA := SA) (X := X) (es := es) (k := k) (fun i hi => ⟨hAS i hi, hSo i hi⟩)) (cwV 3 hts (gV tw_3_107 tw_3_108 tw_3_109 tw_1_1 tw_3_110) rfl rfl rfl (by decide +kernel) ⟨Nat.le_of_ble_eq_true rfl, Nat.le_of_ble_eq_true rfl⟩) hC hS (fun _ h => h.1) (fun q h => ⟨hA q h, fun q9 => absurd hO.lt (by rw [← q9]; exact Nat.not_lt_of_le h)⟩) (hSS.recv hK) hSS rfl rfl hl.1 (Nat.le_of_ble_eq_true rfl) ⟨Nat.le_of_ble_eq_true rfl, Nat.le_of_ble_eq_true rfl⟩ dL_trim_6 (fun E ce q9 H1 L1 hX hk hS h1 h2 h3 => ?_) (fun r1 H1 L1 hP hk hS => ?_)
  · have hO := hO.kp hk (fun h => h.2 rfl)
    obtain ⟨hX, hSS⟩ := hX
    obtain ⟨rfl, hc⟩ := hX
    refine vx_catch hown [] ⟨0, 13, 16, 19⟩ [] (htab.trans rfl) (fun z hz => absurd hz List.not_mem_nil) (by decide) (by decide) (hts _ tw_2_237) (hC.2.2.2.2.2.2.2.2.2.2.2.1.use xw_io) h1 h2 h3 ?_
    refine lv_astore (lv' := [(5, .ref q9), (0, .ref (SA 0)), (1, .int x), (2, .int (bI b)), (3, .int y), (4, .ref out)]) hx hb dL_trim_16 hl (by decide) rfl (fun ls hl => ?_)
    refine lv_iconst (v := nI 1) hx hb dL_trim_18 (by decide) ?_
    exact q_i hx hb hr hlocks dL_trim_19 hS (Nat.le_of_ble_eq_true rfl) (Nat.le_of_ble_eq_true rfl) (Or.inr (⟨rfl, hc, hSS, hO⟩))
  · obtain ⟨n9, v9, hO⟩ := hO.kp hk (fun h => h.2 rfl)
    try dsimp only at hP
    refine lv_i2l hx hb dL_trim_9 rfl ?_
    refine h_putN (D := G.1) (ci := 7) (C := RX3) (T := TX3) (N := 2) hx hb hts inX3 tyX3 tyX3_ok nmX3 hown hK hO hS hAo rfl 0 (by decide) (va_Nw.use rfl hC.2.2.2.2.2.2.2.2.2.2.2.2.2.1) (fun _ h9 => h9) rfl (tyX3_ok 0 (by decide)) rfl rfl (Nat.le_of_ble_eq_true rfl) dL_trim_10 (fun H2 L2 hO2 z2 o2 hS => ?_)
    refine lv_goto (tgt := 20) hx hb dL_trim_13 (by decide) ?_
    refine lv_iconst (v := nI 0) hx hb dL_trim_20 (by decide) ?_
    exact q_i hx hb hr hlocks dL_trim_21 hS (Nat.le_of_ble_eq_true rfl) (Nat.le_of_ble_eq_true rfl) (Or.inl ⟨rfl, r1, H1, hP, kp.one z2 o2, _, hO2⟩)

abbrev rmL_number : Room := { frames := 10, cells := 2, slots := 12, locals := 178 }
theorem mL_number {l : Launch} {G : Cx} {A : Nat → Prop} (hst : l.stackTraces = false) {out : Nat} {SA : Nat → Nat} {X : Nat → List Nat} {es : List Nat} {k : Int32} {x n9 : Int32} {b : Bool} (hAS : ∀ i : Nat, i < 39 → A (SA i)) (hAo : A out) (hSo : ∀ i : Nat, i < 39 → SA i ≠ out) : Met l yL_number (.codeWith yL_number cL_number 6 (some .int) [(0, 13, 16, 19), (0, 13, 20, 23)] :: GW) rmL_number (PC G A [.ref (SA 0), .int x, .int n9, .int (bI b), .ref out] (fun H => SS G SA X es k H ∧ OA G out H)) (qI A (fun r H => (r = 0 ∧ ∃ (v : Int32) (H0 : Heap), (fun r H => ∃ i : Nat, i < 4 ∧ x = nI i ∧ (if b then (numL (n9.toInt64)).take 60 ++ X i else X i ++ (numL (n9.toInt64)).take 60).length ≤ 60 ∧ r = nI (if b then (numL (n9.toInt64)).take 60 ++ X i else X i ++ (numL (n9.toInt64)).take 60).length ∧ SS G SA (updT X i (if b then (numL (n9.toInt64)).take 60 ++ X i else X i ++ (numL (n9.toInt64)).take 60)) es k H) v H0 ∧ kp (fun q => q = out) H0 H ∧ ∃ w : Value, va_at G.1 vwCl (out, .inr (7, [.long v.toInt64, w])) H) ∨ (r = 1 ∧ (NT x) ∧ SS G SA X es k H ∧ OA G out H) ∨ (r = 2 ∧ (∃ i : Nat, i < 4 ∧ x = nI i ∧ 60 < (if b then (numL (n9.toInt64)).take 60 ++ X i else X i ++ (numL (n9.toInt64)).take 60).length) ∧ SS G SA X es k H ∧ OA G out H))) 2 12 (A) := by
  refine mstartH "SigntextLaw" (by decide +kernel) rfl (Nat.le_of_ble_eq_true rfl) ?_
  intro p e s m below meth c ls hx hb hr hts hown hml hlocks htab hC hA hW hl
  have hl : lv_has ls 6 [(0, .ref (SA 0)), (1, .int x), (2, .int n9), (3, .int (bI b)), (4, .ref out)] := hl
  have hK := hC.1
  have hS : va_S A s.heap s.heap [] := va_S.rf
  obtain ⟨hSS, hO⟩ := hW
  refine lv_aload hx hb dL_number_0 (lv_at hl 4 rfl) ?_
  refine lv_aload_n hx hb dL_number_2 rfl (lv_at hl 0 rfl) ?_
  refine lv_iload_n hx hb dL_number_3 rfl (lv_at hl 1 rfl) ?_
  refine lv_iload_n hx hb dL_number_4 rfl (lv_at hl 2 rfl) ?_
  refine lv_iload_n hx hb dL_number_5 rfl (lv_at hl 3 rfl) ?_
  refine cI_V (A := A) (A1 := (fun q => A q ∧ q ≠ out)) (b := SA 0) (As := [.int x, .int n9, .int (bI b)]) (rest := .ref out :: []) ⟨hx, hb, hml, hown, hts⟩ (mX2_number (A := (fun q => A q ∧ q ≠ out)) hst (SA := SA) (X := X) (es := es) (k := k) (fun i hi => ⟨hAS i hi, hSo i hi⟩)) (cwV 3 hts (gV tw_3_114 tw_3_115 tw_3_116 tw_1_1 tw_3_117) rfl rfl rfl (by decide +kernel) ⟨Nat.le_of_ble_eq_true rfl, Nat.le_of_ble_eq_true rfl⟩) hC hS (fun _ h => h.1) (fun q h => ⟨hA q h, fun q9 => absurd hO.lt (by rw [← q9]; exact Nat.not_lt_of_le h)⟩) (hSS.recv hK) hSS rfl rfl hl.1 (Nat.le_of_ble_eq_true rfl) ⟨Nat.le_of_ble_eq_true rfl, Nat.le_of_ble_eq_true rfl⟩ dL_number_6 (fun E ce q9 H1 L1 hX hk hS h1 h2 h3 => ?_) (fun r1 H1 L1 hP hk hS => ?_)
  · have hO := hO.kp hk (fun h => h.2 rfl)
    obtain ⟨hX, hSS⟩ := hX
    rcases hX with ⟨rfl, hc⟩ | ⟨rfl, hc⟩
    · refine vx_catch hown [] ⟨0, 13, 16, 19⟩ [⟨0, 13, 20, 23⟩] (htab.trans rfl) (fun z hz => absurd hz List.not_mem_nil) (by decide) (by decide) (hts _ tw_2_237) (hC.2.2.2.2.2.2.2.2.2.2.2.1.use xw_io) h1 h2 h3 ?_
      refine lv_astore (lv' := [(5, .ref q9), (0, .ref (SA 0)), (1, .int x), (2, .int n9), (3, .int (bI b)), (4, .ref out)]) hx hb dL_number_16 hl (by decide) rfl (fun ls hl => ?_)
      refine lv_iconst (v := nI 1) hx hb dL_number_18 (by decide) ?_
      exact q_i hx hb hr hlocks dL_number_19 hS (Nat.le_of_ble_eq_true rfl) (Nat.le_of_ble_eq_true rfl) (Or.inr (Or.inl ⟨rfl, hc, hSS, hO⟩))
    · refine vx_catch hown [⟨0, 13, 16, 19⟩] ⟨0, 13, 20, 23⟩ [] (htab.trans rfl) (List.forall_mem_cons.mpr ⟨Or.inr ⟨by decide, "java/lang/IndexOutOfBoundsException", hts _ tw_2_237, hC.2.2.2.2.2.2.2.2.2.2.2.1.2 ("java/lang/IllegalStateException", "java/lang/IndexOutOfBoundsException") (by decide)⟩, (fun z hz => absurd hz List.not_mem_nil)⟩) (by decide) (by decide) (hts _ tw_2_239) (hC.2.2.2.2.2.2.2.2.2.2.2.1.use xw_is) h1 h2 h3 ?_
      refine lv_astore (lv' := [(5, .ref q9), (0, .ref (SA 0)), (1, .int x), (2, .int n9), (3, .int (bI b)), (4, .ref out)]) hx hb dL_number_20 hl (by decide) rfl (fun ls hl => ?_)
      refine lv_iconst (v := nI 2) hx hb dL_number_22 (by decide) ?_
      exact q_i hx hb hr hlocks dL_number_23 hS (Nat.le_of_ble_eq_true rfl) (Nat.le_of_ble_eq_true rfl) (Or.inr (Or.inr (⟨rfl, hc, hSS, hO⟩)))
  · obtain ⟨n9, v9, hO⟩ := hO.kp hk (fun h => h.2 rfl)
    try dsimp only at hP
    refine lv_i2l hx hb dL_number_9 rfl ?_
    refine h_putN (D := G.1) (ci := 7) (C := RX3) (T := TX3) (N := 2) hx hb hts inX3 tyX3 tyX3_ok nmX3 hown hK hO hS hAo rfl 0 (by decide) (va_Nw.use rfl hC.2.2.2.2.2.2.2.2.2.2.2.2.2.1) (fun _ h9 => h9) rfl (tyX3_ok 0 (by decide)) rfl rfl (Nat.le_of_ble_eq_true rfl) dL_number_10 (fun H2 L2 hO2 z2 o2 hS => ?_)
    refine lv_goto (tgt := 24) hx hb dL_number_13 (by decide) ?_
    refine lv_iconst (v := nI 0) hx hb dL_number_24 (by decide) ?_
    exact q_i hx hb hr hlocks dL_number_25 hS (Nat.le_of_ble_eq_true rfl) (Nat.le_of_ble_eq_true rfl) (Or.inl ⟨rfl, r1, H1, hP, kp.one z2 o2, _, hO2⟩)

abbrev rmL_great : Room := { frames := 10, cells := 2, slots := 12, locals := 178 }
theorem mL_great {l : Launch} {G : Cx} {A : Nat → Prop} (hst : l.stackTraces = false) {out : Nat} {SA : Nat → Nat} {X : Nat → List Nat} {es : List Nat} {k : Int32} {x h9 l9 : Int32} (hAS : ∀ i : Nat, i < 39 → A (SA i)) (hAo : A out) (hSo : ∀ i : Nat, i < 39 → SA i ≠ out) : Met l yL_great (.codeWith yL_great cL_great 6 (some .int) [(0, 13, 16, 19), (0, 13, 20, 23)] :: GW) rmL_great (PC G A [.ref (SA 0), .int x, .int h9, .int l9, .ref out] (fun H => SS G SA X es k H ∧ OA G out H)) (qI A (fun r H => (r = 0 ∧ ∃ (v : Int32) (H0 : Heap), (fun r H => ∃ i : Nat, i < 4 ∧ x = nI i ∧ (if false then (numL ((h9.toInt64 <<< ((nI 32).toInt64 &&& 63)) ||| (l9.toInt64 &&& 4294967295))).take 60 ++ X i else X i ++ (numL ((h9.toInt64 <<< ((nI 32).toInt64 &&& 63)) ||| (l9.toInt64 &&& 4294967295))).take 60).length ≤ 60 ∧ r = nI (if false then (numL ((h9.toInt64 <<< ((nI 32).toInt64 &&& 63)) ||| (l9.toInt64 &&& 4294967295))).take 60 ++ X i else X i ++ (numL ((h9.toInt64 <<< ((nI 32).toInt64 &&& 63)) ||| (l9.toInt64 &&& 4294967295))).take 60).length ∧ SS G SA (updT X i (if false then (numL ((h9.toInt64 <<< ((nI 32).toInt64 &&& 63)) ||| (l9.toInt64 &&& 4294967295))).take 60 ++ X i else X i ++ (numL ((h9.toInt64 <<< ((nI 32).toInt64 &&& 63)) ||| (l9.toInt64 &&& 4294967295))).take 60)) es k H) v H0 ∧ kp (fun q => q = out) H0 H ∧ ∃ w : Value, va_at G.1 vwCl (out, .inr (7, [.long v.toInt64, w])) H) ∨ (r = 1 ∧ (NT x) ∧ SS G SA X es k H ∧ OA G out H) ∨ (r = 2 ∧ (∃ i : Nat, i < 4 ∧ x = nI i ∧ 60 < (if false then (numL ((h9.toInt64 <<< ((nI 32).toInt64 &&& 63)) ||| (l9.toInt64 &&& 4294967295))).take 60 ++ X i else X i ++ (numL ((h9.toInt64 <<< ((nI 32).toInt64 &&& 63)) ||| (l9.toInt64 &&& 4294967295))).take 60).length) ∧ SS G SA X es k H ∧ OA G out H))) 2 12 (A) := by
  refine mstartH "SigntextLaw" (by decide +kernel) rfl (Nat.le_of_ble_eq_true rfl) ?_
  intro p e s m below meth c ls hx hb hr hts hown hml hlocks htab hC hA hW hl
  have hl : lv_has ls 6 [(0, .ref (SA 0)), (1, .int x), (2, .int h9), (3, .int l9), (4, .ref out)] := hl
  have hK := hC.1
  have hS : va_S A s.heap s.heap [] := va_S.rf
  obtain ⟨hSS, hO⟩ := hW
  refine lv_aload hx hb dL_great_0 (lv_at hl 4 rfl) ?_
  refine lv_aload_n hx hb dL_great_2 rfl (lv_at hl 0 rfl) ?_
  refine lv_iload_n hx hb dL_great_3 rfl (lv_at hl 1 rfl) ?_
  refine lv_iload_n hx hb dL_great_4 rfl (lv_at hl 2 rfl) ?_
  refine lv_iload_n hx hb dL_great_5 rfl (lv_at hl 3 rfl) ?_
  refine cI_V (A := A) (A1 := (fun q => A q ∧ q ≠ out)) (b := SA 0) (As := [.int x, .int h9, .int l9]) (rest := .ref out :: []) ⟨hx, hb, hml, hown, hts⟩ (mX2_great (A := (fun q => A q ∧ q ≠ out)) hst (SA := SA) (X := X) (es := es) (k := k) (fun i hi => ⟨hAS i hi, hSo i hi⟩)) (cwV 3 hts (gV tw_3_134 tw_3_135 tw_3_136 tw_1_1 tw_3_137) rfl rfl rfl (by decide +kernel) ⟨Nat.le_of_ble_eq_true rfl, Nat.le_of_ble_eq_true rfl⟩) hC hS (fun _ h => h.1) (fun q h => ⟨hA q h, fun q9 => absurd hO.lt (by rw [← q9]; exact Nat.not_lt_of_le h)⟩) (hSS.recv hK) hSS rfl rfl hl.1 (Nat.le_of_ble_eq_true rfl) ⟨Nat.le_of_ble_eq_true rfl, Nat.le_of_ble_eq_true rfl⟩ dL_great_6 (fun E ce q9 H1 L1 hX hk hS h1 h2 h3 => ?_) (fun r1 H1 L1 hP hk hS => ?_)
  · have hO := hO.kp hk (fun h => h.2 rfl)
    obtain ⟨hX, hSS⟩ := hX
    rcases hX with ⟨rfl, hc⟩ | ⟨rfl, hc⟩
    · refine vx_catch hown [] ⟨0, 13, 16, 19⟩ [⟨0, 13, 20, 23⟩] (htab.trans rfl) (fun z hz => absurd hz List.not_mem_nil) (by decide) (by decide) (hts _ tw_2_237) (hC.2.2.2.2.2.2.2.2.2.2.2.1.use xw_io) h1 h2 h3 ?_
      refine lv_astore (lv' := [(5, .ref q9), (0, .ref (SA 0)), (1, .int x), (2, .int h9), (3, .int l9), (4, .ref out)]) hx hb dL_great_16 hl (by decide) rfl (fun ls hl => ?_)
      refine lv_iconst (v := nI 1) hx hb dL_great_18 (by decide) ?_
      exact q_i hx hb hr hlocks dL_great_19 hS (Nat.le_of_ble_eq_true rfl) (Nat.le_of_ble_eq_true rfl) (Or.inr (Or.inl ⟨rfl, hc, hSS, hO⟩))
    · refine vx_catch hown [⟨0, 13, 16, 19⟩] ⟨0, 13, 20, 23⟩ [] (htab.trans rfl) (List.forall_mem_cons.mpr ⟨Or.inr ⟨by decide, "java/lang/IndexOutOfBoundsException", hts _ tw_2_237, hC.2.2.2.2.2.2.2.2.2.2.2.1.2 ("java/lang/IllegalStateException", "java/lang/IndexOutOfBoundsException") (by decide)⟩, (fun z hz => absurd hz List.not_mem_nil)⟩) (by decide) (by decide) (hts _ tw_2_239) (hC.2.2.2.2.2.2.2.2.2.2.2.1.use xw_is) h1 h2 h3 ?_
      refine lv_astore (lv' := [(5, .ref q9), (0, .ref (SA 0)), (1, .int x), (2, .int h9), (3, .int l9), (4, .ref out)]) hx hb dL_great_20 hl (by decide) rfl (fun ls hl => ?_)
      refine lv_iconst (v := nI 2) hx hb dL_great_22 (by decide) ?_
      exact q_i hx hb hr hlocks dL_great_23 hS (Nat.le_of_ble_eq_true rfl) (Nat.le_of_ble_eq_true rfl) (Or.inr (Or.inr (⟨rfl, hc, hSS, hO⟩)))
  · obtain ⟨n9, v9, hO⟩ := hO.kp hk (fun h => h.2 rfl)
    try dsimp only at hP
    refine lv_i2l hx hb dL_great_9 rfl ?_
    refine h_putN (D := G.1) (ci := 7) (C := RX3) (T := TX3) (N := 2) hx hb hts inX3 tyX3 tyX3_ok nmX3 hown hK hO hS hAo rfl 0 (by decide) (va_Nw.use rfl hC.2.2.2.2.2.2.2.2.2.2.2.2.2.1) (fun _ h9 => h9) rfl (tyX3_ok 0 (by decide)) rfl rfl (Nat.le_of_ble_eq_true rfl) dL_great_10 (fun H2 L2 hO2 z2 o2 hS => ?_)
    refine lv_goto (tgt := 24) hx hb dL_great_13 (by decide) ?_
    refine lv_iconst (v := nI 0) hx hb dL_great_24 (by decide) ?_
    exact q_i hx hb hr hlocks dL_great_25 hS (Nat.le_of_ble_eq_true rfl) (Nat.le_of_ble_eq_true rfl) (Or.inl ⟨rfl, r1, H1, hP, kp.one z2 o2, _, hO2⟩)

abbrev rmL_truth : Room := { frames := 10, cells := 2, slots := 12, locals := 178 }
theorem mL_truth {l : Launch} {G : Cx} {A : Nat → Prop} (hst : l.stackTraces = false) {out : Nat} {SA : Nat → Nat} {X : Nat → List Nat} {es : List Nat} {k : Int32} {x : Int32} {b b2 : Bool} (hAS : ∀ i : Nat, i < 39 → A (SA i)) (hAo : A out) (hSo : ∀ i : Nat, i < 39 → SA i ≠ out) : Met l yL_truth (.codeWith yL_truth cL_truth 6 (some .int) [(0, 13, 16, 19), (0, 13, 20, 23)] :: GW) rmL_truth (PC G A [.ref (SA 0), .int x, .int (bI b), .int (bI b2), .ref out] (fun H => SS G SA X es k H ∧ OA G out H)) (qI A (fun r H => (r = 0 ∧ ∃ (v : Int32) (H0 : Heap), (fun r H => ∃ i : Nat, i < 4 ∧ x = nI i ∧ (if b2 then stx (if b then 7 else 8) ++ X i else X i ++ stx (if b then 7 else 8)).length ≤ 60 ∧ r = nI (if b2 then stx (if b then 7 else 8) ++ X i else X i ++ stx (if b then 7 else 8)).length ∧ SS G SA (updT X i (if b2 then stx (if b then 7 else 8) ++ X i else X i ++ stx (if b then 7 else 8))) es k H) v H0 ∧ kp (fun q => q = out) H0 H ∧ ∃ w : Value, va_at G.1 vwCl (out, .inr (7, [.long v.toInt64, w])) H) ∨ (r = 1 ∧ (NT x) ∧ SS G SA X es k H ∧ OA G out H) ∨ (r = 2 ∧ (∃ i : Nat, i < 4 ∧ x = nI i ∧ 60 < (if b2 then stx (if b then 7 else 8) ++ X i else X i ++ stx (if b then 7 else 8)).length) ∧ SS G SA X es k H ∧ OA G out H))) 2 12 (A) := by
  refine mstartH "SigntextLaw" (by decide +kernel) rfl (Nat.le_of_ble_eq_true rfl) ?_
  intro p e s m below meth c ls hx hb hr hts hown hml hlocks htab hC hA hW hl
  have hl : lv_has ls 6 [(0, .ref (SA 0)), (1, .int x), (2, .int (bI b)), (3, .int (bI b2)), (4, .ref out)] := hl
  have hK := hC.1
  have hS : va_S A s.heap s.heap [] := va_S.rf
  obtain ⟨hSS, hO⟩ := hW
  refine lv_aload hx hb dL_truth_0 (lv_at hl 4 rfl) ?_
  refine lv_aload_n hx hb dL_truth_2 rfl (lv_at hl 0 rfl) ?_
  refine lv_iload_n hx hb dL_truth_3 rfl (lv_at hl 1 rfl) ?_
  refine lv_iload_n hx hb dL_truth_4 rfl (lv_at hl 2 rfl) ?_
  refine lv_iload_n hx hb dL_truth_5 rfl (lv_at hl 3 rfl) ?_
  refine cI_V (A := A) (A1 := (fun q => A q ∧ q ≠ out)) (b := SA 0) (As := [.int x, .int (bI b), .int (bI b2)]) (rest := .ref out :: []) ⟨hx, hb, hml, hown, hts⟩ (mX2_truth (A := (fun q => A q ∧ q ≠ out)) hst (SA := SA) (X := X) (es := es) (k := k) (fun i hi => ⟨hAS i hi, hSo i hi⟩)) (cwV 3 hts (gV tw_3_142 tw_3_143 tw_3_144 tw_1_1 tw_3_145) rfl rfl rfl (by decide +kernel) ⟨Nat.le_of_ble_eq_true rfl, Nat.le_of_ble_eq_true rfl⟩) hC hS (fun _ h => h.1) (fun q h => ⟨hA q h, fun q9 => absurd hO.lt (by rw [← q9]; exact Nat.not_lt_of_le h)⟩) (hSS.recv hK) hSS rfl rfl hl.1 (Nat.le_of_ble_eq_true rfl) ⟨Nat.le_of_ble_eq_true rfl, Nat.le_of_ble_eq_true rfl⟩ dL_truth_6 (fun E ce q9 H1 L1 hX hk hS h1 h2 h3 => ?_) (fun r1 H1 L1 hP hk hS => ?_)
  · have hO := hO.kp hk (fun h => h.2 rfl)
    obtain ⟨hX, hSS⟩ := hX
    rcases hX with ⟨rfl, hc⟩ | ⟨rfl, hc⟩
    · refine vx_catch hown [] ⟨0, 13, 16, 19⟩ [⟨0, 13, 20, 23⟩] (htab.trans rfl) (fun z hz => absurd hz List.not_mem_nil) (by decide) (by decide) (hts _ tw_2_237) (hC.2.2.2.2.2.2.2.2.2.2.2.1.use xw_io) h1 h2 h3 ?_
      refine lv_astore (lv' := [(5, .ref q9), (0, .ref (SA 0)), (1, .int x), (2, .int (bI b)), (3, .int (bI b2)), (4, .ref out)]) hx hb dL_truth_16 hl (by decide) rfl (fun ls hl => ?_)
      refine lv_iconst (v := nI 1) hx hb dL_truth_18 (by decide) ?_
      exact q_i hx hb hr hlocks dL_truth_19 hS (Nat.le_of_ble_eq_true rfl) (Nat.le_of_ble_eq_true rfl) (Or.inr (Or.inl ⟨rfl, hc, hSS, hO⟩))
    · refine vx_catch hown [⟨0, 13, 16, 19⟩] ⟨0, 13, 20, 23⟩ [] (htab.trans rfl) (List.forall_mem_cons.mpr ⟨Or.inr ⟨by decide, "java/lang/IndexOutOfBoundsException", hts _ tw_2_237, hC.2.2.2.2.2.2.2.2.2.2.2.1.2 ("java/lang/IllegalStateException", "java/lang/IndexOutOfBoundsException") (by decide)⟩, (fun z hz => absurd hz List.not_mem_nil)⟩) (by decide) (by decide) (hts _ tw_2_239) (hC.2.2.2.2.2.2.2.2.2.2.2.1.use xw_is) h1 h2 h3 ?_
      refine lv_astore (lv' := [(5, .ref q9), (0, .ref (SA 0)), (1, .int x), (2, .int (bI b)), (3, .int (bI b2)), (4, .ref out)]) hx hb dL_truth_20 hl (by decide) rfl (fun ls hl => ?_)
      refine lv_iconst (v := nI 2) hx hb dL_truth_22 (by decide) ?_
      exact q_i hx hb hr hlocks dL_truth_23 hS (Nat.le_of_ble_eq_true rfl) (Nat.le_of_ble_eq_true rfl) (Or.inr (Or.inr (⟨rfl, hc, hSS, hO⟩)))
  · obtain ⟨n9, v9, hO⟩ := hO.kp hk (fun h => h.2 rfl)
    try dsimp only at hP
    refine lv_i2l hx hb dL_truth_9 rfl ?_
    refine h_putN (D := G.1) (ci := 7) (C := RX3) (T := TX3) (N := 2) hx hb hts inX3 tyX3 tyX3_ok nmX3 hown hK hO hS hAo rfl 0 (by decide) (va_Nw.use rfl hC.2.2.2.2.2.2.2.2.2.2.2.2.2.1) (fun _ h9 => h9) rfl (tyX3_ok 0 (by decide)) rfl rfl (Nat.le_of_ble_eq_true rfl) dL_truth_10 (fun H2 L2 hO2 z2 o2 hS => ?_)
    refine lv_goto (tgt := 24) hx hb dL_truth_13 (by decide) ?_
    refine lv_iconst (v := nI 0) hx hb dL_truth_24 (by decide) ?_
    exact q_i hx hb hr hlocks dL_truth_25 hS (Nat.le_of_ble_eq_true rfl) (Nat.le_of_ble_eq_true rfl) (Or.inl ⟨rfl, r1, H1, hP, kp.one z2 o2, _, hO2⟩)

abbrev rmL_ahead : Room := { frames := 10, cells := 3, slots := 18, locals := 177 }
theorem mL_ahead {l : Launch} {G : Cx} {A : Nat → Prop} (hst : l.stackTraces = false) {out : Nat} {SA : Nat → Nat} {X : Nat → List Nat} {es : List Nat} {k : Int32} {x y : Int32} (hAS : ∀ i : Nat, i < 39 → A (SA i)) (hAo : A out) (hSo : ∀ i : Nat, i < 39 → SA i ≠ out) : Met l yL_ahead (.codeWith yL_ahead cL_ahead 5 (some .int) [(0, 11, 14, 19), (0, 11, 18, 21), (0, 11, 22, 23)] :: GW) rmL_ahead (PC G A [.ref (SA 0), .int x, .int y, .ref out] (fun H => SS G SA X es k H ∧ OA G out H)) (qI A (fun r H => (r = 0 ∧ ∃ (v : Int32) (H0 : Heap), (fun r H => ∃ i j : Nat, i < 4 ∧ x = nI i ∧ j < 24 ∧ y = nI j ∧ ([codeT.getD j 0] ++ X i).length ≤ 60 ∧ r = nI ([codeT.getD j 0] ++ X i).length ∧ SS G SA (updT X i ([codeT.getD j 0] ++ X i)) es k H) v H0 ∧ kp (fun q => q = out) H0 H ∧ ∃ w : Value, va_at G.1 vwCl (out, .inr (7, [.long v.toInt64, w])) H) ∨ (r = 1 ∧ (NT x) ∧ SS G SA X es k H ∧ OA G out H) ∨ (r = 2 ∧ ((∃ i : Nat, i < 4 ∧ x = nI i) ∧ NS y) ∧ SS G SA X es k H ∧ OA G out H) ∨ (r = 3 ∧ (∃ i j : Nat, i < 4 ∧ x = nI i ∧ j < 24 ∧ y = nI j ∧ 60 < ([codeT.getD j 0] ++ X i).length) ∧ SS G SA X es k H ∧ OA G out H))) 3 18 (A) := by
  refine mstartH "SigntextLaw" (by decide +kernel) rfl (Nat.le_of_ble_eq_true rfl) ?_
  intro p e s m below meth c ls hx hb hr hts hown hml hlocks htab hC hA hW hl
  have hl : lv_has ls 5 [(0, .ref (SA 0)), (1, .int x), (2, .int y), (3, .ref out)] := hl
  have hK := hC.1
  have hS : va_S A s.heap s.heap [] := va_S.rf
  obtain ⟨hSS, hO⟩ := hW
  refine lv_aload_n hx hb dL_ahead_0 rfl (lv_at hl 3 rfl) ?_
  refine lv_aload_n hx hb dL_ahead_1 rfl (lv_at hl 0 rfl) ?_
  refine lv_iload_n hx hb dL_ahead_2 rfl (lv_at hl 1 rfl) ?_
  refine lv_iload_n hx hb dL_ahead_3 rfl (lv_at hl 2 rfl) ?_
  refine cI_V (A := A) (A1 := (fun q => A q ∧ q ≠ out)) (b := SA 0) (As := [.int x, .int y]) (rest := .ref out :: []) ⟨hx, hb, hml, hown, hts⟩ (mX2_ahead (A := (fun q => A q ∧ q ≠ out)) hst (SA := SA) (X := X) (es := es) (k := k) (fun i hi => ⟨hAS i hi, hSo i hi⟩)) (cwV 2 hts (gV tw_3_151 tw_3_152 tw_3_153 tw_1_1 tw_3_154) rfl rfl rfl (by decide +kernel) ⟨Nat.le_of_ble_eq_true rfl, Nat.le_of_ble_eq_true rfl⟩) hC hS (fun _ h => h.1) (fun q h => ⟨hA q h, fun q9 => absurd hO.lt (by rw [← q9]; exact Nat.not_lt_of_le h)⟩) (hSS.recv hK) hSS rfl rfl hl.1 (Nat.le_of_ble_eq_true rfl) ⟨Nat.le_of_ble_eq_true rfl, Nat.le_of_ble_eq_true rfl⟩ dL_ahead_4 (fun E ce q9 H1 L1 hX hk hS h1 h2 h3 => ?_) (fun r1 H1 L1 hP hk hS => ?_)
  · have hO := hO.kp hk (fun h => h.2 rfl)
    obtain ⟨hX, hSS⟩ := hX
    rcases hX with ⟨rfl, hc⟩ | ⟨rfl, hc⟩ | ⟨rfl, hc⟩
    · refine vx_catch hown [] ⟨0, 11, 14, 19⟩ [⟨0, 11, 18, 21⟩, ⟨0, 11, 22, 23⟩] (htab.trans rfl) (fun z hz => absurd hz List.not_mem_nil) (by decide) (by decide) (hts _ tw_2_237) (hC.2.2.2.2.2.2.2.2.2.2.2.1.use xw_io) h1 h2 h3 ?_
      refine lv_astore (lv' := [(4, .ref q9), (0, .ref (SA 0)), (1, .int x), (2, .int y), (3, .ref out)]) hx hb dL_ahead_14 hl (by decide) rfl (fun ls hl => ?_)
      refine lv_iconst (v := nI 1) hx hb dL_ahead_16 (by decide) ?_
      exact q_i hx hb hr hlocks dL_ahead_17 hS (Nat.le_of_ble_eq_true rfl) (Nat.le_of_ble_eq_true rfl) (Or.inr (Or.inl ⟨rfl, hc, hSS, hO⟩))
    · refine vx_catch hown [⟨0, 11, 14, 19⟩] ⟨0, 11, 18, 21⟩ [⟨0, 11, 22, 23⟩] (htab.trans rfl) (List.forall_mem_cons.mpr ⟨Or.inr ⟨by decide, "java/lang/IndexOutOfBoundsException", hts _ tw_2_237, hC.2.2.2.2.2.2.2.2.2.2.2.1.2 ("java/lang/IllegalArgumentException", "java/lang/IndexOutOfBoundsException") (by decide)⟩, (fun z hz => absurd hz List.not_mem_nil)⟩) (by decide) (by decide) (hts _ tw_2_238) (hC.2.2.2.2.2.2.2.2.2.2.2.1.use xw_ia) h1 h2 h3 ?_
      refine lv_astore (lv' := [(4, .ref q9), (0, .ref (SA 0)), (1, .int x), (2, .int y), (3, .ref out)]) hx hb dL_ahead_18 hl (by decide) rfl (fun ls hl => ?_)
      refine lv_iconst (v := nI 2) hx hb dL_ahead_20 (by decide) ?_
      exact q_i hx hb hr hlocks dL_ahead_21 hS (Nat.le_of_ble_eq_true rfl) (Nat.le_of_ble_eq_true rfl) (Or.inr (Or.inr (Or.inl ⟨rfl, hc, hSS, hO⟩)))
    · refine vx_catch hown [⟨0, 11, 14, 19⟩, ⟨0, 11, 18, 21⟩] ⟨0, 11, 22, 23⟩ [] (htab.trans rfl) (List.forall_mem_cons.mpr ⟨Or.inr ⟨by decide, "java/lang/IndexOutOfBoundsException", hts _ tw_2_237, hC.2.2.2.2.2.2.2.2.2.2.2.1.2 ("java/lang/IllegalStateException", "java/lang/IndexOutOfBoundsException") (by decide)⟩, (List.forall_mem_cons.mpr ⟨Or.inr ⟨by decide, "java/lang/IllegalArgumentException", hts _ tw_2_238, hC.2.2.2.2.2.2.2.2.2.2.2.1.2 ("java/lang/IllegalStateException", "java/lang/IllegalArgumentException") (by decide)⟩, (fun z hz => absurd hz List.not_mem_nil)⟩)⟩) (by decide) (by decide) (hts _ tw_2_239) (hC.2.2.2.2.2.2.2.2.2.2.2.1.use xw_is) h1 h2 h3 ?_
      refine lv_astore (lv' := [(4, .ref q9), (0, .ref (SA 0)), (1, .int x), (2, .int y), (3, .ref out)]) hx hb dL_ahead_22 hl (by decide) rfl (fun ls hl => ?_)
      refine lv_iconst (v := nI 3) hx hb dL_ahead_24 (by decide) ?_
      exact q_i hx hb hr hlocks dL_ahead_25 hS (Nat.le_of_ble_eq_true rfl) (Nat.le_of_ble_eq_true rfl) (Or.inr (Or.inr (Or.inr (⟨rfl, hc, hSS, hO⟩))))
  · obtain ⟨n9, v9, hO⟩ := hO.kp hk (fun h => h.2 rfl)
    try dsimp only at hP
    refine lv_i2l hx hb dL_ahead_7 rfl ?_
    refine h_putN (D := G.1) (ci := 7) (C := RX3) (T := TX3) (N := 2) hx hb hts inX3 tyX3 tyX3_ok nmX3 hown hK hO hS hAo rfl 0 (by decide) (va_Nw.use rfl hC.2.2.2.2.2.2.2.2.2.2.2.2.2.1) (fun _ h9 => h9) rfl (tyX3_ok 0 (by decide)) rfl rfl (Nat.le_of_ble_eq_true rfl) dL_ahead_8 (fun H2 L2 hO2 z2 o2 hS => ?_)
    refine lv_goto (tgt := 26) hx hb dL_ahead_11 (by decide) ?_
    refine lv_iconst (v := nI 0) hx hb dL_ahead_26 (by decide) ?_
    exact q_i hx hb hr hlocks dL_ahead_27 hS (Nat.le_of_ble_eq_true rfl) (Nat.le_of_ble_eq_true rfl) (Or.inl ⟨rfl, r1, H1, hP, kp.one z2 o2, _, hO2⟩)

abbrev rmL_known : Room := { frames := 9, cells := 3, slots := 18, locals := 155 }
theorem mL_known {l : Launch} {G : Cx} {A : Nat → Prop} (hst : l.stackTraces = false) {out : Nat} {SA : Nat → Nat} {X : Nat → List Nat} {es : List Nat} {k : Int32} {x y : Int32} (hAS : ∀ i : Nat, i < 39 → A (SA i)) (hAo : A out) (hSo : ∀ i : Nat, i < 39 → SA i ≠ out) : Met l yL_known (.codeWith yL_known cL_known 5 (some .int) [(0, 11, 14, 19), (0, 11, 18, 21), (0, 11, 22, 23)] :: GW) rmL_known (PC G A [.ref (SA 0), .int x, .int y, .ref out] (fun H => SS G SA X es k H ∧ OA G out H)) (qI A (fun r H => (r = 0 ∧ ∃ (v : Int32) (H0 : Heap), (fun r H => ∃ i j : Nat, i < 4 ∧ x = nI i ∧ j < 7 ∧ y = nI j ∧ (X i ++ knT j).length ≤ 60 ∧ r = nI (X i ++ knT j).length ∧ SS G SA (updT X i (X i ++ knT j)) es k H) v H0 ∧ kp (fun q => q = out) H0 H ∧ ∃ w : Value, va_at G.1 vwCl (out, .inr (7, [.long v.toInt64, w])) H) ∨ (r = 1 ∧ (NT x) ∧ SS G SA X es k H ∧ OA G out H) ∨ (r = 2 ∧ ((∃ i : Nat, i < 4 ∧ x = nI i) ∧ NK y) ∧ SS G SA X es k H ∧ OA G out H) ∨ (r = 3 ∧ (∃ i j : Nat, i < 4 ∧ x = nI i ∧ j < 7 ∧ y = nI j ∧ 60 < (X i ++ knT j).length) ∧ SS G SA X es k H ∧ OA G out H))) 3 18 (A) := by
  refine mstartH "SigntextLaw" (by decide +kernel) rfl (Nat.le_of_ble_eq_true rfl) ?_
  intro p e s m below meth c ls hx hb hr hts hown hml hlocks htab hC hA hW hl
  have hl : lv_has ls 5 [(0, .ref (SA 0)), (1, .int x), (2, .int y), (3, .ref out)] := hl
  have hK := hC.1
  have hS : va_S A s.heap s.heap [] := va_S.rf
  obtain ⟨hSS, hO⟩ := hW
  refine lv_aload_n hx hb dL_known_0 rfl (lv_at hl 3 rfl) ?_
  refine lv_aload_n hx hb dL_known_1 rfl (lv_at hl 0 rfl) ?_
  refine lv_iload_n hx hb dL_known_2 rfl (lv_at hl 1 rfl) ?_
  refine lv_iload_n hx hb dL_known_3 rfl (lv_at hl 2 rfl) ?_
  refine cI_V (A := A) (A1 := (fun q => A q ∧ q ≠ out)) (b := SA 0) (As := [.int x, .int y]) (rest := .ref out :: []) ⟨hx, hb, hml, hown, hts⟩ (mX2_known (A := (fun q => A q ∧ q ≠ out)) hst (SA := SA) (X := X) (es := es) (k := k) (fun i hi => ⟨hAS i hi, hSo i hi⟩)) (cwV 2 hts (gV tw_3_158 tw_3_159 tw_3_160 tw_1_1 tw_3_161) rfl rfl rfl (by decide +kernel) ⟨Nat.le_of_ble_eq_true rfl, Nat.le_of_ble_eq_true rfl⟩) hC hS (fun _ h => h.1) (fun q h => ⟨hA q h, fun q9 => absurd hO.lt (by rw [← q9]; exact Nat.not_lt_of_le h)⟩) (hSS.recv hK) hSS rfl rfl hl.1 (Nat.le_of_ble_eq_true rfl) ⟨Nat.le_of_ble_eq_true rfl, Nat.le_of_ble_eq_true rfl⟩ dL_known_4 (fun E ce q9 H1 L1 hX hk hS h1 h2 h3 => ?_) (fun r1 H1 L1 hP hk hS => ?_)
  · have hO := hO.kp hk (fun h => h.2 rfl)
    obtain ⟨hX, hSS⟩ := hX
    rcases hX with ⟨rfl, hc⟩ | ⟨rfl, hc⟩ | ⟨rfl, hc⟩
    · refine vx_catch hown [] ⟨0, 11, 14, 19⟩ [⟨0, 11, 18, 21⟩, ⟨0, 11, 22, 23⟩] (htab.trans rfl) (fun z hz => absurd hz List.not_mem_nil) (by decide) (by decide) (hts _ tw_2_237) (hC.2.2.2.2.2.2.2.2.2.2.2.1.use xw_io) h1 h2 h3 ?_
      refine lv_astore (lv' := [(4, .ref q9), (0, .ref (SA 0)), (1, .int x), (2, .int y), (3, .ref out)]) hx hb dL_known_14 hl (by decide) rfl (fun ls hl => ?_)
      refine lv_iconst (v := nI 1) hx hb dL_known_16 (by decide) ?_
      exact q_i hx hb hr hlocks dL_known_17 hS (Nat.le_of_ble_eq_true rfl) (Nat.le_of_ble_eq_true rfl) (Or.inr (Or.inl ⟨rfl, hc, hSS, hO⟩))
    · refine vx_catch hown [⟨0, 11, 14, 19⟩] ⟨0, 11, 18, 21⟩ [⟨0, 11, 22, 23⟩] (htab.trans rfl) (List.forall_mem_cons.mpr ⟨Or.inr ⟨by decide, "java/lang/IndexOutOfBoundsException", hts _ tw_2_237, hC.2.2.2.2.2.2.2.2.2.2.2.1.2 ("java/lang/IllegalArgumentException", "java/lang/IndexOutOfBoundsException") (by decide)⟩, (fun z hz => absurd hz List.not_mem_nil)⟩) (by decide) (by decide) (hts _ tw_2_238) (hC.2.2.2.2.2.2.2.2.2.2.2.1.use xw_ia) h1 h2 h3 ?_
      refine lv_astore (lv' := [(4, .ref q9), (0, .ref (SA 0)), (1, .int x), (2, .int y), (3, .ref out)]) hx hb dL_known_18 hl (by decide) rfl (fun ls hl => ?_)
      refine lv_iconst (v := nI 2) hx hb dL_known_20 (by decide) ?_
      exact q_i hx hb hr hlocks dL_known_21 hS (Nat.le_of_ble_eq_true rfl) (Nat.le_of_ble_eq_true rfl) (Or.inr (Or.inr (Or.inl ⟨rfl, hc, hSS, hO⟩)))
    · refine vx_catch hown [⟨0, 11, 14, 19⟩, ⟨0, 11, 18, 21⟩] ⟨0, 11, 22, 23⟩ [] (htab.trans rfl) (List.forall_mem_cons.mpr ⟨Or.inr ⟨by decide, "java/lang/IndexOutOfBoundsException", hts _ tw_2_237, hC.2.2.2.2.2.2.2.2.2.2.2.1.2 ("java/lang/IllegalStateException", "java/lang/IndexOutOfBoundsException") (by decide)⟩, (List.forall_mem_cons.mpr ⟨Or.inr ⟨by decide, "java/lang/IllegalArgumentException", hts _ tw_2_238, hC.2.2.2.2.2.2.2.2.2.2.2.1.2 ("java/lang/IllegalStateException", "java/lang/IllegalArgumentException") (by decide)⟩, (fun z hz => absurd hz List.not_mem_nil)⟩)⟩) (by decide) (by decide) (hts _ tw_2_239) (hC.2.2.2.2.2.2.2.2.2.2.2.1.use xw_is) h1 h2 h3 ?_
      refine lv_astore (lv' := [(4, .ref q9), (0, .ref (SA 0)), (1, .int x), (2, .int y), (3, .ref out)]) hx hb dL_known_22 hl (by decide) rfl (fun ls hl => ?_)
      refine lv_iconst (v := nI 3) hx hb dL_known_24 (by decide) ?_
      exact q_i hx hb hr hlocks dL_known_25 hS (Nat.le_of_ble_eq_true rfl) (Nat.le_of_ble_eq_true rfl) (Or.inr (Or.inr (Or.inr (⟨rfl, hc, hSS, hO⟩))))
  · obtain ⟨n9, v9, hO⟩ := hO.kp hk (fun h => h.2 rfl)
    try dsimp only at hP
    refine lv_i2l hx hb dL_known_7 rfl ?_
    refine h_putN (D := G.1) (ci := 7) (C := RX3) (T := TX3) (N := 2) hx hb hts inX3 tyX3 tyX3_ok nmX3 hown hK hO hS hAo rfl 0 (by decide) (va_Nw.use rfl hC.2.2.2.2.2.2.2.2.2.2.2.2.2.1) (fun _ h9 => h9) rfl (tyX3_ok 0 (by decide)) rfl rfl (Nat.le_of_ble_eq_true rfl) dL_known_8 (fun H2 L2 hO2 z2 o2 hS => ?_)
    refine lv_goto (tgt := 26) hx hb dL_known_11 (by decide) ?_
    refine lv_iconst (v := nI 0) hx hb dL_known_26 (by decide) ?_
    exact q_i hx hb hr hlocks dL_known_27 hS (Nat.le_of_ble_eq_true rfl) (Nat.le_of_ble_eq_true rfl) (Or.inl ⟨rfl, r1, H1, hP, kp.one z2 o2, _, hO2⟩)

abbrev rmL_lay : Room := { frames := 8, cells := 1, slots := 6, locals := 131 }
theorem mL_lay {l : Launch} {G : Cx} {A : Nat → Prop} (hst : l.stackTraces = false) {out : Nat} {SA : Nat → Nat} {X : Nat → List Nat} {es : List Nat} {k : Int32} {x : Int32} (hAS : ∀ i : Nat, i < 39 → A (SA i)) (hAo : A out) (hSo : ∀ i : Nat, i < 39 → SA i ≠ out) : Met l yL_lay (.codeWith yL_lay cL_lay 4 (some .int) [(0, 10, 13, 19)] :: GW) rmL_lay (PC G A [.ref (SA 0), .int x, .ref out] (fun H => SS G SA X es k H ∧ OA G out H)) (qI A (fun r H => (r = 0 ∧ ∃ (v : Int32) (H0 : Heap), (fun r H => ∃ i : Nat, i < 4 ∧ x = nI i ∧ r = nI (X i).length ∧ SS G SA (updT X 11 (X i)) es k H) v H0 ∧ kp (fun q => q = out) H0 H ∧ ∃ w : Value, va_at G.1 vwCl (out, .inr (7, [.long v.toInt64, w])) H) ∨ (r = 1 ∧ (NT x) ∧ SS G SA X es k H ∧ OA G out H))) 1 6 (A) := by
  refine mstartH "SigntextLaw" (by decide +kernel) rfl (Nat.le_of_ble_eq_true rfl) ?_
  intro p e s m below meth c ls hx hb hr hts hown hml hlocks htab hC hA hW hl
  have hl : lv_has ls 4 [(0, .ref (SA 0)), (1, .int x), (2, .ref out)] := hl
  have hK := hC.1
  have hS : va_S A s.heap s.heap [] := va_S.rf
  obtain ⟨hSS, hO⟩ := hW
  refine lv_aload_n hx hb dL_lay_0 rfl (lv_at hl 2 rfl) ?_
  refine lv_aload_n hx hb dL_lay_1 rfl (lv_at hl 0 rfl) ?_
  refine lv_iload_n hx hb dL_lay_2 rfl (lv_at hl 1 rfl) ?_
  refine cI_V (A := A) (A1 := (fun q => A q ∧ q ≠ out)) (b := SA 0) (As := [.int x]) (rest := .ref out :: []) ⟨hx, hb, hml, hown, hts⟩ (mX2_lay (A := (fun q => A q ∧ q ≠ out)) hst (SA := SA) (X := X) (es := es) (k := k) (fun i hi => ⟨hAS i hi, hSo i hi⟩)) (cwV 1 hts (gV tw_3_169 tw_3_170 tw_3_171 tw_1_1 tw_3_172) rfl rfl rfl (by decide +kernel) ⟨Nat.le_of_ble_eq_true rfl, Nat.le_of_ble_eq_true rfl⟩) hC hS (fun _ h => h.1) (fun q h => ⟨hA q h, fun q9 => absurd hO.lt (by rw [← q9]; exact Nat.not_lt_of_le h)⟩) (hSS.recv hK) hSS rfl rfl hl.1 (Nat.le_of_ble_eq_true rfl) ⟨Nat.le_of_ble_eq_true rfl, Nat.le_of_ble_eq_true rfl⟩ dL_lay_3 (fun E ce q9 H1 L1 hX hk hS h1 h2 h3 => ?_) (fun r1 H1 L1 hP hk hS => ?_)
  · have hO := hO.kp hk (fun h => h.2 rfl)
    obtain ⟨hX, hSS⟩ := hX
    obtain ⟨rfl, hc⟩ := hX
    refine vx_catch hown [] ⟨0, 10, 13, 19⟩ [] (htab.trans rfl) (fun z hz => absurd hz List.not_mem_nil) (by decide) (by decide) (hts _ tw_2_237) (hC.2.2.2.2.2.2.2.2.2.2.2.1.use xw_io) h1 h2 h3 ?_
    refine lv_astore_n (lv' := [(3, .ref q9), (0, .ref (SA 0)), (1, .int x), (2, .ref out)]) hx hb dL_lay_13 rfl hl (by decide) rfl (fun ls hl => ?_)
    refine lv_iconst (v := nI 1) hx hb dL_lay_14 (by decide) ?_
    exact q_i hx hb hr hlocks dL_lay_15 hS (Nat.le_of_ble_eq_true rfl) (Nat.le_of_ble_eq_true rfl) (Or.inr (⟨rfl, hc, hSS, hO⟩))
  · obtain ⟨n9, v9, hO⟩ := hO.kp hk (fun h => h.2 rfl)
    try dsimp only at hP
    refine lv_i2l hx hb dL_lay_6 rfl ?_
    refine h_putN (D := G.1) (ci := 7) (C := RX3) (T := TX3) (N := 2) hx hb hts inX3 tyX3 tyX3_ok nmX3 hown hK hO hS hAo rfl 0 (by decide) (va_Nw.use rfl hC.2.2.2.2.2.2.2.2.2.2.2.2.2.1) (fun _ h9 => h9) rfl (tyX3_ok 0 (by decide)) rfl rfl (Nat.le_of_ble_eq_true rfl) dL_lay_7 (fun H2 L2 hO2 z2 o2 hS => ?_)
    refine lv_goto (tgt := 16) hx hb dL_lay_10 (by decide) ?_
    refine lv_iconst (v := nI 0) hx hb dL_lay_16 (by decide) ?_
    exact q_i hx hb hr hlocks dL_lay_17 hS (Nat.le_of_ble_eq_true rfl) (Nat.le_of_ble_eq_true rfl) (Or.inl ⟨rfl, r1, H1, hP, kp.one z2 o2, _, hO2⟩)

abbrev rmL_set : Room := { frames := 8, cells := 2, slots := 12, locals := 134 }
theorem mL_set {l : Launch} {G : Cx} {A : Nat → Prop} (hst : l.stackTraces = false) {out : Nat} {SA : Nat → Nat} {X : Nat → List Nat} {es : List Nat} {k : Int32} {x y : Int32} (hAS : ∀ i : Nat, i < 39 → A (SA i)) (hAo : A out) (hSo : ∀ i : Nat, i < 39 → SA i ≠ out) : Met l yL_set (.codeWith yL_set cL_set 5 (some .int) [(0, 11, 14, 19), (0, 11, 18, 21)] :: GW) rmL_set (PC G A [.ref (SA 0), .int x, .int y, .ref out] (fun H => SS G SA X es k H ∧ OA G out H)) (qI A (fun r H => (r = 0 ∧ ∃ (v : Int32) (H0 : Heap), (fun r H => ∃ a9 j : Nat, a9 < (X 11).length ∧ x = nI a9 ∧ j < 24 ∧ y = nI j ∧ r = nI ((X 11).getD a9 0) ∧ SS G SA (updT X 11 ((X 11).set a9 (codeT.getD j 0))) es k H) v H0 ∧ kp (fun q => q = out) H0 H ∧ ∃ w : Value, va_at G.1 vwCl (out, .inr (7, [.long v.toInt64, w])) H) ∨ (r = 1 ∧ (¬ ∃ a9 : Nat, a9 < (X 11).length ∧ x = nI a9) ∧ SS G SA X es k H ∧ OA G out H) ∨ (r = 2 ∧ ((∃ a9 : Nat, a9 < (X 11).length ∧ x = nI a9) ∧ NS y) ∧ SS G SA X es k H ∧ OA G out H))) 2 12 (A) := by
  refine mstartH "SigntextLaw" (by decide +kernel) rfl (Nat.le_of_ble_eq_true rfl) ?_
  intro p e s m below meth c ls hx hb hr hts hown hml hlocks htab hC hA hW hl
  have hl : lv_has ls 5 [(0, .ref (SA 0)), (1, .int x), (2, .int y), (3, .ref out)] := hl
  have hK := hC.1
  have hS : va_S A s.heap s.heap [] := va_S.rf
  obtain ⟨hSS, hO⟩ := hW
  refine lv_aload_n hx hb dL_set_0 rfl (lv_at hl 3 rfl) ?_
  refine lv_aload_n hx hb dL_set_1 rfl (lv_at hl 0 rfl) ?_
  refine lv_iload_n hx hb dL_set_2 rfl (lv_at hl 1 rfl) ?_
  refine lv_iload_n hx hb dL_set_3 rfl (lv_at hl 2 rfl) ?_
  refine cI_V (A := A) (A1 := (fun q => A q ∧ q ≠ out)) (b := SA 0) (As := [.int x, .int y]) (rest := .ref out :: []) ⟨hx, hb, hml, hown, hts⟩ (mX2_set (A := (fun q => A q ∧ q ≠ out)) hst (SA := SA) (X := X) (es := es) (k := k) (fun i hi => ⟨hAS i hi, hSo i hi⟩)) (cwV 2 hts (gV tw_3_176 tw_3_177 tw_3_178 tw_1_1 tw_3_179) rfl rfl rfl (by decide +kernel) ⟨Nat.le_of_ble_eq_true rfl, Nat.le_of_ble_eq_true rfl⟩) hC hS (fun _ h => h.1) (fun q h => ⟨hA q h, fun q9 => absurd hO.lt (by rw [← q9]; exact Nat.not_lt_of_le h)⟩) (hSS.recv hK) hSS rfl rfl hl.1 (Nat.le_of_ble_eq_true rfl) ⟨Nat.le_of_ble_eq_true rfl, Nat.le_of_ble_eq_true rfl⟩ dL_set_4 (fun E ce q9 H1 L1 hX hk hS h1 h2 h3 => ?_) (fun r1 H1 L1 hP hk hS => ?_)
  · have hO := hO.kp hk (fun h => h.2 rfl)
    obtain ⟨hX, hSS⟩ := hX
    rcases hX with ⟨rfl, hc⟩ | ⟨rfl, hc⟩
    · refine vx_catch hown [] ⟨0, 11, 14, 19⟩ [⟨0, 11, 18, 21⟩] (htab.trans rfl) (fun z hz => absurd hz List.not_mem_nil) (by decide) (by decide) (hts _ tw_2_237) (hC.2.2.2.2.2.2.2.2.2.2.2.1.use xw_io) h1 h2 h3 ?_
      refine lv_astore (lv' := [(4, .ref q9), (0, .ref (SA 0)), (1, .int x), (2, .int y), (3, .ref out)]) hx hb dL_set_14 hl (by decide) rfl (fun ls hl => ?_)
      refine lv_iconst (v := nI 1) hx hb dL_set_16 (by decide) ?_
      exact q_i hx hb hr hlocks dL_set_17 hS (Nat.le_of_ble_eq_true rfl) (Nat.le_of_ble_eq_true rfl) (Or.inr (Or.inl ⟨rfl, hc, hSS, hO⟩))
    · refine vx_catch hown [⟨0, 11, 14, 19⟩] ⟨0, 11, 18, 21⟩ [] (htab.trans rfl) (List.forall_mem_cons.mpr ⟨Or.inr ⟨by decide, "java/lang/IndexOutOfBoundsException", hts _ tw_2_237, hC.2.2.2.2.2.2.2.2.2.2.2.1.2 ("java/lang/IllegalArgumentException", "java/lang/IndexOutOfBoundsException") (by decide)⟩, (fun z hz => absurd hz List.not_mem_nil)⟩) (by decide) (by decide) (hts _ tw_2_238) (hC.2.2.2.2.2.2.2.2.2.2.2.1.use xw_ia) h1 h2 h3 ?_
      refine lv_astore (lv' := [(4, .ref q9), (0, .ref (SA 0)), (1, .int x), (2, .int y), (3, .ref out)]) hx hb dL_set_18 hl (by decide) rfl (fun ls hl => ?_)
      refine lv_iconst (v := nI 2) hx hb dL_set_20 (by decide) ?_
      exact q_i hx hb hr hlocks dL_set_21 hS (Nat.le_of_ble_eq_true rfl) (Nat.le_of_ble_eq_true rfl) (Or.inr (Or.inr (⟨rfl, hc, hSS, hO⟩)))
  · obtain ⟨n9, v9, hO⟩ := hO.kp hk (fun h => h.2 rfl)
    try dsimp only at hP
    refine lv_i2l hx hb dL_set_7 rfl ?_
    refine h_putN (D := G.1) (ci := 7) (C := RX3) (T := TX3) (N := 2) hx hb hts inX3 tyX3 tyX3_ok nmX3 hown hK hO hS hAo rfl 0 (by decide) (va_Nw.use rfl hC.2.2.2.2.2.2.2.2.2.2.2.2.2.1) (fun _ h9 => h9) rfl (tyX3_ok 0 (by decide)) rfl rfl (Nat.le_of_ble_eq_true rfl) dL_set_8 (fun H2 L2 hO2 z2 o2 hS => ?_)
    refine lv_goto (tgt := 22) hx hb dL_set_11 (by decide) ?_
    refine lv_iconst (v := nI 0) hx hb dL_set_22 (by decide) ?_
    exact q_i hx hb hr hlocks dL_set_23 hS (Nat.le_of_ble_eq_true rfl) (Nat.le_of_ble_eq_true rfl) (Or.inl ⟨rfl, r1, H1, hP, kp.one z2 o2, _, hO2⟩)

abbrev rmL_take : Room := { frames := 8, cells := 1, slots := 6, locals := 131 }
theorem mL_take {l : Launch} {G : Cx} {A : Nat → Prop} (hst : l.stackTraces = false) {out : Nat} {SA : Nat → Nat} {X : Nat → List Nat} {es : List Nat} {k : Int32} {x : Int32} (hAS : ∀ i : Nat, i < 39 → A (SA i)) (hAo : A out) (hSo : ∀ i : Nat, i < 39 → SA i ≠ out) : Met l yL_take (.codeWith yL_take cL_take 4 (some .int) [(0, 10, 13, 19)] :: GW) rmL_take (PC G A [.ref (SA 0), .int x, .ref out] (fun H => SS G SA X es k H ∧ OA G out H)) (qI A (fun r H => (r = 0 ∧ ∃ (v : Int32) (H0 : Heap), (fun r H => ∃ i : Nat, i < 4 ∧ x = nI i ∧ r = nI (X 11).length ∧ SS G SA (updT X i (X 11)) es k H) v H0 ∧ kp (fun q => q = out) H0 H ∧ ∃ w : Value, va_at G.1 vwCl (out, .inr (7, [.long v.toInt64, w])) H) ∨ (r = 1 ∧ (NT x) ∧ SS G SA X es k H ∧ OA G out H))) 1 6 (A) := by
  refine mstartH "SigntextLaw" (by decide +kernel) rfl (Nat.le_of_ble_eq_true rfl) ?_
  intro p e s m below meth c ls hx hb hr hts hown hml hlocks htab hC hA hW hl
  have hl : lv_has ls 4 [(0, .ref (SA 0)), (1, .int x), (2, .ref out)] := hl
  have hK := hC.1
  have hS : va_S A s.heap s.heap [] := va_S.rf
  obtain ⟨hSS, hO⟩ := hW
  refine lv_aload_n hx hb dL_take_0 rfl (lv_at hl 2 rfl) ?_
  refine lv_aload_n hx hb dL_take_1 rfl (lv_at hl 0 rfl) ?_
  refine lv_iload_n hx hb dL_take_2 rfl (lv_at hl 1 rfl) ?_
  refine cI_V (A := A) (A1 := (fun q => A q ∧ q ≠ out)) (b := SA 0) (As := [.int x]) (rest := .ref out :: []) ⟨hx, hb, hml, hown, hts⟩ (mX2_take (A := (fun q => A q ∧ q ≠ out)) hst (SA := SA) (X := X) (es := es) (k := k) (fun i hi => ⟨hAS i hi, hSo i hi⟩)) (cwV 1 hts (gV tw_3_190 tw_3_191 tw_3_192 tw_1_1 tw_3_193) rfl rfl rfl (by decide +kernel) ⟨Nat.le_of_ble_eq_true rfl, Nat.le_of_ble_eq_true rfl⟩) hC hS (fun _ h => h.1) (fun q h => ⟨hA q h, fun q9 => absurd hO.lt (by rw [← q9]; exact Nat.not_lt_of_le h)⟩) (hSS.recv hK) hSS rfl rfl hl.1 (Nat.le_of_ble_eq_true rfl) ⟨Nat.le_of_ble_eq_true rfl, Nat.le_of_ble_eq_true rfl⟩ dL_take_3 (fun E ce q9 H1 L1 hX hk hS h1 h2 h3 => ?_) (fun r1 H1 L1 hP hk hS => ?_)
  · have hO := hO.kp hk (fun h => h.2 rfl)
    obtain ⟨hX, hSS⟩ := hX
    obtain ⟨rfl, hc⟩ := hX
    refine vx_catch hown [] ⟨0, 10, 13, 19⟩ [] (htab.trans rfl) (fun z hz => absurd hz List.not_mem_nil) (by decide) (by decide) (hts _ tw_2_237) (hC.2.2.2.2.2.2.2.2.2.2.2.1.use xw_io) h1 h2 h3 ?_
    refine lv_astore_n (lv' := [(3, .ref q9), (0, .ref (SA 0)), (1, .int x), (2, .ref out)]) hx hb dL_take_13 rfl hl (by decide) rfl (fun ls hl => ?_)
    refine lv_iconst (v := nI 1) hx hb dL_take_14 (by decide) ?_
    exact q_i hx hb hr hlocks dL_take_15 hS (Nat.le_of_ble_eq_true rfl) (Nat.le_of_ble_eq_true rfl) (Or.inr (⟨rfl, hc, hSS, hO⟩))
  · obtain ⟨n9, v9, hO⟩ := hO.kp hk (fun h => h.2 rfl)
    try dsimp only at hP
    refine lv_i2l hx hb dL_take_6 rfl ?_
    refine h_putN (D := G.1) (ci := 7) (C := RX3) (T := TX3) (N := 2) hx hb hts inX3 tyX3 tyX3_ok nmX3 hown hK hO hS hAo rfl 0 (by decide) (va_Nw.use rfl hC.2.2.2.2.2.2.2.2.2.2.2.2.2.1) (fun _ h9 => h9) rfl (tyX3_ok 0 (by decide)) rfl rfl (Nat.le_of_ble_eq_true rfl) dL_take_7 (fun H2 L2 hO2 z2 o2 hS => ?_)
    refine lv_goto (tgt := 16) hx hb dL_take_10 (by decide) ?_
    refine lv_iconst (v := nI 0) hx hb dL_take_16 (by decide) ?_
    exact q_i hx hb hr hlocks dL_take_17 hS (Nat.le_of_ble_eq_true rfl) (Nat.le_of_ble_eq_true rfl) (Or.inl ⟨rfl, r1, H1, hP, kp.one z2 o2, _, hO2⟩)

abbrev rmL_takePart : Room := { frames := 8, cells := 3, slots := 18, locals := 134 }
theorem mL_takePart {l : Launch} {G : Cx} {A : Nat → Prop} (hst : l.stackTraces = false) {out : Nat} {SA : Nat → Nat} {X : Nat → List Nat} {es : List Nat} {k : Int32} {x f9 m9 : Int32} (hAS : ∀ i : Nat, i < 39 → A (SA i)) (hAo : A out) (hSo : ∀ i : Nat, i < 39 → SA i ≠ out) : Met l yL_takePart (.codeWith yL_takePart cL_takePart 6 (some .int) [(0, 13, 16, 19)] :: GW) rmL_takePart (PC G A [.ref (SA 0), .int x, .int f9, .int m9, .ref out] (fun H => SS G SA X es k H ∧ OA G out H)) (qI A (fun r H => (r = 0 ∧ ∃ (v : Int32) (H0 : Heap), (fun r H => ∃ i a9 b9 : Nat, i < 4 ∧ x = nI i ∧ f9 = nI a9 ∧ m9 = nI b9 ∧ a9 + b9 ≤ (X 11).length ∧ r = nI (cutL (X 11) a9 (a9 + b9)).length ∧ SS G SA (updT X i (cutL (X 11) a9 (a9 + b9))) es k H) v H0 ∧ kp (fun q => q = out) H0 H ∧ ∃ w : Value, va_at G.1 vwCl (out, .inr (7, [.long v.toInt64, w])) H) ∨ (r = 1 ∧ ((NT x ∨ ¬ ∃ a9 b9 : Nat, f9 = nI a9 ∧ m9 = nI b9 ∧ a9 + b9 ≤ (X 11).length)) ∧ SS G SA X es k H ∧ OA G out H))) 3 18 (A) := by
  refine mstartH "SigntextLaw" (by decide +kernel) rfl (Nat.le_of_ble_eq_true rfl) ?_
  intro p e s m below meth c ls hx hb hr hts hown hml hlocks htab hC hA hW hl
  have hl : lv_has ls 6 [(0, .ref (SA 0)), (1, .int x), (2, .int f9), (3, .int m9), (4, .ref out)] := hl
  have hK := hC.1
  have hS : va_S A s.heap s.heap [] := va_S.rf
  obtain ⟨hSS, hO⟩ := hW
  refine lv_aload hx hb dL_takePart_0 (lv_at hl 4 rfl) ?_
  refine lv_aload_n hx hb dL_takePart_2 rfl (lv_at hl 0 rfl) ?_
  refine lv_iload_n hx hb dL_takePart_3 rfl (lv_at hl 1 rfl) ?_
  refine lv_iload_n hx hb dL_takePart_4 rfl (lv_at hl 2 rfl) ?_
  refine lv_iload_n hx hb dL_takePart_5 rfl (lv_at hl 3 rfl) ?_
  refine cI_V (A := A) (A1 := (fun q => A q ∧ q ≠ out)) (b := SA 0) (As := [.int x, .int f9, .int m9]) (rest := .ref out :: []) ⟨hx, hb, hml, hown, hts⟩ (mX2_takePart (A := (fun q => A q ∧ q ≠ out)) hst (SA := SA) (X := X) (es := es) (k := k) (fun i hi => ⟨hAS i hi, hSo i hi⟩)) (cwV 3 hts (gV tw_3_197 tw_3_198 tw_3_199 tw_1_1 tw_3_200) rfl rfl rfl (by decide +kernel) ⟨Nat.le_of_ble_eq_true rfl, Nat.le_of_ble_eq_true rfl⟩) hC hS (fun _ h => h.1) (fun q h => ⟨hA q h, fun q9 => absurd hO.lt (by rw [← q9]; exact Nat.not_lt_of_le h)⟩) (hSS.recv hK) hSS rfl rfl hl.1 (Nat.le_of_ble_eq_true rfl) ⟨Nat.le_of_ble_eq_true rfl, Nat.le_of_ble_eq_true rfl⟩ dL_takePart_6 (fun E ce q9 H1 L1 hX hk hS h1 h2 h3 => ?_) (fun r1 H1 L1 hP hk hS => ?_)
  · have hO := hO.kp hk (fun h => h.2 rfl)
    obtain ⟨hX, hSS⟩ := hX
    obtain ⟨rfl, hc⟩ := hX
    refine vx_catch hown [] ⟨0, 13, 16, 19⟩ [] (htab.trans rfl) (fun z hz => absurd hz List.not_mem_nil) (by decide) (by decide) (hts _ tw_2_237) (hC.2.2.2.2.2.2.2.2.2.2.2.1.use xw_io) h1 h2 h3 ?_
    refine lv_astore (lv' := [(5, .ref q9), (0, .ref (SA 0)), (1, .int x), (2, .int f9), (3, .int m9), (4, .ref out)]) hx hb dL_takePart_16 hl (by decide) rfl (fun ls hl => ?_)
    refine lv_iconst (v := nI 1) hx hb dL_takePart_18 (by decide) ?_
    exact q_i hx hb hr hlocks dL_takePart_19 hS (Nat.le_of_ble_eq_true rfl) (Nat.le_of_ble_eq_true rfl) (Or.inr (⟨rfl, hc, hSS, hO⟩))
  · obtain ⟨n9, v9, hO⟩ := hO.kp hk (fun h => h.2 rfl)
    try dsimp only at hP
    refine lv_i2l hx hb dL_takePart_9 rfl ?_
    refine h_putN (D := G.1) (ci := 7) (C := RX3) (T := TX3) (N := 2) hx hb hts inX3 tyX3 tyX3_ok nmX3 hown hK hO hS hAo rfl 0 (by decide) (va_Nw.use rfl hC.2.2.2.2.2.2.2.2.2.2.2.2.2.1) (fun _ h9 => h9) rfl (tyX3_ok 0 (by decide)) rfl rfl (Nat.le_of_ble_eq_true rfl) dL_takePart_10 (fun H2 L2 hO2 z2 o2 hS => ?_)
    refine lv_goto (tgt := 20) hx hb dL_takePart_13 (by decide) ?_
    refine lv_iconst (v := nI 0) hx hb dL_takePart_20 (by decide) ?_
    exact q_i hx hb hr hlocks dL_takePart_21 hS (Nat.le_of_ble_eq_true rfl) (Nat.le_of_ble_eq_true rfl) (Or.inl ⟨rfl, r1, H1, hP, kp.one z2 o2, _, hO2⟩)

abbrev rmL_cut : Room := { frames := 8, cells := 1, slots := 6, locals := 131 }
theorem mL_cut {l : Launch} {G : Cx} {A : Nat → Prop} (hst : l.stackTraces = false) {out : Nat} {SA : Nat → Nat} {X : Nat → List Nat} {es : List Nat} {k : Int32} {x : Int32} (hAS : ∀ i : Nat, i < 39 → A (SA i)) (hAo : A out) (hSo : ∀ i : Nat, i < 39 → SA i ≠ out) : Met l yL_cut (.codeWith yL_cut cL_cut 4 (some .int) [(0, 10, 13, 19)] :: GW) rmL_cut (PC G A [.ref (SA 0), .int x, .ref out] (fun H => SS G SA X es k H ∧ OA G out H)) (qI A (fun r H => (r = 0 ∧ ∃ (v : Int32) (H0 : Heap), (fun r H => ∃ (i : Nat) (es1 : List Nat), i < 4 ∧ x = nI i ∧ isCut (X i) es1 ∧ r = nI es1.length ∧ SS G SA (updT X 14 (X i)) es1 k H) v H0 ∧ kp (fun q => q = out) H0 H ∧ ∃ w : Value, va_at G.1 vwCl (out, .inr (7, [.long v.toInt64, w])) H) ∨ (r = 1 ∧ (NT x) ∧ SS G SA X es k H ∧ OA G out H))) 1 6 (A) := by
  refine mstartH "SigntextLaw" (by decide +kernel) rfl (Nat.le_of_ble_eq_true rfl) ?_
  intro p e s m below meth c ls hx hb hr hts hown hml hlocks htab hC hA hW hl
  have hl : lv_has ls 4 [(0, .ref (SA 0)), (1, .int x), (2, .ref out)] := hl
  have hK := hC.1
  have hS : va_S A s.heap s.heap [] := va_S.rf
  obtain ⟨hSS, hO⟩ := hW
  refine lv_aload_n hx hb dL_cut_0 rfl (lv_at hl 2 rfl) ?_
  refine lv_aload_n hx hb dL_cut_1 rfl (lv_at hl 0 rfl) ?_
  refine lv_iload_n hx hb dL_cut_2 rfl (lv_at hl 1 rfl) ?_
  refine cI_V (A := A) (A1 := (fun q => A q ∧ q ≠ out)) (b := SA 0) (As := [.int x]) (rest := .ref out :: []) ⟨hx, hb, hml, hown, hts⟩ (mX2_cut (A := (fun q => A q ∧ q ≠ out)) hst (SA := SA) (X := X) (es := es) (k := k) (fun i hi => ⟨hAS i hi, hSo i hi⟩)) (cwV 1 hts (gV tw_3_204 tw_3_205 tw_3_206 tw_1_1 tw_3_207) rfl rfl rfl (by decide +kernel) ⟨Nat.le_of_ble_eq_true rfl, Nat.le_of_ble_eq_true rfl⟩) hC hS (fun _ h => h.1) (fun q h => ⟨hA q h, fun q9 => absurd hO.lt (by rw [← q9]; exact Nat.not_lt_of_le h)⟩) (hSS.recv hK) hSS rfl rfl hl.1 (Nat.le_of_ble_eq_true rfl) ⟨Nat.le_of_ble_eq_true rfl, Nat.le_of_ble_eq_true rfl⟩ dL_cut_3 (fun E ce q9 H1 L1 hX hk hS h1 h2 h3 => ?_) (fun r1 H1 L1 hP hk hS => ?_)
  · have hO := hO.kp hk (fun h => h.2 rfl)
    obtain ⟨hX, hSS⟩ := hX
    obtain ⟨rfl, hc⟩ := hX
    refine vx_catch hown [] ⟨0, 10, 13, 19⟩ [] (htab.trans rfl) (fun z hz => absurd hz List.not_mem_nil) (by decide) (by decide) (hts _ tw_2_237) (hC.2.2.2.2.2.2.2.2.2.2.2.1.use xw_io) h1 h2 h3 ?_
    refine lv_astore_n (lv' := [(3, .ref q9), (0, .ref (SA 0)), (1, .int x), (2, .ref out)]) hx hb dL_cut_13 rfl hl (by decide) rfl (fun ls hl => ?_)
    refine lv_iconst (v := nI 1) hx hb dL_cut_14 (by decide) ?_
    exact q_i hx hb hr hlocks dL_cut_15 hS (Nat.le_of_ble_eq_true rfl) (Nat.le_of_ble_eq_true rfl) (Or.inr (⟨rfl, hc, hSS, hO⟩))
  · obtain ⟨n9, v9, hO⟩ := hO.kp hk (fun h => h.2 rfl)
    try dsimp only at hP
    refine lv_i2l hx hb dL_cut_6 rfl ?_
    refine h_putN (D := G.1) (ci := 7) (C := RX3) (T := TX3) (N := 2) hx hb hts inX3 tyX3 tyX3_ok nmX3 hown hK hO hS hAo rfl 0 (by decide) (va_Nw.use rfl hC.2.2.2.2.2.2.2.2.2.2.2.2.2.1) (fun _ h9 => h9) rfl (tyX3_ok 0 (by decide)) rfl rfl (Nat.le_of_ble_eq_true rfl) dL_cut_7 (fun H2 L2 hO2 z2 o2 hS => ?_)
    refine lv_goto (tgt := 16) hx hb dL_cut_10 (by decide) ?_
    refine lv_iconst (v := nI 0) hx hb dL_cut_16 (by decide) ?_
    exact q_i hx hb hr hlocks dL_cut_17 hS (Nat.le_of_ble_eq_true rfl) (Nat.le_of_ble_eq_true rfl) (Or.inl ⟨rfl, r1, H1, hP, kp.one z2 o2, _, hO2⟩)

abbrev rmL_takePiece : Room := { frames := 8, cells := 2, slots := 12, locals := 133 }
theorem mL_takePiece {l : Launch} {G : Cx} {A : Nat → Prop} (hst : l.stackTraces = false) {out : Nat} {SA : Nat → Nat} {X : Nat → List Nat} {es : List Nat} {k : Int32} {x y : Int32} (hAS : ∀ i : Nat, i < 39 → A (SA i)) (hAo : A out) (hSo : ∀ i : Nat, i < 39 → SA i ≠ out) : Met l yL_takePiece (.codeWith yL_takePiece cL_takePiece 5 (some .int) [(0, 11, 14, 19)] :: GW) rmL_takePiece (PC G A [.ref (SA 0), .int x, .int y, .ref out] (fun H => SS G SA X es k H ∧ OA G out H)) (qI A (fun r H => (r = 0 ∧ ∃ (v : Int32) (H0 : Heap), (fun r H => ∃ j i : Nat, j < es.length ∧ x = nI j ∧ i < 4 ∧ y = nI i ∧ r = nI (cutL (X 14) (bgE es j) (es.getD j 0)).length ∧ SS G SA (updT X i (cutL (X 14) (bgE es j) (es.getD j 0))) es k H) v H0 ∧ kp (fun q => q = out) H0 H ∧ ∃ w : Value, va_at G.1 vwCl (out, .inr (7, [.long v.toInt64, w])) H) ∨ (r = 1 ∧ (((¬ ∃ j : Nat, j < es.length ∧ x = nI j) ∨ NT y)) ∧ SS G SA X es k H ∧ OA G out H))) 2 12 (A) := by
  refine mstartH "SigntextLaw" (by decide +kernel) rfl (Nat.le_of_ble_eq_true rfl) ?_
  intro p e s m below meth c ls hx hb hr hts hown hml hlocks htab hC hA hW hl
  have hl : lv_has ls 5 [(0, .ref (SA 0)), (1, .int x), (2, .int y), (3, .ref out)] := hl
  have hK := hC.1
  have hS : va_S A s.heap s.heap [] := va_S.rf
  obtain ⟨hSS, hO⟩ := hW
  refine lv_aload_n hx hb dL_takePiece_0 rfl (lv_at hl 3 rfl) ?_
  refine lv_aload_n hx hb dL_takePiece_1 rfl (lv_at hl 0 rfl) ?_
  refine lv_iload_n hx hb dL_takePiece_2 rfl (lv_at hl 1 rfl) ?_
  refine lv_iload_n hx hb dL_takePiece_3 rfl (lv_at hl 2 rfl) ?_
  refine cI_V (A := A) (A1 := (fun q => A q ∧ q ≠ out)) (b := SA 0) (As := [.int x, .int y]) (rest := .ref out :: []) ⟨hx, hb, hml, hown, hts⟩ (mX2_takePiece (A := (fun q => A q ∧ q ≠ out)) hst (SA := SA) (X := X) (es := es) (k := k) (fun i hi => ⟨hAS i hi, hSo i hi⟩)) (cwV 2 hts (gV tw_3_211 tw_3_212 tw_3_213 tw_1_1 tw_3_214) rfl rfl rfl (by decide +kernel) ⟨Nat.le_of_ble_eq_true rfl, Nat.le_of_ble_eq_true rfl⟩) hC hS (fun _ h => h.1) (fun q h => ⟨hA q h, fun q9 => absurd hO.lt (by rw [← q9]; exact Nat.not_lt_of_le h)⟩) (hSS.recv hK) hSS rfl rfl hl.1 (Nat.le_of_ble_eq_true rfl) ⟨Nat.le_of_ble_eq_true rfl, Nat.le_of_ble_eq_true rfl⟩ dL_takePiece_4 (fun E ce q9 H1 L1 hX hk hS h1 h2 h3 => ?_) (fun r1 H1 L1 hP hk hS => ?_)
  · have hO := hO.kp hk (fun h => h.2 rfl)
    obtain ⟨hX, hSS⟩ := hX
    obtain ⟨rfl, hc⟩ := hX
    refine vx_catch hown [] ⟨0, 11, 14, 19⟩ [] (htab.trans rfl) (fun z hz => absurd hz List.not_mem_nil) (by decide) (by decide) (hts _ tw_2_237) (hC.2.2.2.2.2.2.2.2.2.2.2.1.use xw_io) h1 h2 h3 ?_
    refine lv_astore (lv' := [(4, .ref q9), (0, .ref (SA 0)), (1, .int x), (2, .int y), (3, .ref out)]) hx hb dL_takePiece_14 hl (by decide) rfl (fun ls hl => ?_)
    refine lv_iconst (v := nI 1) hx hb dL_takePiece_16 (by decide) ?_
    exact q_i hx hb hr hlocks dL_takePiece_17 hS (Nat.le_of_ble_eq_true rfl) (Nat.le_of_ble_eq_true rfl) (Or.inr (⟨rfl, hc, hSS, hO⟩))
  · obtain ⟨n9, v9, hO⟩ := hO.kp hk (fun h => h.2 rfl)
    try dsimp only at hP
    refine lv_i2l hx hb dL_takePiece_7 rfl ?_
    refine h_putN (D := G.1) (ci := 7) (C := RX3) (T := TX3) (N := 2) hx hb hts inX3 tyX3 tyX3_ok nmX3 hown hK hO hS hAo rfl 0 (by decide) (va_Nw.use rfl hC.2.2.2.2.2.2.2.2.2.2.2.2.2.1) (fun _ h9 => h9) rfl (tyX3_ok 0 (by decide)) rfl rfl (Nat.le_of_ble_eq_true rfl) dL_takePiece_8 (fun H2 L2 hO2 z2 o2 hS => ?_)
    refine lv_goto (tgt := 18) hx hb dL_takePiece_11 (by decide) ?_
    refine lv_iconst (v := nI 0) hx hb dL_takePiece_18 (by decide) ?_
    exact q_i hx hb hr hlocks dL_takePiece_19 hS (Nat.le_of_ble_eq_true rfl) (Nat.le_of_ble_eq_true rfl) (Or.inl ⟨rfl, r1, H1, hP, kp.one z2 o2, _, hO2⟩)

abbrev rmL_text : Room := { frames := 8, cells := 4, slots := 130, locals := 160 }
theorem mL_text {l : Launch} {G : Cx} {A : Nat → Prop} (hst : l.stackTraces = false) {out : Nat} {SA : Nat → Nat} {X : Nat → List Nat} {es : List Nat} {k : Int32} {x : Int32} (hAS : ∀ i : Nat, i < 39 → A (SA i)) (hAo : A out) (hSo : ∀ i : Nat, i < 39 → SA i ≠ out) : Met l yL_text (.codeWith yL_text cL_text 4 (some .int) [(0, 9, 12, 19)] :: GW) rmL_text (PC G A [.ref (SA 0), .int x, .ref out] (fun H => SS G SA X es k H ∧ OA G out H)) (qI A (fun r H => (r = 0 ∧ ∃ (v : Nat) (H0 : Heap), (fun r H => (∃ i : Nat, i < 4 ∧ x = nI i) ∧ SS G SA X es k H) v H0 ∧ kp (fun q => q = out) H0 H ∧ ∃ n9 : Int64, va_at G.1 vwCl (out, .inr (7, [.long n9, .ref v])) H) ∨ (r = 1 ∧ (NT x) ∧ SS G SA X es k H ∧ OA G out H))) 4 130 (A) := by
  refine mstartH "SigntextLaw" (by decide +kernel) rfl (Nat.le_of_ble_eq_true rfl) ?_
  intro p e s m below meth c ls hx hb hr hts hown hml hlocks htab hC hA hW hl
  have hl : lv_has ls 4 [(0, .ref (SA 0)), (1, .int x), (2, .ref out)] := hl
  have hK := hC.1
  have hS : va_S A s.heap s.heap [] := va_S.rf
  obtain ⟨hSS, hO⟩ := hW
  refine lv_aload_n hx hb dL_text_0 rfl (lv_at hl 2 rfl) ?_
  refine lv_aload_n hx hb dL_text_1 rfl (lv_at hl 0 rfl) ?_
  refine lv_iload_n hx hb dL_text_2 rfl (lv_at hl 1 rfl) ?_
  refine cR_V (A := A) (A1 := (fun q => A q ∧ q ≠ out)) (b := SA 0) (As := [.int x]) (rest := .ref out :: []) ⟨hx, hb, hml, hown, hts⟩ (mX2_text (A := (fun q => A q ∧ q ≠ out)) hst (SA := SA) (X := X) (es := es) (k := k) (fun i hi => ⟨hAS i hi, hSo i hi⟩)) (cwV 1 hts (gV tw_3_226 tw_3_227 tw_3_228 tw_1_1 tw_3_229) rfl rfl rfl (by decide +kernel) ⟨Nat.le_of_ble_eq_true rfl, Nat.le_of_ble_eq_true rfl⟩) hC hS (fun _ h => h.1) (fun q h => ⟨hA q h, fun q9 => absurd hO.lt (by rw [← q9]; exact Nat.not_lt_of_le h)⟩) (hSS.recv hK) hSS rfl rfl hl.1 (Nat.le_of_ble_eq_true rfl) ⟨Nat.le_of_ble_eq_true rfl, Nat.le_of_ble_eq_true rfl⟩ dL_text_3 (fun E ce q9 H1 L1 hX hk hS h1 h2 h3 => ?_) (fun r1 H1 L1 hP hk hS => ?_)
  · have hO := hO.kp hk (fun h => h.2 rfl)
    obtain ⟨hX, hSS⟩ := hX
    obtain ⟨rfl, hc⟩ := hX
    refine vx_catch hown [] ⟨0, 9, 12, 19⟩ [] (htab.trans rfl) (fun z hz => absurd hz List.not_mem_nil) (by decide) (by decide) (hts _ tw_2_237) (hC.2.2.2.2.2.2.2.2.2.2.2.1.use xw_io) h1 h2 h3 ?_
    refine lv_astore_n (lv' := [(3, .ref q9), (0, .ref (SA 0)), (1, .int x), (2, .ref out)]) hx hb dL_text_12 rfl hl (by decide) rfl (fun ls hl => ?_)
    refine lv_iconst (v := nI 1) hx hb dL_text_13 (by decide) ?_
    exact q_i hx hb hr hlocks dL_text_14 hS (Nat.le_of_ble_eq_true rfl) (Nat.le_of_ble_eq_true rfl) (Or.inr (⟨rfl, hc, hSS, hO⟩))
  · obtain ⟨n9, v9, hO⟩ := hO.kp hk (fun h => h.2 rfl)
    try dsimp only at hP
    refine h_putN (D := G.1) (ci := 7) (C := RX3) (T := TX3) (N := 2) hx hb hts inX3 tyX3 tyX3_ok nmX3 hown hK hO hS hAo rfl 1 (by decide) (va_Nw.use rfl hC.2.2.2.2.2.2.2.2.2.2.2.2.2.2.1) (fun _ h9 => h9) rfl (tyX3_ok 1 (by decide)) rfl rfl (Nat.le_of_ble_eq_true rfl) dL_text_6 (fun H2 L2 hO2 z2 o2 hS => ?_)
    refine lv_goto (tgt := 15) hx hb dL_text_9 (by decide) ?_
    refine lv_iconst (v := nI 0) hx hb dL_text_15 (by decide) ?_
    exact q_i hx hb hr hlocks dL_text_16 hS (Nat.le_of_ble_eq_true rfl) (Nat.le_of_ble_eq_true rfl) (Or.inl ⟨rfl, r1, H1, hP, kp.one z2 o2, _, hO2⟩)

abbrev rmL_length : Room := { frames := 8, cells := 1, slots := 6, locals := 131 }
theorem mL_length {l : Launch} {G : Cx} {A : Nat → Prop} (hst : l.stackTraces = false) {out : Nat} {SA : Nat → Nat} {X : Nat → List Nat} {es : List Nat} {k : Int32} {x : Int32} (hAS : ∀ i : Nat, i < 39 → A (SA i)) (hAo : A out) (hSo : ∀ i : Nat, i < 39 → SA i ≠ out) : Met l yL_length (.codeWith yL_length cL_length 4 (some .int) [(0, 10, 13, 19)] :: GW) rmL_length (PC G A [.ref (SA 0), .int x, .ref out] (fun H => SS G SA X es k H ∧ OA G out H)) (qI A (fun r H => (r = 0 ∧ ∃ (v : Int32) (H0 : Heap), (fun r H => ∃ i : Nat, i < 4 ∧ x = nI i ∧ r = nI (X i).length ∧ SS G SA X es k H) v H0 ∧ kp (fun q => q = out) H0 H ∧ ∃ w : Value, va_at G.1 vwCl (out, .inr (7, [.long v.toInt64, w])) H) ∨ (r = 1 ∧ (NT x) ∧ SS G SA X es k H ∧ OA G out H))) 1 6 (A) := by
  refine mstartH "SigntextLaw" (by decide +kernel) rfl (Nat.le_of_ble_eq_true rfl) ?_
  intro p e s m below meth c ls hx hb hr hts hown hml hlocks htab hC hA hW hl
  have hl : lv_has ls 4 [(0, .ref (SA 0)), (1, .int x), (2, .ref out)] := hl
  have hK := hC.1
  have hS : va_S A s.heap s.heap [] := va_S.rf
  obtain ⟨hSS, hO⟩ := hW
  refine lv_aload_n hx hb dL_length_0 rfl (lv_at hl 2 rfl) ?_
  refine lv_aload_n hx hb dL_length_1 rfl (lv_at hl 0 rfl) ?_
  refine lv_iload_n hx hb dL_length_2 rfl (lv_at hl 1 rfl) ?_
  refine cI_V (A := A) (A1 := (fun q => A q ∧ q ≠ out)) (b := SA 0) (As := [.int x]) (rest := .ref out :: []) ⟨hx, hb, hml, hown, hts⟩ (mX2_length (A := (fun q => A q ∧ q ≠ out)) hst (SA := SA) (X := X) (es := es) (k := k) (fun i hi => ⟨hAS i hi, hSo i hi⟩)) (cwV 1 hts (gV tw_3_233 tw_3_234 tw_3_235 tw_1_1 tw_3_236) rfl rfl rfl (by decide +kernel) ⟨Nat.le_of_ble_eq_true rfl, Nat.le_of_ble_eq_true rfl⟩) hC hS (fun _ h => h.1) (fun q h => ⟨hA q h, fun q9 => absurd hO.lt (by rw [← q9]; exact Nat.not_lt_of_le h)⟩) (hSS.recv hK) hSS rfl rfl hl.1 (Nat.le_of_ble_eq_true rfl) ⟨Nat.le_of_ble_eq_true rfl, Nat.le_of_ble_eq_true rfl⟩ dL_length_3 (fun E ce q9 H1 L1 hX hk hS h1 h2 h3 => ?_) (fun r1 H1 L1 hP hk hS => ?_)
  · have hO := hO.kp hk (fun h => h.2 rfl)
    obtain ⟨hX, hSS⟩ := hX
    obtain ⟨rfl, hc⟩ := hX
    refine vx_catch hown [] ⟨0, 10, 13, 19⟩ [] (htab.trans rfl) (fun z hz => absurd hz List.not_mem_nil) (by decide) (by decide) (hts _ tw_2_237) (hC.2.2.2.2.2.2.2.2.2.2.2.1.use xw_io) h1 h2 h3 ?_
    refine lv_astore_n (lv' := [(3, .ref q9), (0, .ref (SA 0)), (1, .int x), (2, .ref out)]) hx hb dL_length_13 rfl hl (by decide) rfl (fun ls hl => ?_)
    refine lv_iconst (v := nI 1) hx hb dL_length_14 (by decide) ?_
    exact q_i hx hb hr hlocks dL_length_15 hS (Nat.le_of_ble_eq_true rfl) (Nat.le_of_ble_eq_true rfl) (Or.inr (⟨rfl, hc, hSS, hO⟩))
  · obtain ⟨n9, v9, hO⟩ := hO.kp hk (fun h => h.2 rfl)
    try dsimp only at hP
    refine lv_i2l hx hb dL_length_6 rfl ?_
    refine h_putN (D := G.1) (ci := 7) (C := RX3) (T := TX3) (N := 2) hx hb hts inX3 tyX3 tyX3_ok nmX3 hown hK hO hS hAo rfl 0 (by decide) (va_Nw.use rfl hC.2.2.2.2.2.2.2.2.2.2.2.2.2.1) (fun _ h9 => h9) rfl (tyX3_ok 0 (by decide)) rfl rfl (Nat.le_of_ble_eq_true rfl) dL_length_7 (fun H2 L2 hO2 z2 o2 hS => ?_)
    refine lv_goto (tgt := 16) hx hb dL_length_10 (by decide) ?_
    refine lv_iconst (v := nI 0) hx hb dL_length_16 (by decide) ?_
    exact q_i hx hb hr hlocks dL_length_17 hS (Nat.le_of_ble_eq_true rfl) (Nat.le_of_ble_eq_true rfl) (Or.inl ⟨rfl, r1, H1, hP, kp.one z2 o2, _, hO2⟩)

abbrev rmL_at : Room := { frames := 8, cells := 2, slots := 12, locals := 133 }
theorem mL_at {l : Launch} {G : Cx} {A : Nat → Prop} (hst : l.stackTraces = false) {out : Nat} {SA : Nat → Nat} {X : Nat → List Nat} {es : List Nat} {k : Int32} {x y : Int32} (hAS : ∀ i : Nat, i < 39 → A (SA i)) (hAo : A out) (hSo : ∀ i : Nat, i < 39 → SA i ≠ out) : Met l yL_at (.codeWith yL_at cL_at 5 (some .int) [(0, 11, 14, 19)] :: GW) rmL_at (PC G A [.ref (SA 0), .int x, .int y, .ref out] (fun H => SS G SA X es k H ∧ OA G out H)) (qI A (fun r H => (r = 0 ∧ ∃ (v : Int32) (H0 : Heap), (fun r H => ∃ i a9 : Nat, i < 4 ∧ x = nI i ∧ a9 < (X i).length ∧ y = nI a9 ∧ r = nI ((X i).getD a9 0) ∧ SS G SA X es k H) v H0 ∧ kp (fun q => q = out) H0 H ∧ ∃ w : Value, va_at G.1 vwCl (out, .inr (7, [.long v.toInt64, w])) H) ∨ (r = 1 ∧ ((NT x ∨ ¬ ∃ i a9 : Nat, i < 4 ∧ x = nI i ∧ a9 < (X i).length ∧ y = nI a9)) ∧ SS G SA X es k H ∧ OA G out H))) 2 12 (A) := by
  refine mstartH "SigntextLaw" (by decide +kernel) rfl (Nat.le_of_ble_eq_true rfl) ?_
  intro p e s m below meth c ls hx hb hr hts hown hml hlocks htab hC hA hW hl
  have hl : lv_has ls 5 [(0, .ref (SA 0)), (1, .int x), (2, .int y), (3, .ref out)] := hl
  have hK := hC.1
  have hS : va_S A s.heap s.heap [] := va_S.rf
  obtain ⟨hSS, hO⟩ := hW
  refine lv_aload_n hx hb dL_at_0 rfl (lv_at hl 3 rfl) ?_
  refine lv_aload_n hx hb dL_at_1 rfl (lv_at hl 0 rfl) ?_
  refine lv_iload_n hx hb dL_at_2 rfl (lv_at hl 1 rfl) ?_
  refine lv_iload_n hx hb dL_at_3 rfl (lv_at hl 2 rfl) ?_
  refine cI_V (A := A) (A1 := (fun q => A q ∧ q ≠ out)) (b := SA 0) (As := [.int x, .int y]) (rest := .ref out :: []) ⟨hx, hb, hml, hown, hts⟩ (mX2_at (A := (fun q => A q ∧ q ≠ out)) hst (SA := SA) (X := X) (es := es) (k := k) (fun i hi => ⟨hAS i hi, hSo i hi⟩)) (cwV 2 hts (gV tw_4_0 tw_4_1 tw_4_2 tw_1_1 tw_4_3) rfl rfl rfl (by decide +kernel) ⟨Nat.le_of_ble_eq_true rfl, Nat.le_of_ble_eq_true rfl⟩) hC hS (fun _ h => h.1) (fun q h => ⟨hA q h, fun q9 => absurd hO.lt (by rw [← q9]; exact Nat.not_lt_of_le h)⟩) (hSS.recv hK) hSS rfl rfl hl.1 (Nat.le_of_ble_eq_true rfl) ⟨Nat.le_of_ble_eq_true rfl, Nat.le_of_ble_eq_true rfl⟩ dL_at_4 (fun E ce q9 H1 L1 hX hk hS h1 h2 h3 => ?_) (fun r1 H1 L1 hP hk hS => ?_)
  · have hO := hO.kp hk (fun h => h.2 rfl)
    obtain ⟨hX, hSS⟩ := hX
    obtain ⟨rfl, hc⟩ := hX
    refine vx_catch hown [] ⟨0, 11, 14, 19⟩ [] (htab.trans rfl) (fun z hz => absurd hz List.not_mem_nil) (by decide) (by decide) (hts _ tw_2_237) (hC.2.2.2.2.2.2.2.2.2.2.2.1.use xw_io) h1 h2 h3 ?_
    refine lv_astore (lv' := [(4, .ref q9), (0, .ref (SA 0)), (1, .int x), (2, .int y), (3, .ref out)]) hx hb dL_at_14 hl (by decide) rfl (fun ls hl => ?_)
    refine lv_iconst (v := nI 1) hx hb dL_at_16 (by decide) ?_
    exact q_i hx hb hr hlocks dL_at_17 hS (Nat.le_of_ble_eq_true rfl) (Nat.le_of_ble_eq_true rfl) (Or.inr (⟨rfl, hc, hSS, hO⟩))
  · obtain ⟨n9, v9, hO⟩ := hO.kp hk (fun h => h.2 rfl)
    try dsimp only at hP
    refine lv_i2l hx hb dL_at_7 rfl ?_
    refine h_putN (D := G.1) (ci := 7) (C := RX3) (T := TX3) (N := 2) hx hb hts inX3 tyX3 tyX3_ok nmX3 hown hK hO hS hAo rfl 0 (by decide) (va_Nw.use rfl hC.2.2.2.2.2.2.2.2.2.2.2.2.2.1) (fun _ h9 => h9) rfl (tyX3_ok 0 (by decide)) rfl rfl (Nat.le_of_ble_eq_true rfl) dL_at_8 (fun H2 L2 hO2 z2 o2 hS => ?_)
    refine lv_goto (tgt := 18) hx hb dL_at_11 (by decide) ?_
    refine lv_iconst (v := nI 0) hx hb dL_at_18 (by decide) ?_
    exact q_i hx hb hr hlocks dL_at_19 hS (Nat.le_of_ble_eq_true rfl) (Nat.le_of_ble_eq_true rfl) (Or.inl ⟨rfl, r1, H1, hP, kp.one z2 o2, _, hO2⟩)

abbrev rmL_isEmpty : Room := { frames := 8, cells := 1, slots := 6, locals := 131 }
theorem mL_isEmpty {l : Launch} {G : Cx} {A : Nat → Prop} (hst : l.stackTraces = false) {out : Nat} {SA : Nat → Nat} {X : Nat → List Nat} {es : List Nat} {k : Int32} {x : Int32} (hAS : ∀ i : Nat, i < 39 → A (SA i)) (hAo : A out) (hSo : ∀ i : Nat, i < 39 → SA i ≠ out) : Met l yL_isEmpty (.codeWith yL_isEmpty cL_isEmpty 4 (some .int) [(0, 17, 20, 19)] :: GW) rmL_isEmpty (PC G A [.ref (SA 0), .int x, .ref out] (fun H => SS G SA X es k H ∧ OA G out H)) (qI A (fun r H => (r = 0 ∧ ∃ (v : Int32) (H0 : Heap), (fun r H => ∃ i : Nat, i < 4 ∧ x = nI i ∧ r = bI (decide ((X i).length = 0)) ∧ SS G SA X es k H) v H0 ∧ kp (fun q => q = out) H0 H ∧ ∃ w : Value, va_at G.1 vwCl (out, .inr (7, [.long (oz v), w])) H) ∨ (r = 1 ∧ (NT x) ∧ SS G SA X es k H ∧ OA G out H))) 1 6 (A) := by
  refine mstartH "SigntextLaw" (by decide +kernel) rfl (Nat.le_of_ble_eq_true rfl) ?_
  intro p e s m below meth c ls hx hb hr hts hown hml hlocks htab hC hA hW hl
  have hl : lv_has ls 4 [(0, .ref (SA 0)), (1, .int x), (2, .ref out)] := hl
  have hK := hC.1
  have hS : va_S A s.heap s.heap [] := va_S.rf
  obtain ⟨hSS, hO⟩ := hW
  refine lv_aload_n hx hb dL_isEmpty_0 rfl (lv_at hl 2 rfl) ?_
  refine lv_aload_n hx hb dL_isEmpty_1 rfl (lv_at hl 0 rfl) ?_
  refine lv_iload_n hx hb dL_isEmpty_2 rfl (lv_at hl 1 rfl) ?_
  refine cI_V (A := A) (A1 := (fun q => A q ∧ q ≠ out)) (b := SA 0) (As := [.int x]) (rest := .ref out :: []) ⟨hx, hb, hml, hown, hts⟩ (mX2_isEmpty (A := (fun q => A q ∧ q ≠ out)) hst (SA := SA) (X := X) (es := es) (k := k) (fun i hi => ⟨hAS i hi, hSo i hi⟩)) (cwV 1 hts (gV tw_4_7 tw_4_8 tw_4_9 tw_1_1 tw_4_10) rfl rfl rfl (by decide +kernel) ⟨Nat.le_of_ble_eq_true rfl, Nat.le_of_ble_eq_true rfl⟩) hC hS (fun _ h => h.1) (fun q h => ⟨hA q h, fun q9 => absurd hO.lt (by rw [← q9]; exact Nat.not_lt_of_le h)⟩) (hSS.recv hK) hSS rfl rfl hl.1 (Nat.le_of_ble_eq_true rfl) ⟨Nat.le_of_ble_eq_true rfl, Nat.le_of_ble_eq_true rfl⟩ dL_isEmpty_3 (fun E ce q9 H1 L1 hX hk hS h1 h2 h3 => ?_) (fun r1 H1 L1 hP hk hS => ?_)
  · have hO := hO.kp hk (fun h => h.2 rfl)
    obtain ⟨hX, hSS⟩ := hX
    obtain ⟨rfl, hc⟩ := hX
    refine vx_catch hown [] ⟨0, 17, 20, 19⟩ [] (htab.trans rfl) (fun z hz => absurd hz List.not_mem_nil) (by decide) (by decide) (hts _ tw_2_237) (hC.2.2.2.2.2.2.2.2.2.2.2.1.use xw_io) h1 h2 h3 ?_
    refine lv_astore_n (lv' := [(3, .ref q9), (0, .ref (SA 0)), (1, .int x), (2, .ref out)]) hx hb dL_isEmpty_20 rfl hl (by decide) rfl (fun ls hl => ?_)
    refine lv_iconst (v := nI 1) hx hb dL_isEmpty_21 (by decide) ?_
    exact q_i hx hb hr hlocks dL_isEmpty_22 hS (Nat.le_of_ble_eq_true rfl) (Nat.le_of_ble_eq_true rfl) (Or.inr (⟨rfl, hc, hSS, hO⟩))
  · obtain ⟨n9, v9, hO⟩ := hO.kp hk (fun h => h.2 rfl)
    try dsimp only at hP
    refine lv_if_eq (tgt := 13) hx hb dL_isEmpty_6 (by decide) (fun c_1 => ?_) (fun c_1 => ?_)
    · refine lv_lconst (v := 0) hx hb dL_isEmpty_13 (by decide) ?_
      refine h_putN (D := G.1) (ci := 7) (C := RX3) (T := TX3) (N := 2) hx hb hts inX3 tyX3 tyX3_ok nmX3 hown hK hO hS hAo rfl 0 (by decide) (va_Nw.use rfl hC.2.2.2.2.2.2.2.2.2.2.2.2.2.1) (fun _ h9 => h9) rfl (tyX3_ok 0 (by decide)) rfl rfl (Nat.le_of_ble_eq_true rfl) dL_isEmpty_14 (fun H2 L2 hO2 z2 o2 hS => ?_)
      refine lv_goto (tgt := 23) hx hb dL_isEmpty_17 (by decide) ?_
      refine lv_iconst (v := nI 0) hx hb dL_isEmpty_23 (by decide) ?_
      exact q_i hx hb hr hlocks dL_isEmpty_24 hS (Nat.le_of_ble_eq_true rfl) (Nat.le_of_ble_eq_true rfl) (Or.inl ⟨rfl, r1, H1, hP, kp.one z2 o2, _, by rw [show oz r1 = 0 from if_pos c_1]; exact hO2⟩)
    · refine lv_lconst (v := 1) hx hb dL_isEmpty_9 (by decide) ?_
      refine lv_goto (tgt := 14) hx hb dL_isEmpty_10 (by decide) ?_
      refine h_putN (D := G.1) (ci := 7) (C := RX3) (T := TX3) (N := 2) hx hb hts inX3 tyX3 tyX3_ok nmX3 hown hK hO hS hAo rfl 0 (by decide) (va_Nw.use rfl hC.2.2.2.2.2.2.2.2.2.2.2.2.2.1) (fun _ h9 => h9) rfl (tyX3_ok 0 (by decide)) rfl rfl (Nat.le_of_ble_eq_true rfl) dL_isEmpty_14 (fun H2 L2 hO2 z2 o2 hS => ?_)
      refine lv_goto (tgt := 23) hx hb dL_isEmpty_17 (by decide) ?_
      refine lv_iconst (v := nI 0) hx hb dL_isEmpty_23 (by decide) ?_
      exact q_i hx hb hr hlocks dL_isEmpty_24 hS (Nat.le_of_ble_eq_true rfl) (Nat.le_of_ble_eq_true rfl) (Or.inl ⟨rfl, r1, H1, hP, kp.one z2 o2, _, by rw [show oz r1 = 1 from if_neg c_1]; exact hO2⟩)

abbrev rmL_isBlank : Room := { frames := 8, cells := 1, slots := 6, locals := 131 }
theorem mL_isBlank {l : Launch} {G : Cx} {A : Nat → Prop} (hst : l.stackTraces = false) {out : Nat} {SA : Nat → Nat} {X : Nat → List Nat} {es : List Nat} {k : Int32} {x : Int32} (hAS : ∀ i : Nat, i < 39 → A (SA i)) (hAo : A out) (hSo : ∀ i : Nat, i < 39 → SA i ≠ out) : Met l yL_isBlank (.codeWith yL_isBlank cL_isBlank 4 (some .int) [(0, 17, 20, 19)] :: GW) rmL_isBlank (PC G A [.ref (SA 0), .int x, .ref out] (fun H => SS G SA X es k H ∧ OA G out H)) (qI A (fun r H => (r = 0 ∧ ∃ (v : Int32) (H0 : Heap), (fun r H => ∃ i : Nat, i < 4 ∧ x = nI i ∧ r = bI (decide (tbL true (X i) = (X i).length)) ∧ SS G SA X es k H) v H0 ∧ kp (fun q => q = out) H0 H ∧ ∃ w : Value, va_at G.1 vwCl (out, .inr (7, [.long (oz v), w])) H) ∨ (r = 1 ∧ (NT x) ∧ SS G SA X es k H ∧ OA G out H))) 1 6 (A) := by
  refine mstartH "SigntextLaw" (by decide +kernel) rfl (Nat.le_of_ble_eq_true rfl) ?_
  intro p e s m below meth c ls hx hb hr hts hown hml hlocks htab hC hA hW hl
  have hl : lv_has ls 4 [(0, .ref (SA 0)), (1, .int x), (2, .ref out)] := hl
  have hK := hC.1
  have hS : va_S A s.heap s.heap [] := va_S.rf
  obtain ⟨hSS, hO⟩ := hW
  refine lv_aload_n hx hb dL_isBlank_0 rfl (lv_at hl 2 rfl) ?_
  refine lv_aload_n hx hb dL_isBlank_1 rfl (lv_at hl 0 rfl) ?_
  refine lv_iload_n hx hb dL_isBlank_2 rfl (lv_at hl 1 rfl) ?_
  refine cI_V (A := A) (A1 := (fun q => A q ∧ q ≠ out)) (b := SA 0) (As := [.int x]) (rest := .ref out :: []) ⟨hx, hb, hml, hown, hts⟩ (mX2_isBlank (A := (fun q => A q ∧ q ≠ out)) hst (SA := SA) (X := X) (es := es) (k := k) (fun i hi => ⟨hAS i hi, hSo i hi⟩)) (cwV 1 hts (gV tw_4_14 tw_4_15 tw_4_16 tw_1_1 tw_4_17) rfl rfl rfl (by decide +kernel) ⟨Nat.le_of_ble_eq_true rfl, Nat.le_of_ble_eq_true rfl⟩) hC hS (fun _ h => h.1) (fun q h => ⟨hA q h, fun q9 => absurd hO.lt (by rw [← q9]; exact Nat.not_lt_of_le h)⟩) (hSS.recv hK) hSS rfl rfl hl.1 (Nat.le_of_ble_eq_true rfl) ⟨Nat.le_of_ble_eq_true rfl, Nat.le_of_ble_eq_true rfl⟩ dL_isBlank_3 (fun E ce q9 H1 L1 hX hk hS h1 h2 h3 => ?_) (fun r1 H1 L1 hP hk hS => ?_)
  · have hO := hO.kp hk (fun h => h.2 rfl)
    obtain ⟨hX, hSS⟩ := hX
    obtain ⟨rfl, hc⟩ := hX
    refine vx_catch hown [] ⟨0, 17, 20, 19⟩ [] (htab.trans rfl) (fun z hz => absurd hz List.not_mem_nil) (by decide) (by decide) (hts _ tw_2_237) (hC.2.2.2.2.2.2.2.2.2.2.2.1.use xw_io) h1 h2 h3 ?_
    refine lv_astore_n (lv' := [(3, .ref q9), (0, .ref (SA 0)), (1, .int x), (2, .ref out)]) hx hb dL_isBlank_20 rfl hl (by decide) rfl (fun ls hl => ?_)
    refine lv_iconst (v := nI 1) hx hb dL_isBlank_21 (by decide) ?_
    exact q_i hx hb hr hlocks dL_isBlank_22 hS (Nat.le_of_ble_eq_true rfl) (Nat.le_of_ble_eq_true rfl) (Or.inr (⟨rfl, hc, hSS, hO⟩))
  · obtain ⟨n9, v9, hO⟩ := hO.kp hk (fun h => h.2 rfl)
    try dsimp only at hP
    refine lv_if_eq (tgt := 13) hx hb dL_isBlank_6 (by decide) (fun c_2 => ?_) (fun c_2 => ?_)
    · refine lv_lconst (v := 0) hx hb dL_isBlank_13 (by decide) ?_
      refine h_putN (D := G.1) (ci := 7) (C := RX3) (T := TX3) (N := 2) hx hb hts inX3 tyX3 tyX3_ok nmX3 hown hK hO hS hAo rfl 0 (by decide) (va_Nw.use rfl hC.2.2.2.2.2.2.2.2.2.2.2.2.2.1) (fun _ h9 => h9) rfl (tyX3_ok 0 (by decide)) rfl rfl (Nat.le_of_ble_eq_true rfl) dL_isBlank_14 (fun H2 L2 hO2 z2 o2 hS => ?_)
      refine lv_goto (tgt := 23) hx hb dL_isBlank_17 (by decide) ?_
      refine lv_iconst (v := nI 0) hx hb dL_isBlank_23 (by decide) ?_
      exact q_i hx hb hr hlocks dL_isBlank_24 hS (Nat.le_of_ble_eq_true rfl) (Nat.le_of_ble_eq_true rfl) (Or.inl ⟨rfl, r1, H1, hP, kp.one z2 o2, _, by rw [show oz r1 = 0 from if_pos c_2]; exact hO2⟩)
    · refine lv_lconst (v := 1) hx hb dL_isBlank_9 (by decide) ?_
      refine lv_goto (tgt := 14) hx hb dL_isBlank_10 (by decide) ?_
      refine h_putN (D := G.1) (ci := 7) (C := RX3) (T := TX3) (N := 2) hx hb hts inX3 tyX3 tyX3_ok nmX3 hown hK hO hS hAo rfl 0 (by decide) (va_Nw.use rfl hC.2.2.2.2.2.2.2.2.2.2.2.2.2.1) (fun _ h9 => h9) rfl (tyX3_ok 0 (by decide)) rfl rfl (Nat.le_of_ble_eq_true rfl) dL_isBlank_14 (fun H2 L2 hO2 z2 o2 hS => ?_)
      refine lv_goto (tgt := 23) hx hb dL_isBlank_17 (by decide) ?_
      refine lv_iconst (v := nI 0) hx hb dL_isBlank_23 (by decide) ?_
      exact q_i hx hb hr hlocks dL_isBlank_24 hS (Nat.le_of_ble_eq_true rfl) (Nat.le_of_ble_eq_true rfl) (Or.inl ⟨rfl, r1, H1, hP, kp.one z2 o2, _, by rw [show oz r1 = 1 from if_neg c_2]; exact hO2⟩)

abbrev rmL_hash : Room := { frames := 8, cells := 1, slots := 6, locals := 131 }
theorem mL_hash {l : Launch} {G : Cx} {A : Nat → Prop} (hst : l.stackTraces = false) {out : Nat} {SA : Nat → Nat} {X : Nat → List Nat} {es : List Nat} {k : Int32} {x : Int32} (hAS : ∀ i : Nat, i < 39 → A (SA i)) (hAo : A out) (hSo : ∀ i : Nat, i < 39 → SA i ≠ out) : Met l yL_hash (.codeWith yL_hash cL_hash 4 (some .int) [(0, 10, 13, 19)] :: GW) rmL_hash (PC G A [.ref (SA 0), .int x, .ref out] (fun H => SS G SA X es k H ∧ OA G out H)) (qI A (fun r H => (r = 0 ∧ ∃ (v : Int32) (H0 : Heap), (fun r H => ∃ i : Nat, i < 4 ∧ x = nI i ∧ r = hashL (X i) ∧ SS G SA X es k H) v H0 ∧ kp (fun q => q = out) H0 H ∧ ∃ w : Value, va_at G.1 vwCl (out, .inr (7, [.long v.toInt64, w])) H) ∨ (r = 1 ∧ (NT x) ∧ SS G SA X es k H ∧ OA G out H))) 1 6 (A) := by
  refine mstartH "SigntextLaw" (by decide +kernel) rfl (Nat.le_of_ble_eq_true rfl) ?_
  intro p e s m below meth c ls hx hb hr hts hown hml hlocks htab hC hA hW hl
  have hl : lv_has ls 4 [(0, .ref (SA 0)), (1, .int x), (2, .ref out)] := hl
  have hK := hC.1
  have hS : va_S A s.heap s.heap [] := va_S.rf
  obtain ⟨hSS, hO⟩ := hW
  refine lv_aload_n hx hb dL_hash_0 rfl (lv_at hl 2 rfl) ?_
  refine lv_aload_n hx hb dL_hash_1 rfl (lv_at hl 0 rfl) ?_
  refine lv_iload_n hx hb dL_hash_2 rfl (lv_at hl 1 rfl) ?_
  refine cI_V (A := A) (A1 := (fun q => A q ∧ q ≠ out)) (b := SA 0) (As := [.int x]) (rest := .ref out :: []) ⟨hx, hb, hml, hown, hts⟩ (mX2_hash (A := (fun q => A q ∧ q ≠ out)) hst (SA := SA) (X := X) (es := es) (k := k) (fun i hi => ⟨hAS i hi, hSo i hi⟩)) (cwV 1 hts (gV tw_4_21 tw_4_22 tw_4_23 tw_1_1 tw_4_24) rfl rfl rfl (by decide +kernel) ⟨Nat.le_of_ble_eq_true rfl, Nat.le_of_ble_eq_true rfl⟩) hC hS (fun _ h => h.1) (fun q h => ⟨hA q h, fun q9 => absurd hO.lt (by rw [← q9]; exact Nat.not_lt_of_le h)⟩) (hSS.recv hK) hSS rfl rfl hl.1 (Nat.le_of_ble_eq_true rfl) ⟨Nat.le_of_ble_eq_true rfl, Nat.le_of_ble_eq_true rfl⟩ dL_hash_3 (fun E ce q9 H1 L1 hX hk hS h1 h2 h3 => ?_) (fun r1 H1 L1 hP hk hS => ?_)
  · have hO := hO.kp hk (fun h => h.2 rfl)
    obtain ⟨hX, hSS⟩ := hX
    obtain ⟨rfl, hc⟩ := hX
    refine vx_catch hown [] ⟨0, 10, 13, 19⟩ [] (htab.trans rfl) (fun z hz => absurd hz List.not_mem_nil) (by decide) (by decide) (hts _ tw_2_237) (hC.2.2.2.2.2.2.2.2.2.2.2.1.use xw_io) h1 h2 h3 ?_
    refine lv_astore_n (lv' := [(3, .ref q9), (0, .ref (SA 0)), (1, .int x), (2, .ref out)]) hx hb dL_hash_13 rfl hl (by decide) rfl (fun ls hl => ?_)
    refine lv_iconst (v := nI 1) hx hb dL_hash_14 (by decide) ?_
    exact q_i hx hb hr hlocks dL_hash_15 hS (Nat.le_of_ble_eq_true rfl) (Nat.le_of_ble_eq_true rfl) (Or.inr (⟨rfl, hc, hSS, hO⟩))
  · obtain ⟨n9, v9, hO⟩ := hO.kp hk (fun h => h.2 rfl)
    try dsimp only at hP
    refine lv_i2l hx hb dL_hash_6 rfl ?_
    refine h_putN (D := G.1) (ci := 7) (C := RX3) (T := TX3) (N := 2) hx hb hts inX3 tyX3 tyX3_ok nmX3 hown hK hO hS hAo rfl 0 (by decide) (va_Nw.use rfl hC.2.2.2.2.2.2.2.2.2.2.2.2.2.1) (fun _ h9 => h9) rfl (tyX3_ok 0 (by decide)) rfl rfl (Nat.le_of_ble_eq_true rfl) dL_hash_7 (fun H2 L2 hO2 z2 o2 hS => ?_)
    refine lv_goto (tgt := 16) hx hb dL_hash_10 (by decide) ?_
    refine lv_iconst (v := nI 0) hx hb dL_hash_16 (by decide) ?_
    exact q_i hx hb hr hlocks dL_hash_17 hS (Nat.le_of_ble_eq_true rfl) (Nat.le_of_ble_eq_true rfl) (Or.inl ⟨rfl, r1, H1, hP, kp.one z2 o2, _, hO2⟩)

abbrev rmL_first : Room := { frames := 8, cells := 2, slots := 12, locals := 133 }
theorem mL_first {l : Launch} {G : Cx} {A : Nat → Prop} (hst : l.stackTraces = false) {out : Nat} {SA : Nat → Nat} {X : Nat → List Nat} {es : List Nat} {k : Int32} {x y : Int32} (hAS : ∀ i : Nat, i < 39 → A (SA i)) (hAo : A out) (hSo : ∀ i : Nat, i < 39 → SA i ≠ out) : Met l yL_first (.codeWith yL_first cL_first 5 (some .int) [(0, 11, 14, 19), (0, 11, 18, 21)] :: GW) rmL_first (PC G A [.ref (SA 0), .int x, .int y, .ref out] (fun H => SS G SA X es k H ∧ OA G out H)) (qI A (fun r H => (r = 0 ∧ ∃ (v : Int32) (H0 : Heap), (fun r H => ∃ i j : Nat, i < 4 ∧ x = nI i ∧ j < 24 ∧ y = nI j ∧ fstR (fun k9 => 0 ≤ k9 ∧ k9 < (X i).length ∧ (X i).getD k9 0 = codeT.getD j 0) r ∧ SS G SA X es k H) v H0 ∧ kp (fun q => q = out) H0 H ∧ ∃ w : Value, va_at G.1 vwCl (out, .inr (7, [.long v.toInt64, w])) H) ∨ (r = 1 ∧ (NT x) ∧ SS G SA X es k H ∧ OA G out H) ∨ (r = 2 ∧ ((∃ i : Nat, i < 4 ∧ x = nI i) ∧ NS y) ∧ SS G SA X es k H ∧ OA G out H))) 2 12 (A) := by
  refine mstartH "SigntextLaw" (by decide +kernel) rfl (Nat.le_of_ble_eq_true rfl) ?_
  intro p e s m below meth c ls hx hb hr hts hown hml hlocks htab hC hA hW hl
  have hl : lv_has ls 5 [(0, .ref (SA 0)), (1, .int x), (2, .int y), (3, .ref out)] := hl
  have hK := hC.1
  have hS : va_S A s.heap s.heap [] := va_S.rf
  obtain ⟨hSS, hO⟩ := hW
  refine lv_aload_n hx hb dL_first_0 rfl (lv_at hl 3 rfl) ?_
  refine lv_aload_n hx hb dL_first_1 rfl (lv_at hl 0 rfl) ?_
  refine lv_iload_n hx hb dL_first_2 rfl (lv_at hl 1 rfl) ?_
  refine lv_iload_n hx hb dL_first_3 rfl (lv_at hl 2 rfl) ?_
  refine cI_V (A := A) (A1 := (fun q => A q ∧ q ≠ out)) (b := SA 0) (As := [.int x, .int y]) (rest := .ref out :: []) ⟨hx, hb, hml, hown, hts⟩ (mX2_first (A := (fun q => A q ∧ q ≠ out)) hst (SA := SA) (X := X) (es := es) (k := k) (fun i hi => ⟨hAS i hi, hSo i hi⟩)) (cwV 2 hts (gV tw_4_28 tw_4_29 tw_4_30 tw_1_1 tw_4_31) rfl rfl rfl (by decide +kernel) ⟨Nat.le_of_ble_eq_true rfl, Nat.le_of_ble_eq_true rfl⟩) hC hS (fun _ h => h.1) (fun q h => ⟨hA q h, fun q9 => absurd hO.lt (by rw [← q9]; exact Nat.not_lt_of_le h)⟩) (hSS.recv hK) hSS rfl rfl hl.1 (Nat.le_of_ble_eq_true rfl) ⟨Nat.le_of_ble_eq_true rfl, Nat.le_of_ble_eq_true rfl⟩ dL_first_4 (fun E ce q9 H1 L1 hX hk hS h1 h2 h3 => ?_) (fun r1 H1 L1 hP hk hS => ?_)
  · have hO := hO.kp hk (fun h => h.2 rfl)
    obtain ⟨hX, hSS⟩ := hX
    rcases hX with ⟨rfl, hc⟩ | ⟨rfl, hc⟩
    · refine vx_catch hown [] ⟨0, 11, 14, 19⟩ [⟨0, 11, 18, 21⟩] (htab.trans rfl) (fun z hz => absurd hz List.not_mem_nil) (by decide) (by decide) (hts _ tw_2_237) (hC.2.2.2.2.2.2.2.2.2.2.2.1.use xw_io) h1 h2 h3 ?_
      refine lv_astore (lv' := [(4, .ref q9), (0, .ref (SA 0)), (1, .int x), (2, .int y), (3, .ref out)]) hx hb dL_first_14 hl (by decide) rfl (fun ls hl => ?_)
      refine lv_iconst (v := nI 1) hx hb dL_first_16 (by decide) ?_
      exact q_i hx hb hr hlocks dL_first_17 hS (Nat.le_of_ble_eq_true rfl) (Nat.le_of_ble_eq_true rfl) (Or.inr (Or.inl ⟨rfl, hc, hSS, hO⟩))
    · refine vx_catch hown [⟨0, 11, 14, 19⟩] ⟨0, 11, 18, 21⟩ [] (htab.trans rfl) (List.forall_mem_cons.mpr ⟨Or.inr ⟨by decide, "java/lang/IndexOutOfBoundsException", hts _ tw_2_237, hC.2.2.2.2.2.2.2.2.2.2.2.1.2 ("java/lang/IllegalArgumentException", "java/lang/IndexOutOfBoundsException") (by decide)⟩, (fun z hz => absurd hz List.not_mem_nil)⟩) (by decide) (by decide) (hts _ tw_2_238) (hC.2.2.2.2.2.2.2.2.2.2.2.1.use xw_ia) h1 h2 h3 ?_
      refine lv_astore (lv' := [(4, .ref q9), (0, .ref (SA 0)), (1, .int x), (2, .int y), (3, .ref out)]) hx hb dL_first_18 hl (by decide) rfl (fun ls hl => ?_)
      refine lv_iconst (v := nI 2) hx hb dL_first_20 (by decide) ?_
      exact q_i hx hb hr hlocks dL_first_21 hS (Nat.le_of_ble_eq_true rfl) (Nat.le_of_ble_eq_true rfl) (Or.inr (Or.inr (⟨rfl, hc, hSS, hO⟩)))
  · obtain ⟨n9, v9, hO⟩ := hO.kp hk (fun h => h.2 rfl)
    try dsimp only at hP
    refine lv_i2l hx hb dL_first_7 rfl ?_
    refine h_putN (D := G.1) (ci := 7) (C := RX3) (T := TX3) (N := 2) hx hb hts inX3 tyX3 tyX3_ok nmX3 hown hK hO hS hAo rfl 0 (by decide) (va_Nw.use rfl hC.2.2.2.2.2.2.2.2.2.2.2.2.2.1) (fun _ h9 => h9) rfl (tyX3_ok 0 (by decide)) rfl rfl (Nat.le_of_ble_eq_true rfl) dL_first_8 (fun H2 L2 hO2 z2 o2 hS => ?_)
    refine lv_goto (tgt := 22) hx hb dL_first_11 (by decide) ?_
    refine lv_iconst (v := nI 0) hx hb dL_first_22 (by decide) ?_
    exact q_i hx hb hr hlocks dL_first_23 hS (Nat.le_of_ble_eq_true rfl) (Nat.le_of_ble_eq_true rfl) (Or.inl ⟨rfl, r1, H1, hP, kp.one z2 o2, _, hO2⟩)

abbrev rmL_last : Room := { frames := 8, cells := 2, slots := 12, locals := 133 }
theorem mL_last {l : Launch} {G : Cx} {A : Nat → Prop} (hst : l.stackTraces = false) {out : Nat} {SA : Nat → Nat} {X : Nat → List Nat} {es : List Nat} {k : Int32} {x y : Int32} (hAS : ∀ i : Nat, i < 39 → A (SA i)) (hAo : A out) (hSo : ∀ i : Nat, i < 39 → SA i ≠ out) : Met l yL_last (.codeWith yL_last cL_last 5 (some .int) [(0, 11, 14, 19), (0, 11, 18, 21)] :: GW) rmL_last (PC G A [.ref (SA 0), .int x, .int y, .ref out] (fun H => SS G SA X es k H ∧ OA G out H)) (qI A (fun r H => (r = 0 ∧ ∃ (v : Int32) (H0 : Heap), (fun r H => ∃ i j : Nat, i < 4 ∧ x = nI i ∧ j < 24 ∧ y = nI j ∧ lstR (fun k9 => k9 < (X i).length ∧ (X i).getD k9 0 = codeT.getD j 0) r ∧ SS G SA X es k H) v H0 ∧ kp (fun q => q = out) H0 H ∧ ∃ w : Value, va_at G.1 vwCl (out, .inr (7, [.long v.toInt64, w])) H) ∨ (r = 1 ∧ (NT x) ∧ SS G SA X es k H ∧ OA G out H) ∨ (r = 2 ∧ ((∃ i : Nat, i < 4 ∧ x = nI i) ∧ NS y) ∧ SS G SA X es k H ∧ OA G out H))) 2 12 (A) := by
  refine mstartH "SigntextLaw" (by decide +kernel) rfl (Nat.le_of_ble_eq_true rfl) ?_
  intro p e s m below meth c ls hx hb hr hts hown hml hlocks htab hC hA hW hl
  have hl : lv_has ls 5 [(0, .ref (SA 0)), (1, .int x), (2, .int y), (3, .ref out)] := hl
  have hK := hC.1
  have hS : va_S A s.heap s.heap [] := va_S.rf
  obtain ⟨hSS, hO⟩ := hW
  refine lv_aload_n hx hb dL_last_0 rfl (lv_at hl 3 rfl) ?_
  refine lv_aload_n hx hb dL_last_1 rfl (lv_at hl 0 rfl) ?_
  refine lv_iload_n hx hb dL_last_2 rfl (lv_at hl 1 rfl) ?_
  refine lv_iload_n hx hb dL_last_3 rfl (lv_at hl 2 rfl) ?_
  refine cI_V (A := A) (A1 := (fun q => A q ∧ q ≠ out)) (b := SA 0) (As := [.int x, .int y]) (rest := .ref out :: []) ⟨hx, hb, hml, hown, hts⟩ (mX2_last (A := (fun q => A q ∧ q ≠ out)) hst (SA := SA) (X := X) (es := es) (k := k) (fun i hi => ⟨hAS i hi, hSo i hi⟩)) (cwV 2 hts (gV tw_4_39 tw_4_40 tw_4_41 tw_1_1 tw_4_42) rfl rfl rfl (by decide +kernel) ⟨Nat.le_of_ble_eq_true rfl, Nat.le_of_ble_eq_true rfl⟩) hC hS (fun _ h => h.1) (fun q h => ⟨hA q h, fun q9 => absurd hO.lt (by rw [← q9]; exact Nat.not_lt_of_le h)⟩) (hSS.recv hK) hSS rfl rfl hl.1 (Nat.le_of_ble_eq_true rfl) ⟨Nat.le_of_ble_eq_true rfl, Nat.le_of_ble_eq_true rfl⟩ dL_last_4 (fun E ce q9 H1 L1 hX hk hS h1 h2 h3 => ?_) (fun r1 H1 L1 hP hk hS => ?_)
  · have hO := hO.kp hk (fun h => h.2 rfl)
    obtain ⟨hX, hSS⟩ := hX
    rcases hX with ⟨rfl, hc⟩ | ⟨rfl, hc⟩
    · refine vx_catch hown [] ⟨0, 11, 14, 19⟩ [⟨0, 11, 18, 21⟩] (htab.trans rfl) (fun z hz => absurd hz List.not_mem_nil) (by decide) (by decide) (hts _ tw_2_237) (hC.2.2.2.2.2.2.2.2.2.2.2.1.use xw_io) h1 h2 h3 ?_
      refine lv_astore (lv' := [(4, .ref q9), (0, .ref (SA 0)), (1, .int x), (2, .int y), (3, .ref out)]) hx hb dL_last_14 hl (by decide) rfl (fun ls hl => ?_)
      refine lv_iconst (v := nI 1) hx hb dL_last_16 (by decide) ?_
      exact q_i hx hb hr hlocks dL_last_17 hS (Nat.le_of_ble_eq_true rfl) (Nat.le_of_ble_eq_true rfl) (Or.inr (Or.inl ⟨rfl, hc, hSS, hO⟩))
    · refine vx_catch hown [⟨0, 11, 14, 19⟩] ⟨0, 11, 18, 21⟩ [] (htab.trans rfl) (List.forall_mem_cons.mpr ⟨Or.inr ⟨by decide, "java/lang/IndexOutOfBoundsException", hts _ tw_2_237, hC.2.2.2.2.2.2.2.2.2.2.2.1.2 ("java/lang/IllegalArgumentException", "java/lang/IndexOutOfBoundsException") (by decide)⟩, (fun z hz => absurd hz List.not_mem_nil)⟩) (by decide) (by decide) (hts _ tw_2_238) (hC.2.2.2.2.2.2.2.2.2.2.2.1.use xw_ia) h1 h2 h3 ?_
      refine lv_astore (lv' := [(4, .ref q9), (0, .ref (SA 0)), (1, .int x), (2, .int y), (3, .ref out)]) hx hb dL_last_18 hl (by decide) rfl (fun ls hl => ?_)
      refine lv_iconst (v := nI 2) hx hb dL_last_20 (by decide) ?_
      exact q_i hx hb hr hlocks dL_last_21 hS (Nat.le_of_ble_eq_true rfl) (Nat.le_of_ble_eq_true rfl) (Or.inr (Or.inr (⟨rfl, hc, hSS, hO⟩)))
  · obtain ⟨n9, v9, hO⟩ := hO.kp hk (fun h => h.2 rfl)
    try dsimp only at hP
    refine lv_i2l hx hb dL_last_7 rfl ?_
    refine h_putN (D := G.1) (ci := 7) (C := RX3) (T := TX3) (N := 2) hx hb hts inX3 tyX3 tyX3_ok nmX3 hown hK hO hS hAo rfl 0 (by decide) (va_Nw.use rfl hC.2.2.2.2.2.2.2.2.2.2.2.2.2.1) (fun _ h9 => h9) rfl (tyX3_ok 0 (by decide)) rfl rfl (Nat.le_of_ble_eq_true rfl) dL_last_8 (fun H2 L2 hO2 z2 o2 hS => ?_)
    refine lv_goto (tgt := 22) hx hb dL_last_11 (by decide) ?_
    refine lv_iconst (v := nI 0) hx hb dL_last_22 (by decide) ?_
    exact q_i hx hb hr hlocks dL_last_23 hS (Nat.le_of_ble_eq_true rfl) (Nat.le_of_ble_eq_true rfl) (Or.inl ⟨rfl, r1, H1, hP, kp.one z2 o2, _, hO2⟩)

abbrev rmL_next : Room := { frames := 8, cells := 3, slots := 18, locals := 134 }
theorem mL_next {l : Launch} {G : Cx} {A : Nat → Prop} (hst : l.stackTraces = false) {out : Nat} {SA : Nat → Nat} {X : Nat → List Nat} {es : List Nat} {k : Int32} {x f9 y : Int32} (hAS : ∀ i : Nat, i < 39 → A (SA i)) (hAo : A out) (hSo : ∀ i : Nat, i < 39 → SA i ≠ out) : Met l yL_next (.codeWith yL_next cL_next 6 (some .int) [(0, 13, 16, 19), (0, 13, 20, 21)] :: GW) rmL_next (PC G A [.ref (SA 0), .int x, .int f9, .int y, .ref out] (fun H => SS G SA X es k H ∧ OA G out H)) (qI A (fun r H => (r = 0 ∧ ∃ (v : Int32) (H0 : Heap), (fun r H => ∃ i a9 j : Nat, i < 4 ∧ x = nI i ∧ a9 ≤ (X i).length ∧ f9 = nI a9 ∧ j < 24 ∧ y = nI j ∧ fstR (fun k9 => a9 ≤ k9 ∧ k9 < (X i).length ∧ (X i).getD k9 0 = codeT.getD j 0) r ∧ SS G SA X es k H) v H0 ∧ kp (fun q => q = out) H0 H ∧ ∃ w : Value, va_at G.1 vwCl (out, .inr (7, [.long v.toInt64, w])) H) ∨ (r = 1 ∧ ((NT x ∨ ¬ ∃ i a9 : Nat, i < 4 ∧ x = nI i ∧ f9 = nI a9 ∧ a9 ≤ (X i).length)) ∧ SS G SA X es k H ∧ OA G out H) ∨ (r = 2 ∧ ((∃ i a9 : Nat, i < 4 ∧ x = nI i ∧ f9 = nI a9 ∧ a9 ≤ (X i).length) ∧ NS y) ∧ SS G SA X es k H ∧ OA G out H))) 3 18 (A) := by
  refine mstartH "SigntextLaw" (by decide +kernel) rfl (Nat.le_of_ble_eq_true rfl) ?_
  intro p e s m below meth c ls hx hb hr hts hown hml hlocks htab hC hA hW hl
  have hl : lv_has ls 6 [(0, .ref (SA 0)), (1, .int x), (2, .int f9), (3, .int y), (4, .ref out)] := hl
  have hK := hC.1
  have hS : va_S A s.heap s.heap [] := va_S.rf
  obtain ⟨hSS, hO⟩ := hW
  refine lv_aload hx hb dL_next_0 (lv_at hl 4 rfl) ?_
  refine lv_aload_n hx hb dL_next_2 rfl (lv_at hl 0 rfl) ?_
  refine lv_iload_n hx hb dL_next_3 rfl (lv_at hl 1 rfl) ?_
  refine lv_iload_n hx hb dL_next_4 rfl (lv_at hl 2 rfl) ?_
  refine lv_iload_n hx hb dL_next_5 rfl (lv_at hl 3 rfl) ?_
  refine cI_V (A := A) (A1 := (fun q => A q ∧ q ≠ out)) (b := SA 0) (As := [.int x, .int f9, .int y]) (rest := .ref out :: []) ⟨hx, hb, hml, hown, hts⟩ (mX2_next (A := (fun q => A q ∧ q ≠ out)) hst (SA := SA) (X := X) (es := es) (k := k) (fun i hi => ⟨hAS i hi, hSo i hi⟩)) (cwV 3 hts (gV tw_4_50 tw_4_51 tw_4_52 tw_1_1 tw_4_53) rfl rfl rfl (by decide +kernel) ⟨Nat.le_of_ble_eq_true rfl, Nat.le_of_ble_eq_true rfl⟩) hC hS (fun _ h => h.1) (fun q h => ⟨hA q h, fun q9 => absurd hO.lt (by rw [← q9]; exact Nat.not_lt_of_le h)⟩) (hSS.recv hK) hSS rfl rfl hl.1 (Nat.le_of_ble_eq_true rfl) ⟨Nat.le_of_ble_eq_true rfl, Nat.le_of_ble_eq_true rfl⟩ dL_next_6 (fun E ce q9 H1 L1 hX hk hS h1 h2 h3 => ?_) (fun r1 H1 L1 hP hk hS => ?_)
  · have hO := hO.kp hk (fun h => h.2 rfl)
    obtain ⟨hX, hSS⟩ := hX
    rcases hX with ⟨rfl, hc⟩ | ⟨rfl, hc⟩
    · refine vx_catch hown [] ⟨0, 13, 16, 19⟩ [⟨0, 13, 20, 21⟩] (htab.trans rfl) (fun z hz => absurd hz List.not_mem_nil) (by decide) (by decide) (hts _ tw_2_237) (hC.2.2.2.2.2.2.2.2.2.2.2.1.use xw_io) h1 h2 h3 ?_
      refine lv_astore (lv' := [(5, .ref q9), (0, .ref (SA 0)), (1, .int x), (2, .int f9), (3, .int y), (4, .ref out)]) hx hb dL_next_16 hl (by decide) rfl (fun ls hl => ?_)
      refine lv_iconst (v := nI 1) hx hb dL_next_18 (by decide) ?_
      exact q_i hx hb hr hlocks dL_next_19 hS (Nat.le_of_ble_eq_true rfl) (Nat.le_of_ble_eq_true rfl) (Or.inr (Or.inl ⟨rfl, hc, hSS, hO⟩))
    · refine vx_catch hown [⟨0, 13, 16, 19⟩] ⟨0, 13, 20, 21⟩ [] (htab.trans rfl) (List.forall_mem_cons.mpr ⟨Or.inr ⟨by decide, "java/lang/IndexOutOfBoundsException", hts _ tw_2_237, hC.2.2.2.2.2.2.2.2.2.2.2.1.2 ("java/lang/IllegalArgumentException", "java/lang/IndexOutOfBoundsException") (by decide)⟩, (fun z hz => absurd hz List.not_mem_nil)⟩) (by decide) (by decide) (hts _ tw_2_238) (hC.2.2.2.2.2.2.2.2.2.2.2.1.use xw_ia) h1 h2 h3 ?_
      refine lv_astore (lv' := [(5, .ref q9), (0, .ref (SA 0)), (1, .int x), (2, .int f9), (3, .int y), (4, .ref out)]) hx hb dL_next_20 hl (by decide) rfl (fun ls hl => ?_)
      refine lv_iconst (v := nI 2) hx hb dL_next_22 (by decide) ?_
      exact q_i hx hb hr hlocks dL_next_23 hS (Nat.le_of_ble_eq_true rfl) (Nat.le_of_ble_eq_true rfl) (Or.inr (Or.inr (⟨rfl, hc, hSS, hO⟩)))
  · obtain ⟨n9, v9, hO⟩ := hO.kp hk (fun h => h.2 rfl)
    try dsimp only at hP
    refine lv_i2l hx hb dL_next_9 rfl ?_
    refine h_putN (D := G.1) (ci := 7) (C := RX3) (T := TX3) (N := 2) hx hb hts inX3 tyX3 tyX3_ok nmX3 hown hK hO hS hAo rfl 0 (by decide) (va_Nw.use rfl hC.2.2.2.2.2.2.2.2.2.2.2.2.2.1) (fun _ h9 => h9) rfl (tyX3_ok 0 (by decide)) rfl rfl (Nat.le_of_ble_eq_true rfl) dL_next_10 (fun H2 L2 hO2 z2 o2 hS => ?_)
    refine lv_goto (tgt := 24) hx hb dL_next_13 (by decide) ?_
    refine lv_iconst (v := nI 0) hx hb dL_next_24 (by decide) ?_
    exact q_i hx hb hr hlocks dL_next_25 hS (Nat.le_of_ble_eq_true rfl) (Nat.le_of_ble_eq_true rfl) (Or.inl ⟨rfl, r1, H1, hP, kp.one z2 o2, _, hO2⟩)

abbrev rmL_begins : Room := { frames := 8, cells := 2, slots := 12, locals := 135 }
theorem mL_begins {l : Launch} {G : Cx} {A : Nat → Prop} (hst : l.stackTraces = false) {out : Nat} {SA : Nat → Nat} {X : Nat → List Nat} {es : List Nat} {k : Int32} {x y : Int32} {b : Bool} (hAS : ∀ i : Nat, i < 39 → A (SA i)) (hAo : A out) (hSo : ∀ i : Nat, i < 39 → SA i ≠ out) : Met l yL_begins (.codeWith yL_begins cL_begins 6 (some .int) [(0, 20, 23, 19), (0, 20, 27, 21)] :: GW) rmL_begins (PC G A [.ref (SA 0), .int x, .int y, .int (bI b), .ref out] (fun H => SS G SA X es k H ∧ OA G out H)) (qI A (fun r H => (r = 0 ∧ ∃ (v : Int32) (H0 : Heap), (fun r H => ∃ (i j : Nat) (v : Bool), i < 4 ∧ x = nI i ∧ j < 7 ∧ y = nI j ∧ (v = true ↔ if b then (knT j).length ≤ (X i).length ∧ stL false (X i) (knT j) ((X i).length - (knT j).length) else stL false (X i) (knT j) 0) ∧ r = bI v ∧ SS G SA X es k H) v H0 ∧ kp (fun q => q = out) H0 H ∧ ∃ w : Value, va_at G.1 vwCl (out, .inr (7, [.long (oz v), w])) H) ∨ (r = 1 ∧ (NT x) ∧ SS G SA X es k H ∧ OA G out H) ∨ (r = 2 ∧ ((∃ i : Nat, i < 4 ∧ x = nI i) ∧ NK y) ∧ SS G SA X es k H ∧ OA G out H))) 2 12 (A) := by
  refine mstartH "SigntextLaw" (by decide +kernel) rfl (Nat.le_of_ble_eq_true rfl) ?_
  intro p e s m below meth c ls hx hb hr hts hown hml hlocks htab hC hA hW hl
  have hl : lv_has ls 6 [(0, .ref (SA 0)), (1, .int x), (2, .int y), (3, .int (bI b)), (4, .ref out)] := hl
  have hK := hC.1
  have hS : va_S A s.heap s.heap [] := va_S.rf
  obtain ⟨hSS, hO⟩ := hW
  refine lv_aload hx hb dL_begins_0 (lv_at hl 4 rfl) ?_
  refine lv_aload_n hx hb dL_begins_2 rfl (lv_at hl 0 rfl) ?_
  refine lv_iload_n hx hb dL_begins_3 rfl (lv_at hl 1 rfl) ?_
  refine lv_iload_n hx hb dL_begins_4 rfl (lv_at hl 2 rfl) ?_
  refine lv_iload_n hx hb dL_begins_5 rfl (lv_at hl 3 rfl) ?_
  refine cI_V (A := A) (A1 := (fun q => A q ∧ q ≠ out)) (b := SA 0) (As := [.int x, .int y, .int (bI b)]) (rest := .ref out :: []) ⟨hx, hb, hml, hown, hts⟩ (mX2_begins (A := (fun q => A q ∧ q ≠ out)) hst (SA := SA) (X := X) (es := es) (k := k) (fun i hi => ⟨hAS i hi, hSo i hi⟩)) (cwV 3 hts (gV tw_4_57 tw_4_58 tw_4_59 tw_1_1 tw_4_60) rfl rfl rfl (by decide +kernel) ⟨Nat.le_of_ble_eq_true rfl, Nat.le_of_ble_eq_true rfl⟩) hC hS (fun _ h => h.1) (fun q h => ⟨hA q h, fun q9 => absurd hO.lt (by rw [← q9]; exact Nat.not_lt_of_le h)⟩) (hSS.recv hK) hSS rfl rfl hl.1 (Nat.le_of_ble_eq_true rfl) ⟨Nat.le_of_ble_eq_true rfl, Nat.le_of_ble_eq_true rfl⟩ dL_begins_6 (fun E ce q9 H1 L1 hX hk hS h1 h2 h3 => ?_) (fun r1 H1 L1 hP hk hS => ?_)
  · have hO := hO.kp hk (fun h => h.2 rfl)
    obtain ⟨hX, hSS⟩ := hX
    rcases hX with ⟨rfl, hc⟩ | ⟨rfl, hc⟩
    · refine vx_catch hown [] ⟨0, 20, 23, 19⟩ [⟨0, 20, 27, 21⟩] (htab.trans rfl) (fun z hz => absurd hz List.not_mem_nil) (by decide) (by decide) (hts _ tw_2_237) (hC.2.2.2.2.2.2.2.2.2.2.2.1.use xw_io) h1 h2 h3 ?_
      refine lv_astore (lv' := [(5, .ref q9), (0, .ref (SA 0)), (1, .int x), (2, .int y), (3, .int (bI b)), (4, .ref out)]) hx hb dL_begins_23 hl (by decide) rfl (fun ls hl => ?_)
      refine lv_iconst (v := nI 1) hx hb dL_begins_25 (by decide) ?_
      exact q_i hx hb hr hlocks dL_begins_26 hS (Nat.le_of_ble_eq_true rfl) (Nat.le_of_ble_eq_true rfl) (Or.inr (Or.inl ⟨rfl, hc, hSS, hO⟩))
    · refine vx_catch hown [⟨0, 20, 23, 19⟩] ⟨0, 20, 27, 21⟩ [] (htab.trans rfl) (List.forall_mem_cons.mpr ⟨Or.inr ⟨by decide, "java/lang/IndexOutOfBoundsException", hts _ tw_2_237, hC.2.2.2.2.2.2.2.2.2.2.2.1.2 ("java/lang/IllegalArgumentException", "java/lang/IndexOutOfBoundsException") (by decide)⟩, (fun z hz => absurd hz List.not_mem_nil)⟩) (by decide) (by decide) (hts _ tw_2_238) (hC.2.2.2.2.2.2.2.2.2.2.2.1.use xw_ia) h1 h2 h3 ?_
      refine lv_astore (lv' := [(5, .ref q9), (0, .ref (SA 0)), (1, .int x), (2, .int y), (3, .int (bI b)), (4, .ref out)]) hx hb dL_begins_27 hl (by decide) rfl (fun ls hl => ?_)
      refine lv_iconst (v := nI 2) hx hb dL_begins_29 (by decide) ?_
      exact q_i hx hb hr hlocks dL_begins_30 hS (Nat.le_of_ble_eq_true rfl) (Nat.le_of_ble_eq_true rfl) (Or.inr (Or.inr (⟨rfl, hc, hSS, hO⟩)))
  · obtain ⟨n9, v9, hO⟩ := hO.kp hk (fun h => h.2 rfl)
    try dsimp only at hP
    refine lv_if_eq (tgt := 16) hx hb dL_begins_9 (by decide) (fun c_3 => ?_) (fun c_3 => ?_)
    · refine lv_lconst (v := 0) hx hb dL_begins_16 (by decide) ?_
      refine h_putN (D := G.1) (ci := 7) (C := RX3) (T := TX3) (N := 2) hx hb hts inX3 tyX3 tyX3_ok nmX3 hown hK hO hS hAo rfl 0 (by decide) (va_Nw.use rfl hC.2.2.2.2.2.2.2.2.2.2.2.2.2.1) (fun _ h9 => h9) rfl (tyX3_ok 0 (by decide)) rfl rfl (Nat.le_of_ble_eq_true rfl) dL_begins_17 (fun H2 L2 hO2 z2 o2 hS => ?_)
      refine lv_goto (tgt := 31) hx hb dL_begins_20 (by decide) ?_
      refine lv_iconst (v := nI 0) hx hb dL_begins_31 (by decide) ?_
      exact q_i hx hb hr hlocks dL_begins_32 hS (Nat.le_of_ble_eq_true rfl) (Nat.le_of_ble_eq_true rfl) (Or.inl ⟨rfl, r1, H1, hP, kp.one z2 o2, _, by rw [show oz r1 = 0 from if_pos c_3]; exact hO2⟩)
    · refine lv_lconst (v := 1) hx hb dL_begins_12 (by decide) ?_
      refine lv_goto (tgt := 17) hx hb dL_begins_13 (by decide) ?_
      refine h_putN (D := G.1) (ci := 7) (C := RX3) (T := TX3) (N := 2) hx hb hts inX3 tyX3 tyX3_ok nmX3 hown hK hO hS hAo rfl 0 (by decide) (va_Nw.use rfl hC.2.2.2.2.2.2.2.2.2.2.2.2.2.1) (fun _ h9 => h9) rfl (tyX3_ok 0 (by decide)) rfl rfl (Nat.le_of_ble_eq_true rfl) dL_begins_17 (fun H2 L2 hO2 z2 o2 hS => ?_)
      refine lv_goto (tgt := 31) hx hb dL_begins_20 (by decide) ?_
      refine lv_iconst (v := nI 0) hx hb dL_begins_31 (by decide) ?_
      exact q_i hx hb hr hlocks dL_begins_32 hS (Nat.le_of_ble_eq_true rfl) (Nat.le_of_ble_eq_true rfl) (Or.inl ⟨rfl, r1, H1, hP, kp.one z2 o2, _, by rw [show oz r1 = 1 from if_neg c_3]; exact hO2⟩)

abbrev rmL_stands : Room := { frames := 8, cells := 2, slots := 12, locals := 135 }
theorem mL_stands {l : Launch} {G : Cx} {A : Nat → Prop} (hst : l.stackTraces = false) {out : Nat} {SA : Nat → Nat} {X : Nat → List Nat} {es : List Nat} {k : Int32} {x p9 y : Int32} {b : Bool} (hAS : ∀ i : Nat, i < 39 → A (SA i)) (hAo : A out) (hSo : ∀ i : Nat, i < 39 → SA i ≠ out) : Met l yL_stands (.codeWith yL_stands cL_stands 7 (some .int) [(0, 22, 25, 19), (0, 22, 29, 21)] :: GW) rmL_stands (PC G A [.ref (SA 0), .int x, .int p9, .int y, .int (bI b), .ref out] (fun H => SS G SA X es k H ∧ OA G out H)) (qI A (fun r H => (r = 0 ∧ ∃ (v : Int32) (H0 : Heap), (fun r H => ∃ (i j : Nat) (v : Bool), i < 4 ∧ x = nI i ∧ j < 7 ∧ y = nI j ∧ (v = true ↔ ∃ a9 : Nat, a9 < 2 ^ 31 ∧ p9 = nI a9 ∧ stL b (X i) (knT j) a9) ∧ r = bI v ∧ SS G SA X es k H) v H0 ∧ kp (fun q => q = out) H0 H ∧ ∃ w : Value, va_at G.1 vwCl (out, .inr (7, [.long (oz v), w])) H) ∨ (r = 1 ∧ (NT x) ∧ SS G SA X es k H ∧ OA G out H) ∨ (r = 2 ∧ ((∃ i : Nat, i < 4 ∧ x = nI i) ∧ NK y) ∧ SS G SA X es k H ∧ OA G out H))) 2 12 (A) := by
  refine mstartH "SigntextLaw" (by decide +kernel) rfl (Nat.le_of_ble_eq_true rfl) ?_
  intro p e s m below meth c ls hx hb hr hts hown hml hlocks htab hC hA hW hl
  have hl : lv_has ls 7 [(0, .ref (SA 0)), (1, .int x), (2, .int p9), (3, .int y), (4, .int (bI b)), (5, .ref out)] := hl
  have hK := hC.1
  have hS : va_S A s.heap s.heap [] := va_S.rf
  obtain ⟨hSS, hO⟩ := hW
  refine lv_aload hx hb dL_stands_0 (lv_at hl 5 rfl) ?_
  refine lv_aload_n hx hb dL_stands_2 rfl (lv_at hl 0 rfl) ?_
  refine lv_iload_n hx hb dL_stands_3 rfl (lv_at hl 1 rfl) ?_
  refine lv_iload_n hx hb dL_stands_4 rfl (lv_at hl 2 rfl) ?_
  refine lv_iload_n hx hb dL_stands_5 rfl (lv_at hl 3 rfl) ?_
  refine lv_iload hx hb dL_stands_6 (lv_at hl 4 rfl) ?_
  refine cI_V (A := A) (A1 := (fun q => A q ∧ q ≠ out)) (b := SA 0) (As := [.int x, .int p9, .int y, .int (bI b)]) (rest := .ref out :: []) ⟨hx, hb, hml, hown, hts⟩ (mX2_stands (A := (fun q => A q ∧ q ≠ out)) hst (SA := SA) (X := X) (es := es) (k := k) (fun i hi => ⟨hAS i hi, hSo i hi⟩)) (cwV 4 hts (gV tw_4_64 tw_4_65 tw_4_66 tw_1_1 tw_4_67) rfl rfl rfl (by decide +kernel) ⟨Nat.le_of_ble_eq_true rfl, Nat.le_of_ble_eq_true rfl⟩) hC hS (fun _ h => h.1) (fun q h => ⟨hA q h, fun q9 => absurd hO.lt (by rw [← q9]; exact Nat.not_lt_of_le h)⟩) (hSS.recv hK) hSS rfl rfl hl.1 (Nat.le_of_ble_eq_true rfl) ⟨Nat.le_of_ble_eq_true rfl, Nat.le_of_ble_eq_true rfl⟩ dL_stands_8 (fun E ce q9 H1 L1 hX hk hS h1 h2 h3 => ?_) (fun r1 H1 L1 hP hk hS => ?_)
  · have hO := hO.kp hk (fun h => h.2 rfl)
    obtain ⟨hX, hSS⟩ := hX
    rcases hX with ⟨rfl, hc⟩ | ⟨rfl, hc⟩
    · refine vx_catch hown [] ⟨0, 22, 25, 19⟩ [⟨0, 22, 29, 21⟩] (htab.trans rfl) (fun z hz => absurd hz List.not_mem_nil) (by decide) (by decide) (hts _ tw_2_237) (hC.2.2.2.2.2.2.2.2.2.2.2.1.use xw_io) h1 h2 h3 ?_
      refine lv_astore (lv' := [(6, .ref q9), (0, .ref (SA 0)), (1, .int x), (2, .int p9), (3, .int y), (4, .int (bI b)), (5, .ref out)]) hx hb dL_stands_25 hl (by decide) rfl (fun ls hl => ?_)
      refine lv_iconst (v := nI 1) hx hb dL_stands_27 (by decide) ?_
      exact q_i hx hb hr hlocks dL_stands_28 hS (Nat.le_of_ble_eq_true rfl) (Nat.le_of_ble_eq_true rfl) (Or.inr (Or.inl ⟨rfl, hc, hSS, hO⟩))
    · refine vx_catch hown [⟨0, 22, 25, 19⟩] ⟨0, 22, 29, 21⟩ [] (htab.trans rfl) (List.forall_mem_cons.mpr ⟨Or.inr ⟨by decide, "java/lang/IndexOutOfBoundsException", hts _ tw_2_237, hC.2.2.2.2.2.2.2.2.2.2.2.1.2 ("java/lang/IllegalArgumentException", "java/lang/IndexOutOfBoundsException") (by decide)⟩, (fun z hz => absurd hz List.not_mem_nil)⟩) (by decide) (by decide) (hts _ tw_2_238) (hC.2.2.2.2.2.2.2.2.2.2.2.1.use xw_ia) h1 h2 h3 ?_
      refine lv_astore (lv' := [(6, .ref q9), (0, .ref (SA 0)), (1, .int x), (2, .int p9), (3, .int y), (4, .int (bI b)), (5, .ref out)]) hx hb dL_stands_29 hl (by decide) rfl (fun ls hl => ?_)
      refine lv_iconst (v := nI 2) hx hb dL_stands_31 (by decide) ?_
      exact q_i hx hb hr hlocks dL_stands_32 hS (Nat.le_of_ble_eq_true rfl) (Nat.le_of_ble_eq_true rfl) (Or.inr (Or.inr (⟨rfl, hc, hSS, hO⟩)))
  · obtain ⟨n9, v9, hO⟩ := hO.kp hk (fun h => h.2 rfl)
    try dsimp only at hP
    refine lv_if_eq (tgt := 18) hx hb dL_stands_11 (by decide) (fun c_4 => ?_) (fun c_4 => ?_)
    · refine lv_lconst (v := 0) hx hb dL_stands_18 (by decide) ?_
      refine h_putN (D := G.1) (ci := 7) (C := RX3) (T := TX3) (N := 2) hx hb hts inX3 tyX3 tyX3_ok nmX3 hown hK hO hS hAo rfl 0 (by decide) (va_Nw.use rfl hC.2.2.2.2.2.2.2.2.2.2.2.2.2.1) (fun _ h9 => h9) rfl (tyX3_ok 0 (by decide)) rfl rfl (Nat.le_of_ble_eq_true rfl) dL_stands_19 (fun H2 L2 hO2 z2 o2 hS => ?_)
      refine lv_goto (tgt := 33) hx hb dL_stands_22 (by decide) ?_
      refine lv_iconst (v := nI 0) hx hb dL_stands_33 (by decide) ?_
      exact q_i hx hb hr hlocks dL_stands_34 hS (Nat.le_of_ble_eq_true rfl) (Nat.le_of_ble_eq_true rfl) (Or.inl ⟨rfl, r1, H1, hP, kp.one z2 o2, _, by rw [show oz r1 = 0 from if_pos c_4]; exact hO2⟩)
    · refine lv_lconst (v := 1) hx hb dL_stands_14 (by decide) ?_
      refine lv_goto (tgt := 19) hx hb dL_stands_15 (by decide) ?_
      refine h_putN (D := G.1) (ci := 7) (C := RX3) (T := TX3) (N := 2) hx hb hts inX3 tyX3 tyX3_ok nmX3 hown hK hO hS hAo rfl 0 (by decide) (va_Nw.use rfl hC.2.2.2.2.2.2.2.2.2.2.2.2.2.1) (fun _ h9 => h9) rfl (tyX3_ok 0 (by decide)) rfl rfl (Nat.le_of_ble_eq_true rfl) dL_stands_19 (fun H2 L2 hO2 z2 o2 hS => ?_)
      refine lv_goto (tgt := 33) hx hb dL_stands_22 (by decide) ?_
      refine lv_iconst (v := nI 0) hx hb dL_stands_33 (by decide) ?_
      exact q_i hx hb hr hlocks dL_stands_34 hS (Nat.le_of_ble_eq_true rfl) (Nat.le_of_ble_eq_true rfl) (Or.inl ⟨rfl, r1, H1, hP, kp.one z2 o2, _, by rw [show oz r1 = 1 from if_neg c_4]; exact hO2⟩)

abbrev rmL_firstOf : Room := { frames := 8, cells := 2, slots := 12, locals := 132 }
theorem mL_firstOf {l : Launch} {G : Cx} {A : Nat → Prop} (hst : l.stackTraces = false) {out : Nat} {SA : Nat → Nat} {X : Nat → List Nat} {es : List Nat} {k : Int32} {x y : Int32} (hAS : ∀ i : Nat, i < 39 → A (SA i)) (hAo : A out) (hSo : ∀ i : Nat, i < 39 → SA i ≠ out) : Met l yL_firstOf (.codeWith yL_firstOf cL_firstOf 5 (some .int) [(0, 11, 14, 19)] :: GW) rmL_firstOf (PC G A [.ref (SA 0), .int x, .int y, .ref out] (fun H => SS G SA X es k H ∧ OA G out H)) (qI A (fun r H => (r = 0 ∧ ∃ (v : Int32) (H0 : Heap), (fun r H => ∃ i j : Nat, i < 4 ∧ x = nI i ∧ j < 4 ∧ y = nI j ∧ fstR (fun k9 => stL false (X i) (X j) k9) r ∧ SS G SA X es k H) v H0 ∧ kp (fun q => q = out) H0 H ∧ ∃ w : Value, va_at G.1 vwCl (out, .inr (7, [.long v.toInt64, w])) H) ∨ (r = 1 ∧ ((NT x ∨ NT y)) ∧ SS G SA X es k H ∧ OA G out H))) 2 12 (A) := by
  refine mstartH "SigntextLaw" (by decide +kernel) rfl (Nat.le_of_ble_eq_true rfl) ?_
  intro p e s m below meth c ls hx hb hr hts hown hml hlocks htab hC hA hW hl
  have hl : lv_has ls 5 [(0, .ref (SA 0)), (1, .int x), (2, .int y), (3, .ref out)] := hl
  have hK := hC.1
  have hS : va_S A s.heap s.heap [] := va_S.rf
  obtain ⟨hSS, hO⟩ := hW
  refine lv_aload_n hx hb dL_firstOf_0 rfl (lv_at hl 3 rfl) ?_
  refine lv_aload_n hx hb dL_firstOf_1 rfl (lv_at hl 0 rfl) ?_
  refine lv_iload_n hx hb dL_firstOf_2 rfl (lv_at hl 1 rfl) ?_
  refine lv_iload_n hx hb dL_firstOf_3 rfl (lv_at hl 2 rfl) ?_
  refine cI_V (A := A) (A1 := (fun q => A q ∧ q ≠ out)) (b := SA 0) (As := [.int x, .int y]) (rest := .ref out :: []) ⟨hx, hb, hml, hown, hts⟩ (mX2_firstOf (A := (fun q => A q ∧ q ≠ out)) hst (SA := SA) (X := X) (es := es) (k := k) (fun i hi => ⟨hAS i hi, hSo i hi⟩)) (cwV 2 hts (gV tw_4_71 tw_4_72 tw_4_73 tw_1_1 tw_4_74) rfl rfl rfl (by decide +kernel) ⟨Nat.le_of_ble_eq_true rfl, Nat.le_of_ble_eq_true rfl⟩) hC hS (fun _ h => h.1) (fun q h => ⟨hA q h, fun q9 => absurd hO.lt (by rw [← q9]; exact Nat.not_lt_of_le h)⟩) (hSS.recv hK) hSS rfl rfl hl.1 (Nat.le_of_ble_eq_true rfl) ⟨Nat.le_of_ble_eq_true rfl, Nat.le_of_ble_eq_true rfl⟩ dL_firstOf_4 (fun E ce q9 H1 L1 hX hk hS h1 h2 h3 => ?_) (fun r1 H1 L1 hP hk hS => ?_)
  · have hO := hO.kp hk (fun h => h.2 rfl)
    obtain ⟨hX, hSS⟩ := hX
    obtain ⟨rfl, hc⟩ := hX
    refine vx_catch hown [] ⟨0, 11, 14, 19⟩ [] (htab.trans rfl) (fun z hz => absurd hz List.not_mem_nil) (by decide) (by decide) (hts _ tw_2_237) (hC.2.2.2.2.2.2.2.2.2.2.2.1.use xw_io) h1 h2 h3 ?_
    refine lv_astore (lv' := [(4, .ref q9), (0, .ref (SA 0)), (1, .int x), (2, .int y), (3, .ref out)]) hx hb dL_firstOf_14 hl (by decide) rfl (fun ls hl => ?_)
    refine lv_iconst (v := nI 1) hx hb dL_firstOf_16 (by decide) ?_
    exact q_i hx hb hr hlocks dL_firstOf_17 hS (Nat.le_of_ble_eq_true rfl) (Nat.le_of_ble_eq_true rfl) (Or.inr (⟨rfl, hc, hSS, hO⟩))
  · obtain ⟨n9, v9, hO⟩ := hO.kp hk (fun h => h.2 rfl)
    try dsimp only at hP
    refine lv_i2l hx hb dL_firstOf_7 rfl ?_
    refine h_putN (D := G.1) (ci := 7) (C := RX3) (T := TX3) (N := 2) hx hb hts inX3 tyX3 tyX3_ok nmX3 hown hK hO hS hAo rfl 0 (by decide) (va_Nw.use rfl hC.2.2.2.2.2.2.2.2.2.2.2.2.2.1) (fun _ h9 => h9) rfl (tyX3_ok 0 (by decide)) rfl rfl (Nat.le_of_ble_eq_true rfl) dL_firstOf_8 (fun H2 L2 hO2 z2 o2 hS => ?_)
    refine lv_goto (tgt := 18) hx hb dL_firstOf_11 (by decide) ?_
    refine lv_iconst (v := nI 0) hx hb dL_firstOf_18 (by decide) ?_
    exact q_i hx hb hr hlocks dL_firstOf_19 hS (Nat.le_of_ble_eq_true rfl) (Nat.le_of_ble_eq_true rfl) (Or.inl ⟨rfl, r1, H1, hP, kp.one z2 o2, _, hO2⟩)

abbrev rmL_lastOf : Room := { frames := 8, cells := 2, slots := 12, locals := 132 }
theorem mL_lastOf {l : Launch} {G : Cx} {A : Nat → Prop} (hst : l.stackTraces = false) {out : Nat} {SA : Nat → Nat} {X : Nat → List Nat} {es : List Nat} {k : Int32} {x y : Int32} (hAS : ∀ i : Nat, i < 39 → A (SA i)) (hAo : A out) (hSo : ∀ i : Nat, i < 39 → SA i ≠ out) : Met l yL_lastOf (.codeWith yL_lastOf cL_lastOf 5 (some .int) [(0, 11, 14, 19)] :: GW) rmL_lastOf (PC G A [.ref (SA 0), .int x, .int y, .ref out] (fun H => SS G SA X es k H ∧ OA G out H)) (qI A (fun r H => (r = 0 ∧ ∃ (v : Int32) (H0 : Heap), (fun r H => ∃ i j : Nat, i < 4 ∧ x = nI i ∧ j < 4 ∧ y = nI j ∧ lstR (fun k9 => stL false (X i) (X j) k9) r ∧ SS G SA X es k H) v H0 ∧ kp (fun q => q = out) H0 H ∧ ∃ w : Value, va_at G.1 vwCl (out, .inr (7, [.long v.toInt64, w])) H) ∨ (r = 1 ∧ ((NT x ∨ NT y)) ∧ SS G SA X es k H ∧ OA G out H))) 2 12 (A) := by
  refine mstartH "SigntextLaw" (by decide +kernel) rfl (Nat.le_of_ble_eq_true rfl) ?_
  intro p e s m below meth c ls hx hb hr hts hown hml hlocks htab hC hA hW hl
  have hl : lv_has ls 5 [(0, .ref (SA 0)), (1, .int x), (2, .int y), (3, .ref out)] := hl
  have hK := hC.1
  have hS : va_S A s.heap s.heap [] := va_S.rf
  obtain ⟨hSS, hO⟩ := hW
  refine lv_aload_n hx hb dL_lastOf_0 rfl (lv_at hl 3 rfl) ?_
  refine lv_aload_n hx hb dL_lastOf_1 rfl (lv_at hl 0 rfl) ?_
  refine lv_iload_n hx hb dL_lastOf_2 rfl (lv_at hl 1 rfl) ?_
  refine lv_iload_n hx hb dL_lastOf_3 rfl (lv_at hl 2 rfl) ?_
  refine cI_V (A := A) (A1 := (fun q => A q ∧ q ≠ out)) (b := SA 0) (As := [.int x, .int y]) (rest := .ref out :: []) ⟨hx, hb, hml, hown, hts⟩ (mX2_lastOf (A := (fun q => A q ∧ q ≠ out)) hst (SA := SA) (X := X) (es := es) (k := k) (fun i hi => ⟨hAS i hi, hSo i hi⟩)) (cwV 2 hts (gV tw_4_78 tw_4_79 tw_4_80 tw_1_1 tw_4_81) rfl rfl rfl (by decide +kernel) ⟨Nat.le_of_ble_eq_true rfl, Nat.le_of_ble_eq_true rfl⟩) hC hS (fun _ h => h.1) (fun q h => ⟨hA q h, fun q9 => absurd hO.lt (by rw [← q9]; exact Nat.not_lt_of_le h)⟩) (hSS.recv hK) hSS rfl rfl hl.1 (Nat.le_of_ble_eq_true rfl) ⟨Nat.le_of_ble_eq_true rfl, Nat.le_of_ble_eq_true rfl⟩ dL_lastOf_4 (fun E ce q9 H1 L1 hX hk hS h1 h2 h3 => ?_) (fun r1 H1 L1 hP hk hS => ?_)
  · have hO := hO.kp hk (fun h => h.2 rfl)
    obtain ⟨hX, hSS⟩ := hX
    obtain ⟨rfl, hc⟩ := hX
    refine vx_catch hown [] ⟨0, 11, 14, 19⟩ [] (htab.trans rfl) (fun z hz => absurd hz List.not_mem_nil) (by decide) (by decide) (hts _ tw_2_237) (hC.2.2.2.2.2.2.2.2.2.2.2.1.use xw_io) h1 h2 h3 ?_
    refine lv_astore (lv' := [(4, .ref q9), (0, .ref (SA 0)), (1, .int x), (2, .int y), (3, .ref out)]) hx hb dL_lastOf_14 hl (by decide) rfl (fun ls hl => ?_)
    refine lv_iconst (v := nI 1) hx hb dL_lastOf_16 (by decide) ?_
    exact q_i hx hb hr hlocks dL_lastOf_17 hS (Nat.le_of_ble_eq_true rfl) (Nat.le_of_ble_eq_true rfl) (Or.inr (⟨rfl, hc, hSS, hO⟩))
  · obtain ⟨n9, v9, hO⟩ := hO.kp hk (fun h => h.2 rfl)
    try dsimp only at hP
    refine lv_i2l hx hb dL_lastOf_7 rfl ?_
    refine h_putN (D := G.1) (ci := 7) (C := RX3) (T := TX3) (N := 2) hx hb hts inX3 tyX3 tyX3_ok nmX3 hown hK hO hS hAo rfl 0 (by decide) (va_Nw.use rfl hC.2.2.2.2.2.2.2.2.2.2.2.2.2.1) (fun _ h9 => h9) rfl (tyX3_ok 0 (by decide)) rfl rfl (Nat.le_of_ble_eq_true rfl) dL_lastOf_8 (fun H2 L2 hO2 z2 o2 hS => ?_)
    refine lv_goto (tgt := 18) hx hb dL_lastOf_11 (by decide) ?_
    refine lv_iconst (v := nI 0) hx hb dL_lastOf_18 (by decide) ?_
    exact q_i hx hb hr hlocks dL_lastOf_19 hS (Nat.le_of_ble_eq_true rfl) (Nat.le_of_ble_eq_true rfl) (Or.inl ⟨rfl, r1, H1, hP, kp.one z2 o2, _, hO2⟩)

abbrev rmL_isIn : Room := { frames := 8, cells := 2, slots := 12, locals := 132 }
theorem mL_isIn {l : Launch} {G : Cx} {A : Nat → Prop} (hst : l.stackTraces = false) {out : Nat} {SA : Nat → Nat} {X : Nat → List Nat} {es : List Nat} {k : Int32} {x y : Int32} (hAS : ∀ i : Nat, i < 39 → A (SA i)) (hAo : A out) (hSo : ∀ i : Nat, i < 39 → SA i ≠ out) : Met l yL_isIn (.codeWith yL_isIn cL_isIn 5 (some .int) [(0, 18, 21, 19)] :: GW) rmL_isIn (PC G A [.ref (SA 0), .int x, .int y, .ref out] (fun H => SS G SA X es k H ∧ OA G out H)) (qI A (fun r H => (r = 0 ∧ ∃ (v : Int32) (H0 : Heap), (fun r H => ∃ i j : Nat, i < 4 ∧ x = nI i ∧ j < 4 ∧ y = nI j ∧ (∃ v : Bool, (v = true ↔ ∃ k9, stL false (X i) (X j) k9) ∧ r = bI v) ∧ SS G SA X es k H) v H0 ∧ kp (fun q => q = out) H0 H ∧ ∃ w : Value, va_at G.1 vwCl (out, .inr (7, [.long (oz v), w])) H) ∨ (r = 1 ∧ ((NT x ∨ NT y)) ∧ SS G SA X es k H ∧ OA G out H))) 2 12 (A) := by
  refine mstartH "SigntextLaw" (by decide +kernel) rfl (Nat.le_of_ble_eq_true rfl) ?_
  intro p e s m below meth c ls hx hb hr hts hown hml hlocks htab hC hA hW hl
  have hl : lv_has ls 5 [(0, .ref (SA 0)), (1, .int x), (2, .int y), (3, .ref out)] := hl
  have hK := hC.1
  have hS : va_S A s.heap s.heap [] := va_S.rf
  obtain ⟨hSS, hO⟩ := hW
  refine lv_aload_n hx hb dL_isIn_0 rfl (lv_at hl 3 rfl) ?_
  refine lv_aload_n hx hb dL_isIn_1 rfl (lv_at hl 0 rfl) ?_
  refine lv_iload_n hx hb dL_isIn_2 rfl (lv_at hl 1 rfl) ?_
  refine lv_iload_n hx hb dL_isIn_3 rfl (lv_at hl 2 rfl) ?_
  refine cI_V (A := A) (A1 := (fun q => A q ∧ q ≠ out)) (b := SA 0) (As := [.int x, .int y]) (rest := .ref out :: []) ⟨hx, hb, hml, hown, hts⟩ (mX2_isIn (A := (fun q => A q ∧ q ≠ out)) hst (SA := SA) (X := X) (es := es) (k := k) (fun i hi => ⟨hAS i hi, hSo i hi⟩)) (cwV 2 hts (gV tw_4_85 tw_4_86 tw_4_87 tw_1_1 tw_4_88) rfl rfl rfl (by decide +kernel) ⟨Nat.le_of_ble_eq_true rfl, Nat.le_of_ble_eq_true rfl⟩) hC hS (fun _ h => h.1) (fun q h => ⟨hA q h, fun q9 => absurd hO.lt (by rw [← q9]; exact Nat.not_lt_of_le h)⟩) (hSS.recv hK) hSS rfl rfl hl.1 (Nat.le_of_ble_eq_true rfl) ⟨Nat.le_of_ble_eq_true rfl, Nat.le_of_ble_eq_true rfl⟩ dL_isIn_4 (fun E ce q9 H1 L1 hX hk hS h1 h2 h3 => ?_) (fun r1 H1 L1 hP hk hS => ?_)
  · have hO := hO.kp hk (fun h => h.2 rfl)
    obtain ⟨hX, hSS⟩ := hX
    obtain ⟨rfl, hc⟩ := hX
    refine vx_catch hown [] ⟨0, 18, 21, 19⟩ [] (htab.trans rfl) (fun z hz => absurd hz List.not_mem_nil) (by decide) (by decide) (hts _ tw_2_237) (hC.2.2.2.2.2.2.2.2.2.2.2.1.use xw_io) h1 h2 h3 ?_
    refine lv_astore (lv' := [(4, .ref q9), (0, .ref (SA 0)), (1, .int x), (2, .int y), (3, .ref out)]) hx hb dL_isIn_21 hl (by decide) rfl (fun ls hl => ?_)
    refine lv_iconst (v := nI 1) hx hb dL_isIn_23 (by decide) ?_
    exact q_i hx hb hr hlocks dL_isIn_24 hS (Nat.le_of_ble_eq_true rfl) (Nat.le_of_ble_eq_true rfl) (Or.inr (⟨rfl, hc, hSS, hO⟩))
  · obtain ⟨n9, v9, hO⟩ := hO.kp hk (fun h => h.2 rfl)
    try dsimp only at hP
    refine lv_if_eq (tgt := 14) hx hb dL_isIn_7 (by decide) (fun c_5 => ?_) (fun c_5 => ?_)
    · refine lv_lconst (v := 0) hx hb dL_isIn_14 (by decide) ?_
      refine h_putN (D := G.1) (ci := 7) (C := RX3) (T := TX3) (N := 2) hx hb hts inX3 tyX3 tyX3_ok nmX3 hown hK hO hS hAo rfl 0 (by decide) (va_Nw.use rfl hC.2.2.2.2.2.2.2.2.2.2.2.2.2.1) (fun _ h9 => h9) rfl (tyX3_ok 0 (by decide)) rfl rfl (Nat.le_of_ble_eq_true rfl) dL_isIn_15 (fun H2 L2 hO2 z2 o2 hS => ?_)
      refine lv_goto (tgt := 25) hx hb dL_isIn_18 (by decide) ?_
      refine lv_iconst (v := nI 0) hx hb dL_isIn_25 (by decide) ?_
      exact q_i hx hb hr hlocks dL_isIn_26 hS (Nat.le_of_ble_eq_true rfl) (Nat.le_of_ble_eq_true rfl) (Or.inl ⟨rfl, r1, H1, hP, kp.one z2 o2, _, by rw [show oz r1 = 0 from if_pos c_5]; exact hO2⟩)
    · refine lv_lconst (v := 1) hx hb dL_isIn_10 (by decide) ?_
      refine lv_goto (tgt := 15) hx hb dL_isIn_11 (by decide) ?_
      refine h_putN (D := G.1) (ci := 7) (C := RX3) (T := TX3) (N := 2) hx hb hts inX3 tyX3 tyX3_ok nmX3 hown hK hO hS hAo rfl 0 (by decide) (va_Nw.use rfl hC.2.2.2.2.2.2.2.2.2.2.2.2.2.1) (fun _ h9 => h9) rfl (tyX3_ok 0 (by decide)) rfl rfl (Nat.le_of_ble_eq_true rfl) dL_isIn_15 (fun H2 L2 hO2 z2 o2 hS => ?_)
      refine lv_goto (tgt := 25) hx hb dL_isIn_18 (by decide) ?_
      refine lv_iconst (v := nI 0) hx hb dL_isIn_25 (by decide) ?_
      exact q_i hx hb hr hlocks dL_isIn_26 hS (Nat.le_of_ble_eq_true rfl) (Nat.le_of_ble_eq_true rfl) (Or.inl ⟨rfl, r1, H1, hP, kp.one z2 o2, _, by rw [show oz r1 = 1 from if_neg c_5]; exact hO2⟩)

abbrev rmL_isSame : Room := { frames := 8, cells := 2, slots := 12, locals := 133 }
theorem mL_isSame {l : Launch} {G : Cx} {A : Nat → Prop} (hst : l.stackTraces = false) {out : Nat} {SA : Nat → Nat} {X : Nat → List Nat} {es : List Nat} {k : Int32} {x y : Int32} {b : Bool} (hAS : ∀ i : Nat, i < 39 → A (SA i)) (hAo : A out) (hSo : ∀ i : Nat, i < 39 → SA i ≠ out) : Met l yL_isSame (.codeWith yL_isSame cL_isSame 6 (some .int) [(0, 20, 23, 19)] :: GW) rmL_isSame (PC G A [.ref (SA 0), .int x, .int y, .int (bI b), .ref out] (fun H => SS G SA X es k H ∧ OA G out H)) (qI A (fun r H => (r = 0 ∧ ∃ (v : Int32) (H0 : Heap), (fun r H => ∃ i j : Nat, i < 4 ∧ x = nI i ∧ j < 4 ∧ y = nI j ∧ (∃ v : Bool, (v = true ↔ (X i).length = (X j).length ∧ stL b (X i) (X j) 0) ∧ r = bI v) ∧ SS G SA X es k H) v H0 ∧ kp (fun q => q = out) H0 H ∧ ∃ w : Value, va_at G.1 vwCl (out, .inr (7, [.long (oz v), w])) H) ∨ (r = 1 ∧ ((NT x ∨ NT y)) ∧ SS G SA X es k H ∧ OA G out H))) 2 12 (A) := by
  refine mstartH "SigntextLaw" (by decide +kernel) rfl (Nat.le_of_ble_eq_true rfl) ?_
  intro p e s m below meth c ls hx hb hr hts hown hml hlocks htab hC hA hW hl
  have hl : lv_has ls 6 [(0, .ref (SA 0)), (1, .int x), (2, .int y), (3, .int (bI b)), (4, .ref out)] := hl
  have hK := hC.1
  have hS : va_S A s.heap s.heap [] := va_S.rf
  obtain ⟨hSS, hO⟩ := hW
  refine lv_aload hx hb dL_isSame_0 (lv_at hl 4 rfl) ?_
  refine lv_aload_n hx hb dL_isSame_2 rfl (lv_at hl 0 rfl) ?_
  refine lv_iload_n hx hb dL_isSame_3 rfl (lv_at hl 1 rfl) ?_
  refine lv_iload_n hx hb dL_isSame_4 rfl (lv_at hl 2 rfl) ?_
  refine lv_iload_n hx hb dL_isSame_5 rfl (lv_at hl 3 rfl) ?_
  refine cI_V (A := A) (A1 := (fun q => A q ∧ q ≠ out)) (b := SA 0) (As := [.int x, .int y, .int (bI b)]) (rest := .ref out :: []) ⟨hx, hb, hml, hown, hts⟩ (mX2_isSame (A := (fun q => A q ∧ q ≠ out)) hst (SA := SA) (X := X) (es := es) (k := k) (fun i hi => ⟨hAS i hi, hSo i hi⟩)) (cwV 3 hts (gV tw_4_92 tw_4_93 tw_4_94 tw_1_1 tw_4_95) rfl rfl rfl (by decide +kernel) ⟨Nat.le_of_ble_eq_true rfl, Nat.le_of_ble_eq_true rfl⟩) hC hS (fun _ h => h.1) (fun q h => ⟨hA q h, fun q9 => absurd hO.lt (by rw [← q9]; exact Nat.not_lt_of_le h)⟩) (hSS.recv hK) hSS rfl rfl hl.1 (Nat.le_of_ble_eq_true rfl) ⟨Nat.le_of_ble_eq_true rfl, Nat.le_of_ble_eq_true rfl⟩ dL_isSame_6 (fun E ce q9 H1 L1 hX hk hS h1 h2 h3 => ?_) (fun r1 H1 L1 hP hk hS => ?_)
  · have hO := hO.kp hk (fun h => h.2 rfl)
    obtain ⟨hX, hSS⟩ := hX
    obtain ⟨rfl, hc⟩ := hX
    refine vx_catch hown [] ⟨0, 20, 23, 19⟩ [] (htab.trans rfl) (fun z hz => absurd hz List.not_mem_nil) (by decide) (by decide) (hts _ tw_2_237) (hC.2.2.2.2.2.2.2.2.2.2.2.1.use xw_io) h1 h2 h3 ?_
    refine lv_astore (lv' := [(5, .ref q9), (0, .ref (SA 0)), (1, .int x), (2, .int y), (3, .int (bI b)), (4, .ref out)]) hx hb dL_isSame_23 hl (by decide) rfl (fun ls hl => ?_)
    refine lv_iconst (v := nI 1) hx hb dL_isSame_25 (by decide) ?_
    exact q_i hx hb hr hlocks dL_isSame_26 hS (Nat.le_of_ble_eq_true rfl) (Nat.le_of_ble_eq_true rfl) (Or.inr (⟨rfl, hc, hSS, hO⟩))
  · obtain ⟨n9, v9, hO⟩ := hO.kp hk (fun h => h.2 rfl)
    try dsimp only at hP
    refine lv_if_eq (tgt := 16) hx hb dL_isSame_9 (by decide) (fun c_6 => ?_) (fun c_6 => ?_)
    · refine lv_lconst (v := 0) hx hb dL_isSame_16 (by decide) ?_
      refine h_putN (D := G.1) (ci := 7) (C := RX3) (T := TX3) (N := 2) hx hb hts inX3 tyX3 tyX3_ok nmX3 hown hK hO hS hAo rfl 0 (by decide) (va_Nw.use rfl hC.2.2.2.2.2.2.2.2.2.2.2.2.2.1) (fun _ h9 => h9) rfl (tyX3_ok 0 (by decide)) rfl rfl (Nat.le_of_ble_eq_true rfl) dL_isSame_17 (fun H2 L2 hO2 z2 o2 hS => ?_)
      refine lv_goto (tgt := 27) hx hb dL_isSame_20 (by decide) ?_
      refine lv_iconst (v := nI 0) hx hb dL_isSame_27 (by decide) ?_
      exact q_i hx hb hr hlocks dL_isSame_28 hS (Nat.le_of_ble_eq_true rfl) (Nat.le_of_ble_eq_true rfl) (Or.inl ⟨rfl, r1, H1, hP, kp.one z2 o2, _, by rw [show oz r1 = 0 from if_pos c_6]; exact hO2⟩)
    · refine lv_lconst (v := 1) hx hb dL_isSame_12 (by decide) ?_
      refine lv_goto (tgt := 17) hx hb dL_isSame_13 (by decide) ?_
      refine h_putN (D := G.1) (ci := 7) (C := RX3) (T := TX3) (N := 2) hx hb hts inX3 tyX3 tyX3_ok nmX3 hown hK hO hS hAo rfl 0 (by decide) (va_Nw.use rfl hC.2.2.2.2.2.2.2.2.2.2.2.2.2.1) (fun _ h9 => h9) rfl (tyX3_ok 0 (by decide)) rfl rfl (Nat.le_of_ble_eq_true rfl) dL_isSame_17 (fun H2 L2 hO2 z2 o2 hS => ?_)
      refine lv_goto (tgt := 27) hx hb dL_isSame_20 (by decide) ?_
      refine lv_iconst (v := nI 0) hx hb dL_isSame_27 (by decide) ?_
      exact q_i hx hb hr hlocks dL_isSame_28 hS (Nat.le_of_ble_eq_true rfl) (Nat.le_of_ble_eq_true rfl) (Or.inl ⟨rfl, r1, H1, hP, kp.one z2 o2, _, by rw [show oz r1 = 1 from if_neg c_6]; exact hO2⟩)

abbrev rmL_order : Room := { frames := 8, cells := 2, slots := 12, locals := 132 }
theorem mL_order {l : Launch} {G : Cx} {A : Nat → Prop} (hst : l.stackTraces = false) {out : Nat} {SA : Nat → Nat} {X : Nat → List Nat} {es : List Nat} {k : Int32} {x y : Int32} (hAS : ∀ i : Nat, i < 39 → A (SA i)) (hAo : A out) (hSo : ∀ i : Nat, i < 39 → SA i ≠ out) : Met l yL_order (.codeWith yL_order cL_order 5 (some .int) [(0, 11, 14, 19)] :: GW) rmL_order (PC G A [.ref (SA 0), .int x, .int y, .ref out] (fun H => SS G SA X es k H ∧ OA G out H)) (qI A (fun r H => (r = 0 ∧ ∃ (v : Int32) (H0 : Heap), (fun r H => ∃ i j : Nat, i < 4 ∧ x = nI i ∧ j < 4 ∧ y = nI j ∧ ordR false (X i) (X j) r ∧ SS G SA X es k H) v H0 ∧ kp (fun q => q = out) H0 H ∧ ∃ w : Value, va_at G.1 vwCl (out, .inr (7, [.long v.toInt64, w])) H) ∨ (r = 1 ∧ ((NT x ∨ NT y)) ∧ SS G SA X es k H ∧ OA G out H))) 2 12 (A) := by
  refine mstartH "SigntextLaw" (by decide +kernel) rfl (Nat.le_of_ble_eq_true rfl) ?_
  intro p e s m below meth c ls hx hb hr hts hown hml hlocks htab hC hA hW hl
  have hl : lv_has ls 5 [(0, .ref (SA 0)), (1, .int x), (2, .int y), (3, .ref out)] := hl
  have hK := hC.1
  have hS : va_S A s.heap s.heap [] := va_S.rf
  obtain ⟨hSS, hO⟩ := hW
  refine lv_aload_n hx hb dL_order_0 rfl (lv_at hl 3 rfl) ?_
  refine lv_aload_n hx hb dL_order_1 rfl (lv_at hl 0 rfl) ?_
  refine lv_iload_n hx hb dL_order_2 rfl (lv_at hl 1 rfl) ?_
  refine lv_iload_n hx hb dL_order_3 rfl (lv_at hl 2 rfl) ?_
  refine cI_V (A := A) (A1 := (fun q => A q ∧ q ≠ out)) (b := SA 0) (As := [.int x, .int y]) (rest := .ref out :: []) ⟨hx, hb, hml, hown, hts⟩ (mX2_order (A := (fun q => A q ∧ q ≠ out)) hst (SA := SA) (X := X) (es := es) (k := k) (fun i hi => ⟨hAS i hi, hSo i hi⟩)) (cwV 2 hts (gV tw_4_99 tw_4_100 tw_4_101 tw_1_1 tw_4_102) rfl rfl rfl (by decide +kernel) ⟨Nat.le_of_ble_eq_true rfl, Nat.le_of_ble_eq_true rfl⟩) hC hS (fun _ h => h.1) (fun q h => ⟨hA q h, fun q9 => absurd hO.lt (by rw [← q9]; exact Nat.not_lt_of_le h)⟩) (hSS.recv hK) hSS rfl rfl hl.1 (Nat.le_of_ble_eq_true rfl) ⟨Nat.le_of_ble_eq_true rfl, Nat.le_of_ble_eq_true rfl⟩ dL_order_4 (fun E ce q9 H1 L1 hX hk hS h1 h2 h3 => ?_) (fun r1 H1 L1 hP hk hS => ?_)
  · have hO := hO.kp hk (fun h => h.2 rfl)
    obtain ⟨hX, hSS⟩ := hX
    obtain ⟨rfl, hc⟩ := hX
    refine vx_catch hown [] ⟨0, 11, 14, 19⟩ [] (htab.trans rfl) (fun z hz => absurd hz List.not_mem_nil) (by decide) (by decide) (hts _ tw_2_237) (hC.2.2.2.2.2.2.2.2.2.2.2.1.use xw_io) h1 h2 h3 ?_
    refine lv_astore (lv' := [(4, .ref q9), (0, .ref (SA 0)), (1, .int x), (2, .int y), (3, .ref out)]) hx hb dL_order_14 hl (by decide) rfl (fun ls hl => ?_)
    refine lv_iconst (v := nI 1) hx hb dL_order_16 (by decide) ?_
    exact q_i hx hb hr hlocks dL_order_17 hS (Nat.le_of_ble_eq_true rfl) (Nat.le_of_ble_eq_true rfl) (Or.inr (⟨rfl, hc, hSS, hO⟩))
  · obtain ⟨n9, v9, hO⟩ := hO.kp hk (fun h => h.2 rfl)
    try dsimp only at hP
    refine lv_i2l hx hb dL_order_7 rfl ?_
    refine h_putN (D := G.1) (ci := 7) (C := RX3) (T := TX3) (N := 2) hx hb hts inX3 tyX3 tyX3_ok nmX3 hown hK hO hS hAo rfl 0 (by decide) (va_Nw.use rfl hC.2.2.2.2.2.2.2.2.2.2.2.2.2.1) (fun _ h9 => h9) rfl (tyX3_ok 0 (by decide)) rfl rfl (Nat.le_of_ble_eq_true rfl) dL_order_8 (fun H2 L2 hO2 z2 o2 hS => ?_)
    refine lv_goto (tgt := 18) hx hb dL_order_11 (by decide) ?_
    refine lv_iconst (v := nI 0) hx hb dL_order_18 (by decide) ?_
    exact q_i hx hb hr hlocks dL_order_19 hS (Nat.le_of_ble_eq_true rfl) (Nat.le_of_ble_eq_true rfl) (Or.inl ⟨rfl, r1, H1, hP, kp.one z2 o2, _, hO2⟩)

abbrev rmL_orderLike : Room := { frames := 8, cells := 2, slots := 12, locals := 132 }
theorem mL_orderLike {l : Launch} {G : Cx} {A : Nat → Prop} (hst : l.stackTraces = false) {out : Nat} {SA : Nat → Nat} {X : Nat → List Nat} {es : List Nat} {k : Int32} {x y : Int32} (hAS : ∀ i : Nat, i < 39 → A (SA i)) (hAo : A out) (hSo : ∀ i : Nat, i < 39 → SA i ≠ out) : Met l yL_orderLike (.codeWith yL_orderLike cL_orderLike 5 (some .int) [(0, 11, 14, 19)] :: GW) rmL_orderLike (PC G A [.ref (SA 0), .int x, .int y, .ref out] (fun H => SS G SA X es k H ∧ OA G out H)) (qI A (fun r H => (r = 0 ∧ ∃ (v : Int32) (H0 : Heap), (fun r H => ∃ i j : Nat, i < 4 ∧ x = nI i ∧ j < 4 ∧ y = nI j ∧ (∃ o9, ordR true (X i) (X j) o9 ∧ r = sgI o9) ∧ SS G SA X es k H) v H0 ∧ kp (fun q => q = out) H0 H ∧ ∃ w : Value, va_at G.1 vwCl (out, .inr (7, [.long v.toInt64, w])) H) ∨ (r = 1 ∧ ((NT x ∨ NT y)) ∧ SS G SA X es k H ∧ OA G out H))) 2 12 (A) := by
  refine mstartH "SigntextLaw" (by decide +kernel) rfl (Nat.le_of_ble_eq_true rfl) ?_
  intro p e s m below meth c ls hx hb hr hts hown hml hlocks htab hC hA hW hl
  have hl : lv_has ls 5 [(0, .ref (SA 0)), (1, .int x), (2, .int y), (3, .ref out)] := hl
  have hK := hC.1
  have hS : va_S A s.heap s.heap [] := va_S.rf
  obtain ⟨hSS, hO⟩ := hW
  refine lv_aload_n hx hb dL_orderLike_0 rfl (lv_at hl 3 rfl) ?_
  refine lv_aload_n hx hb dL_orderLike_1 rfl (lv_at hl 0 rfl) ?_
  refine lv_iload_n hx hb dL_orderLike_2 rfl (lv_at hl 1 rfl) ?_
  refine lv_iload_n hx hb dL_orderLike_3 rfl (lv_at hl 2 rfl) ?_
  refine cI_V (A := A) (A1 := (fun q => A q ∧ q ≠ out)) (b := SA 0) (As := [.int x, .int y]) (rest := .ref out :: []) ⟨hx, hb, hml, hown, hts⟩ (mX2_orderLike (A := (fun q => A q ∧ q ≠ out)) hst (SA := SA) (X := X) (es := es) (k := k) (fun i hi => ⟨hAS i hi, hSo i hi⟩)) (cwV 2 hts (gV tw_4_106 tw_4_107 tw_4_108 tw_1_1 tw_4_109) rfl rfl rfl (by decide +kernel) ⟨Nat.le_of_ble_eq_true rfl, Nat.le_of_ble_eq_true rfl⟩) hC hS (fun _ h => h.1) (fun q h => ⟨hA q h, fun q9 => absurd hO.lt (by rw [← q9]; exact Nat.not_lt_of_le h)⟩) (hSS.recv hK) hSS rfl rfl hl.1 (Nat.le_of_ble_eq_true rfl) ⟨Nat.le_of_ble_eq_true rfl, Nat.le_of_ble_eq_true rfl⟩ dL_orderLike_4 (fun E ce q9 H1 L1 hX hk hS h1 h2 h3 => ?_) (fun r1 H1 L1 hP hk hS => ?_)
  · have hO := hO.kp hk (fun h => h.2 rfl)
    obtain ⟨hX, hSS⟩ := hX
    obtain ⟨rfl, hc⟩ := hX
    refine vx_catch hown [] ⟨0, 11, 14, 19⟩ [] (htab.trans rfl) (fun z hz => absurd hz List.not_mem_nil) (by decide) (by decide) (hts _ tw_2_237) (hC.2.2.2.2.2.2.2.2.2.2.2.1.use xw_io) h1 h2 h3 ?_
    refine lv_astore (lv' := [(4, .ref q9), (0, .ref (SA 0)), (1, .int x), (2, .int y), (3, .ref out)]) hx hb dL_orderLike_14 hl (by decide) rfl (fun ls hl => ?_)
    refine lv_iconst (v := nI 1) hx hb dL_orderLike_16 (by decide) ?_
    exact q_i hx hb hr hlocks dL_orderLike_17 hS (Nat.le_of_ble_eq_true rfl) (Nat.le_of_ble_eq_true rfl) (Or.inr (⟨rfl, hc, hSS, hO⟩))
  · obtain ⟨n9, v9, hO⟩ := hO.kp hk (fun h => h.2 rfl)
    try dsimp only at hP
    refine lv_i2l hx hb dL_orderLike_7 rfl ?_
    refine h_putN (D := G.1) (ci := 7) (C := RX3) (T := TX3) (N := 2) hx hb hts inX3 tyX3 tyX3_ok nmX3 hown hK hO hS hAo rfl 0 (by decide) (va_Nw.use rfl hC.2.2.2.2.2.2.2.2.2.2.2.2.2.1) (fun _ h9 => h9) rfl (tyX3_ok 0 (by decide)) rfl rfl (Nat.le_of_ble_eq_true rfl) dL_orderLike_8 (fun H2 L2 hO2 z2 o2 hS => ?_)
    refine lv_goto (tgt := 18) hx hb dL_orderLike_11 (by decide) ?_
    refine lv_iconst (v := nI 0) hx hb dL_orderLike_18 (by decide) ?_
    exact q_i hx hb hr hlocks dL_orderLike_19 hS (Nat.le_of_ble_eq_true rfl) (Nat.le_of_ble_eq_true rfl) (Or.inl ⟨rfl, r1, H1, hP, kp.one z2 o2, _, hO2⟩)

abbrev rmL_rowAt : Room := { frames := 8, cells := 1, slots := 6, locals := 131 }
theorem mL_rowAt {l : Launch} {G : Cx} {A : Nat → Prop} (hst : l.stackTraces = false) {out : Nat} {SA : Nat → Nat} {X : Nat → List Nat} {es : List Nat} {k : Int32} {x : Int32} (hAS : ∀ i : Nat, i < 39 → A (SA i)) (hAo : A out) (hSo : ∀ i : Nat, i < 39 → SA i ≠ out) : Met l yL_rowAt (.codeWith yL_rowAt cL_rowAt 4 (some .int) [(0, 10, 13, 19)] :: GW) rmL_rowAt (PC G A [.ref (SA 0), .int x, .ref out] (fun H => SS G SA X es k H ∧ OA G out H)) (qI A (fun r H => (r = 0 ∧ ∃ (v : Int32) (H0 : Heap), (fun r H => ∃ a9 : Nat, a9 < (X 11).length ∧ x = nI a9 ∧ r = nI ((X 11).getD a9 0) ∧ SS G SA X es k H) v H0 ∧ kp (fun q => q = out) H0 H ∧ ∃ w : Value, va_at G.1 vwCl (out, .inr (7, [.long v.toInt64, w])) H) ∨ (r = 1 ∧ (¬ ∃ a9 : Nat, a9 < (X 11).length ∧ x = nI a9) ∧ SS G SA X es k H ∧ OA G out H))) 1 6 (A) := by
  refine mstartH "SigntextLaw" (by decide +kernel) rfl (Nat.le_of_ble_eq_true rfl) ?_
  intro p e s m below meth c ls hx hb hr hts hown hml hlocks htab hC hA hW hl
  have hl : lv_has ls 4 [(0, .ref (SA 0)), (1, .int x), (2, .ref out)] := hl
  have hK := hC.1
  have hS : va_S A s.heap s.heap [] := va_S.rf
  obtain ⟨hSS, hO⟩ := hW
  refine lv_aload_n hx hb dL_rowAt_0 rfl (lv_at hl 2 rfl) ?_
  refine lv_aload_n hx hb dL_rowAt_1 rfl (lv_at hl 0 rfl) ?_
  refine lv_iload_n hx hb dL_rowAt_2 rfl (lv_at hl 1 rfl) ?_
  refine cI_V (A := A) (A1 := (fun q => A q ∧ q ≠ out)) (b := SA 0) (As := [.int x]) (rest := .ref out :: []) ⟨hx, hb, hml, hown, hts⟩ (mX2_rowAt (A := (fun q => A q ∧ q ≠ out)) hst (SA := SA) (X := X) (es := es) (k := k) (fun i hi => ⟨hAS i hi, hSo i hi⟩)) (cwV 1 hts (gV tw_4_113 tw_4_114 tw_4_115 tw_1_1 tw_4_116) rfl rfl rfl (by decide +kernel) ⟨Nat.le_of_ble_eq_true rfl, Nat.le_of_ble_eq_true rfl⟩) hC hS (fun _ h => h.1) (fun q h => ⟨hA q h, fun q9 => absurd hO.lt (by rw [← q9]; exact Nat.not_lt_of_le h)⟩) (hSS.recv hK) hSS rfl rfl hl.1 (Nat.le_of_ble_eq_true rfl) ⟨Nat.le_of_ble_eq_true rfl, Nat.le_of_ble_eq_true rfl⟩ dL_rowAt_3 (fun E ce q9 H1 L1 hX hk hS h1 h2 h3 => ?_) (fun r1 H1 L1 hP hk hS => ?_)
  · have hO := hO.kp hk (fun h => h.2 rfl)
    obtain ⟨hX, hSS⟩ := hX
    obtain ⟨rfl, hc⟩ := hX
    refine vx_catch hown [] ⟨0, 10, 13, 19⟩ [] (htab.trans rfl) (fun z hz => absurd hz List.not_mem_nil) (by decide) (by decide) (hts _ tw_2_237) (hC.2.2.2.2.2.2.2.2.2.2.2.1.use xw_io) h1 h2 h3 ?_
    refine lv_astore_n (lv' := [(3, .ref q9), (0, .ref (SA 0)), (1, .int x), (2, .ref out)]) hx hb dL_rowAt_13 rfl hl (by decide) rfl (fun ls hl => ?_)
    refine lv_iconst (v := nI 1) hx hb dL_rowAt_14 (by decide) ?_
    exact q_i hx hb hr hlocks dL_rowAt_15 hS (Nat.le_of_ble_eq_true rfl) (Nat.le_of_ble_eq_true rfl) (Or.inr (⟨rfl, hc, hSS, hO⟩))
  · obtain ⟨n9, v9, hO⟩ := hO.kp hk (fun h => h.2 rfl)
    try dsimp only at hP
    refine lv_i2l hx hb dL_rowAt_6 rfl ?_
    refine h_putN (D := G.1) (ci := 7) (C := RX3) (T := TX3) (N := 2) hx hb hts inX3 tyX3 tyX3_ok nmX3 hown hK hO hS hAo rfl 0 (by decide) (va_Nw.use rfl hC.2.2.2.2.2.2.2.2.2.2.2.2.2.1) (fun _ h9 => h9) rfl (tyX3_ok 0 (by decide)) rfl rfl (Nat.le_of_ble_eq_true rfl) dL_rowAt_7 (fun H2 L2 hO2 z2 o2 hS => ?_)
    refine lv_goto (tgt := 16) hx hb dL_rowAt_10 (by decide) ?_
    refine lv_iconst (v := nI 0) hx hb dL_rowAt_16 (by decide) ?_
    exact q_i hx hb hr hlocks dL_rowAt_17 hS (Nat.le_of_ble_eq_true rfl) (Nat.le_of_ble_eq_true rfl) (Or.inl ⟨rfl, r1, H1, hP, kp.one z2 o2, _, hO2⟩)

abbrev rmL_piece : Room := { frames := 8, cells := 4, slots := 130, locals := 160 }
theorem mL_piece {l : Launch} {G : Cx} {A : Nat → Prop} (hst : l.stackTraces = false) {out : Nat} {SA : Nat → Nat} {X : Nat → List Nat} {es : List Nat} {k : Int32} {x : Int32} (hAS : ∀ i : Nat, i < 39 → A (SA i)) (hAo : A out) (hSo : ∀ i : Nat, i < 39 → SA i ≠ out) : Met l yL_piece (.codeWith yL_piece cL_piece 4 (some .int) [(0, 9, 12, 19)] :: GW) rmL_piece (PC G A [.ref (SA 0), .int x, .ref out] (fun H => SS G SA X es k H ∧ OA G out H)) (qI A (fun r H => (r = 0 ∧ ∃ (v : Nat) (H0 : Heap), (fun r H => (∃ j : Nat, j < es.length ∧ x = nI j) ∧ SS G SA X es k H) v H0 ∧ kp (fun q => q = out) H0 H ∧ ∃ n9 : Int64, va_at G.1 vwCl (out, .inr (7, [.long n9, .ref v])) H) ∨ (r = 1 ∧ (¬ ∃ j : Nat, j < es.length ∧ x = nI j) ∧ SS G SA X es k H ∧ OA G out H))) 4 130 (A) := by
  refine mstartH "SigntextLaw" (by decide +kernel) rfl (Nat.le_of_ble_eq_true rfl) ?_
  intro p e s m below meth c ls hx hb hr hts hown hml hlocks htab hC hA hW hl
  have hl : lv_has ls 4 [(0, .ref (SA 0)), (1, .int x), (2, .ref out)] := hl
  have hK := hC.1
  have hS : va_S A s.heap s.heap [] := va_S.rf
  obtain ⟨hSS, hO⟩ := hW
  refine lv_aload_n hx hb dL_piece_0 rfl (lv_at hl 2 rfl) ?_
  refine lv_aload_n hx hb dL_piece_1 rfl (lv_at hl 0 rfl) ?_
  refine lv_iload_n hx hb dL_piece_2 rfl (lv_at hl 1 rfl) ?_
  refine cR_V (A := A) (A1 := (fun q => A q ∧ q ≠ out)) (b := SA 0) (As := [.int x]) (rest := .ref out :: []) ⟨hx, hb, hml, hown, hts⟩ (mX2_piece (A := (fun q => A q ∧ q ≠ out)) hst (SA := SA) (X := X) (es := es) (k := k) (fun i hi => ⟨hAS i hi, hSo i hi⟩)) (cwV 1 hts (gV tw_4_120 tw_4_121 tw_4_122 tw_1_1 tw_4_123) rfl rfl rfl (by decide +kernel) ⟨Nat.le_of_ble_eq_true rfl, Nat.le_of_ble_eq_true rfl⟩) hC hS (fun _ h => h.1) (fun q h => ⟨hA q h, fun q9 => absurd hO.lt (by rw [← q9]; exact Nat.not_lt_of_le h)⟩) (hSS.recv hK) hSS rfl rfl hl.1 (Nat.le_of_ble_eq_true rfl) ⟨Nat.le_of_ble_eq_true rfl, Nat.le_of_ble_eq_true rfl⟩ dL_piece_3 (fun E ce q9 H1 L1 hX hk hS h1 h2 h3 => ?_) (fun r1 H1 L1 hP hk hS => ?_)
  · have hO := hO.kp hk (fun h => h.2 rfl)
    obtain ⟨hX, hSS⟩ := hX
    obtain ⟨rfl, hc⟩ := hX
    refine vx_catch hown [] ⟨0, 9, 12, 19⟩ [] (htab.trans rfl) (fun z hz => absurd hz List.not_mem_nil) (by decide) (by decide) (hts _ tw_2_237) (hC.2.2.2.2.2.2.2.2.2.2.2.1.use xw_io) h1 h2 h3 ?_
    refine lv_astore_n (lv' := [(3, .ref q9), (0, .ref (SA 0)), (1, .int x), (2, .ref out)]) hx hb dL_piece_12 rfl hl (by decide) rfl (fun ls hl => ?_)
    refine lv_iconst (v := nI 1) hx hb dL_piece_13 (by decide) ?_
    exact q_i hx hb hr hlocks dL_piece_14 hS (Nat.le_of_ble_eq_true rfl) (Nat.le_of_ble_eq_true rfl) (Or.inr (⟨rfl, hc, hSS, hO⟩))
  · obtain ⟨n9, v9, hO⟩ := hO.kp hk (fun h => h.2 rfl)
    try dsimp only at hP
    refine h_putN (D := G.1) (ci := 7) (C := RX3) (T := TX3) (N := 2) hx hb hts inX3 tyX3 tyX3_ok nmX3 hown hK hO hS hAo rfl 1 (by decide) (va_Nw.use rfl hC.2.2.2.2.2.2.2.2.2.2.2.2.2.2.1) (fun _ h9 => h9) rfl (tyX3_ok 1 (by decide)) rfl rfl (Nat.le_of_ble_eq_true rfl) dL_piece_6 (fun H2 L2 hO2 z2 o2 hS => ?_)
    refine lv_goto (tgt := 15) hx hb dL_piece_9 (by decide) ?_
    refine lv_iconst (v := nI 0) hx hb dL_piece_15 (by decide) ?_
    exact q_i hx hb hr hlocks dL_piece_16 hS (Nat.le_of_ble_eq_true rfl) (Nat.le_of_ble_eq_true rfl) (Or.inl ⟨rfl, r1, H1, hP, kp.one z2 o2, _, hO2⟩)

abbrev rmL_isPiece : Room := { frames := 8, cells := 2, slots := 12, locals := 134 }
theorem mL_isPiece {l : Launch} {G : Cx} {A : Nat → Prop} (hst : l.stackTraces = false) {out : Nat} {SA : Nat → Nat} {X : Nat → List Nat} {es : List Nat} {k : Int32} {x y : Int32} (hAS : ∀ i : Nat, i < 39 → A (SA i)) (hAo : A out) (hSo : ∀ i : Nat, i < 39 → SA i ≠ out) : Met l yL_isPiece (.codeWith yL_isPiece cL_isPiece 5 (some .int) [(0, 18, 21, 19)] :: GW) rmL_isPiece (PC G A [.ref (SA 0), .int x, .int y, .ref out] (fun H => SS G SA X es k H ∧ OA G out H)) (qI A (fun r H => (r = 0 ∧ ∃ (v : Int32) (H0 : Heap), (fun r H => ∃ (j i : Nat) (v : Bool), j < es.length ∧ x = nI j ∧ i < 4 ∧ y = nI i ∧ (v = true ↔ (cutL (X 14) (bgE es j) (es.getD j 0)).length = (X i).length ∧ stL false (cutL (X 14) (bgE es j) (es.getD j 0)) (X i) 0) ∧ r = bI v ∧ SS G SA X es k H) v H0 ∧ kp (fun q => q = out) H0 H ∧ ∃ w : Value, va_at G.1 vwCl (out, .inr (7, [.long (oz v), w])) H) ∨ (r = 1 ∧ (((¬ ∃ j : Nat, j < es.length ∧ x = nI j) ∨ NT y)) ∧ SS G SA X es k H ∧ OA G out H))) 2 12 (A) := by
  refine mstartH "SigntextLaw" (by decide +kernel) rfl (Nat.le_of_ble_eq_true rfl) ?_
  intro p e s m below meth c ls hx hb hr hts hown hml hlocks htab hC hA hW hl
  have hl : lv_has ls 5 [(0, .ref (SA 0)), (1, .int x), (2, .int y), (3, .ref out)] := hl
  have hK := hC.1
  have hS : va_S A s.heap s.heap [] := va_S.rf
  obtain ⟨hSS, hO⟩ := hW
  refine lv_aload_n hx hb dL_isPiece_0 rfl (lv_at hl 3 rfl) ?_
  refine lv_aload_n hx hb dL_isPiece_1 rfl (lv_at hl 0 rfl) ?_
  refine lv_iload_n hx hb dL_isPiece_2 rfl (lv_at hl 1 rfl) ?_
  refine lv_iload_n hx hb dL_isPiece_3 rfl (lv_at hl 2 rfl) ?_
  refine cI_V (A := A) (A1 := (fun q => A q ∧ q ≠ out)) (b := SA 0) (As := [.int x, .int y]) (rest := .ref out :: []) ⟨hx, hb, hml, hown, hts⟩ (mX2_isPiece (A := (fun q => A q ∧ q ≠ out)) hst (SA := SA) (X := X) (es := es) (k := k) (fun i hi => ⟨hAS i hi, hSo i hi⟩)) (cwV 2 hts (gV tw_4_127 tw_4_128 tw_4_129 tw_1_1 tw_4_130) rfl rfl rfl (by decide +kernel) ⟨Nat.le_of_ble_eq_true rfl, Nat.le_of_ble_eq_true rfl⟩) hC hS (fun _ h => h.1) (fun q h => ⟨hA q h, fun q9 => absurd hO.lt (by rw [← q9]; exact Nat.not_lt_of_le h)⟩) (hSS.recv hK) hSS rfl rfl hl.1 (Nat.le_of_ble_eq_true rfl) ⟨Nat.le_of_ble_eq_true rfl, Nat.le_of_ble_eq_true rfl⟩ dL_isPiece_4 (fun E ce q9 H1 L1 hX hk hS h1 h2 h3 => ?_) (fun r1 H1 L1 hP hk hS => ?_)
  · have hO := hO.kp hk (fun h => h.2 rfl)
    obtain ⟨hX, hSS⟩ := hX
    obtain ⟨rfl, hc⟩ := hX
    refine vx_catch hown [] ⟨0, 18, 21, 19⟩ [] (htab.trans rfl) (fun z hz => absurd hz List.not_mem_nil) (by decide) (by decide) (hts _ tw_2_237) (hC.2.2.2.2.2.2.2.2.2.2.2.1.use xw_io) h1 h2 h3 ?_
    refine lv_astore (lv' := [(4, .ref q9), (0, .ref (SA 0)), (1, .int x), (2, .int y), (3, .ref out)]) hx hb dL_isPiece_21 hl (by decide) rfl (fun ls hl => ?_)
    refine lv_iconst (v := nI 1) hx hb dL_isPiece_23 (by decide) ?_
    exact q_i hx hb hr hlocks dL_isPiece_24 hS (Nat.le_of_ble_eq_true rfl) (Nat.le_of_ble_eq_true rfl) (Or.inr (⟨rfl, hc, hSS, hO⟩))
  · obtain ⟨n9, v9, hO⟩ := hO.kp hk (fun h => h.2 rfl)
    try dsimp only at hP
    refine lv_if_eq (tgt := 14) hx hb dL_isPiece_7 (by decide) (fun c_7 => ?_) (fun c_7 => ?_)
    · refine lv_lconst (v := 0) hx hb dL_isPiece_14 (by decide) ?_
      refine h_putN (D := G.1) (ci := 7) (C := RX3) (T := TX3) (N := 2) hx hb hts inX3 tyX3 tyX3_ok nmX3 hown hK hO hS hAo rfl 0 (by decide) (va_Nw.use rfl hC.2.2.2.2.2.2.2.2.2.2.2.2.2.1) (fun _ h9 => h9) rfl (tyX3_ok 0 (by decide)) rfl rfl (Nat.le_of_ble_eq_true rfl) dL_isPiece_15 (fun H2 L2 hO2 z2 o2 hS => ?_)
      refine lv_goto (tgt := 25) hx hb dL_isPiece_18 (by decide) ?_
      refine lv_iconst (v := nI 0) hx hb dL_isPiece_25 (by decide) ?_
      exact q_i hx hb hr hlocks dL_isPiece_26 hS (Nat.le_of_ble_eq_true rfl) (Nat.le_of_ble_eq_true rfl) (Or.inl ⟨rfl, r1, H1, hP, kp.one z2 o2, _, by rw [show oz r1 = 0 from if_pos c_7]; exact hO2⟩)
    · refine lv_lconst (v := 1) hx hb dL_isPiece_10 (by decide) ?_
      refine lv_goto (tgt := 15) hx hb dL_isPiece_11 (by decide) ?_
      refine h_putN (D := G.1) (ci := 7) (C := RX3) (T := TX3) (N := 2) hx hb hts inX3 tyX3 tyX3_ok nmX3 hown hK hO hS hAo rfl 0 (by decide) (va_Nw.use rfl hC.2.2.2.2.2.2.2.2.2.2.2.2.2.1) (fun _ h9 => h9) rfl (tyX3_ok 0 (by decide)) rfl rfl (Nat.le_of_ble_eq_true rfl) dL_isPiece_15 (fun H2 L2 hO2 z2 o2 hS => ?_)
      refine lv_goto (tgt := 25) hx hb dL_isPiece_18 (by decide) ?_
      refine lv_iconst (v := nI 0) hx hb dL_isPiece_25 (by decide) ?_
      exact q_i hx hb hr hlocks dL_isPiece_26 hS (Nat.le_of_ble_eq_true rfl) (Nat.le_of_ble_eq_true rfl) (Or.inl ⟨rfl, r1, H1, hP, kp.one z2 o2, _, by rw [show oz r1 = 1 from if_neg c_7]; exact hO2⟩)

abbrev rmL_house : Room := { frames := 7, cells := 1, slots := 6, locals := 110 }
theorem mL_house {l : Launch} {G : Cx} {A : Nat → Prop} (hst : l.stackTraces = false) {out : Nat} {SA : Nat → Nat} {X : Nat → List Nat} {es : List Nat} {k : Int32} {x : Int32} (hAS : ∀ i : Nat, i < 39 → A (SA i)) (hAo : A out) (hSo : ∀ i : Nat, i < 39 → SA i ≠ out) : Met l yL_house (.codeWith yL_house cL_house 4 (some .int) [(0, 10, 13, 21)] :: GW) rmL_house (PC G A [.ref (SA 0), .int x, .ref out] (fun H => SS G SA X es k H ∧ OA G out H)) (qI A (fun r H => (r = 0 ∧ ∃ (v : Int32) (H0 : Heap), (fun r H => ∃ w9 : Nat, w9 < 5 ∧ x = nI w9 ∧ r = hsV X es k w9 ∧ SS G SA X es k H) v H0 ∧ kp (fun q => q = out) H0 H ∧ ∃ w : Value, va_at G.1 vwCl (out, .inr (7, [.long v.toInt64, w])) H) ∨ (r = 1 ∧ (¬ ∃ w9 : Nat, w9 < 5 ∧ x = nI w9) ∧ SS G SA X es k H ∧ OA G out H))) 1 6 (A) := by
  refine mstartH "SigntextLaw" (by decide +kernel) rfl (Nat.le_of_ble_eq_true rfl) ?_
  intro p e s m below meth c ls hx hb hr hts hown hml hlocks htab hC hA hW hl
  have hl : lv_has ls 4 [(0, .ref (SA 0)), (1, .int x), (2, .ref out)] := hl
  have hK := hC.1
  have hS : va_S A s.heap s.heap [] := va_S.rf
  obtain ⟨hSS, hO⟩ := hW
  refine lv_aload_n hx hb dL_house_0 rfl (lv_at hl 2 rfl) ?_
  refine lv_aload_n hx hb dL_house_1 rfl (lv_at hl 0 rfl) ?_
  refine lv_iload_n hx hb dL_house_2 rfl (lv_at hl 1 rfl) ?_
  refine cI_V (A := A) (A1 := (fun q => A q ∧ q ≠ out)) (b := SA 0) (As := [.int x]) (rest := .ref out :: []) ⟨hx, hb, hml, hown, hts⟩ (mX2_house (A := (fun q => A q ∧ q ≠ out)) hst (SA := SA) (X := X) (es := es) (k := k) (fun i hi => ⟨hAS i hi, hSo i hi⟩)) (cwV 1 hts (gV tw_4_134 tw_2_125 tw_2_126 tw_1_1 tw_2_127) rfl rfl rfl (by decide +kernel) ⟨Nat.le_of_ble_eq_true rfl, Nat.le_of_ble_eq_true rfl⟩) hC hS (fun _ h => h.1) (fun q h => ⟨hA q h, fun q9 => absurd hO.lt (by rw [← q9]; exact Nat.not_lt_of_le h)⟩) (hSS.recv hK) hSS rfl rfl hl.1 (Nat.le_of_ble_eq_true rfl) ⟨Nat.le_of_ble_eq_true rfl, Nat.le_of_ble_eq_true rfl⟩ dL_house_3 (fun E ce q9 H1 L1 hX hk hS h1 h2 h3 => ?_) (fun r1 H1 L1 hP hk hS => ?_)
  · have hO := hO.kp hk (fun h => h.2 rfl)
    obtain ⟨hX, hSS⟩ := hX
    obtain ⟨rfl, hc⟩ := hX
    refine vx_catch hown [] ⟨0, 10, 13, 21⟩ [] (htab.trans rfl) (fun z hz => absurd hz List.not_mem_nil) (by decide) (by decide) (hts _ tw_2_238) (hC.2.2.2.2.2.2.2.2.2.2.2.1.use xw_ia) h1 h2 h3 ?_
    refine lv_astore_n (lv' := [(3, .ref q9), (0, .ref (SA 0)), (1, .int x), (2, .ref out)]) hx hb dL_house_13 rfl hl (by decide) rfl (fun ls hl => ?_)
    refine lv_iconst (v := nI 1) hx hb dL_house_14 (by decide) ?_
    exact q_i hx hb hr hlocks dL_house_15 hS (Nat.le_of_ble_eq_true rfl) (Nat.le_of_ble_eq_true rfl) (Or.inr (⟨rfl, hc, hSS, hO⟩))
  · obtain ⟨n9, v9, hO⟩ := hO.kp hk (fun h => h.2 rfl)
    try dsimp only at hP
    refine lv_i2l hx hb dL_house_6 rfl ?_
    refine h_putN (D := G.1) (ci := 7) (C := RX3) (T := TX3) (N := 2) hx hb hts inX3 tyX3 tyX3_ok nmX3 hown hK hO hS hAo rfl 0 (by decide) (va_Nw.use rfl hC.2.2.2.2.2.2.2.2.2.2.2.2.2.1) (fun _ h9 => h9) rfl (tyX3_ok 0 (by decide)) rfl rfl (Nat.le_of_ble_eq_true rfl) dL_house_7 (fun H2 L2 hO2 z2 o2 hS => ?_)
    refine lv_goto (tgt := 16) hx hb dL_house_10 (by decide) ?_
    refine lv_iconst (v := nI 0) hx hb dL_house_16 (by decide) ?_
    exact q_i hx hb hr hlocks dL_house_17 hS (Nat.le_of_ble_eq_true rfl) (Nat.le_of_ble_eq_true rfl) (Or.inl ⟨rfl, r1, H1, hP, kp.one z2 o2, _, hO2⟩)
