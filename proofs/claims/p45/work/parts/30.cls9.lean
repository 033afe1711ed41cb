/-! The class, 9: the digest (any answer) -/
theorem dX2_digest_0 : decode cX2_digest 0 = .ok (.ldc2_w 202, 3) := by decide +kernel
theorem dX2_digest_3 : decode cX2_digest 3 = .ok (.lstore_n 1, 1) := by decide +kernel
theorem dX2_digest_4 : decode cX2_digest 4 = .ok (.iconst 0, 1) := by decide +kernel
theorem dX2_digest_5 : decode cX2_digest 5 = .ok (.istore_n 3, 1) := by decide +kernel
theorem dX2_digest_6 : decode cX2_digest 6 = .ok (.iload_n 3, 1) := by decide +kernel
theorem dX2_digest_7 : decode cX2_digest 7 = .ok (.iconst 4, 1) := by decide +kernel
theorem dX2_digest_8 : decode cX2_digest 8 = .ok (.if_icmp .gt 20, 3) := by decide +kernel
theorem dX2_digest_11 : decode cX2_digest 11 = .ok (.lload_n 1, 1) := by decide +kernel
theorem dX2_digest_12 : decode cX2_digest 12 = .ok (.aload_n 0, 1) := by decide +kernel
theorem dX2_digest_13 : decode cX2_digest 13 = .ok (.iload_n 3, 1) := by decide +kernel
theorem dX2_digest_14 : decode cX2_digest 14 = .ok (.invokevirtual 204, 3) := by decide +kernel
theorem dX2_digest_17 : decode cX2_digest 17 = .ok (.i2l, 1) := by decide +kernel
theorem dX2_digest_18 : decode cX2_digest 18 = .ok (.invokestatic 207, 3) := by decide +kernel
theorem dX2_digest_21 : decode cX2_digest 21 = .ok (.lstore_n 1, 1) := by decide +kernel
theorem dX2_digest_22 : decode cX2_digest 22 = .ok (.iinc 3 1, 3) := by decide +kernel
theorem dX2_digest_25 : decode cX2_digest 25 = .ok (.goto (-19), 3) := by decide +kernel
theorem dX2_digest_28 : decode cX2_digest 28 = .ok (.iconst 0, 1) := by decide +kernel
theorem dX2_digest_29 : decode cX2_digest 29 = .ok (.istore_n 3, 1) := by decide +kernel
theorem dX2_digest_30 : decode cX2_digest 30 = .ok (.iload_n 3, 1) := by decide +kernel
theorem dX2_digest_31 : decode cX2_digest 31 = .ok (.iconst 4, 1) := by decide +kernel
theorem dX2_digest_32 : decode cX2_digest 32 = .ok (.if_icmp .ge 20, 3) := by decide +kernel
theorem dX2_digest_35 : decode cX2_digest 35 = .ok (.lload_n 1, 1) := by decide +kernel
theorem dX2_digest_36 : decode cX2_digest 36 = .ok (.aload_n 0, 1) := by decide +kernel
theorem dX2_digest_37 : decode cX2_digest 37 = .ok (.getfield 11, 3) := by decide +kernel
theorem dX2_digest_40 : decode cX2_digest 40 = .ok (.iload_n 3, 1) := by decide +kernel
theorem dX2_digest_41 : decode cX2_digest 41 = .ok (.aaload, 1) := by decide +kernel
theorem dX2_digest_42 : decode cX2_digest 42 = .ok (.invokestatic 211, 3) := by decide +kernel
theorem dX2_digest_45 : decode cX2_digest 45 = .ok (.lstore_n 1, 1) := by decide +kernel
theorem dX2_digest_46 : decode cX2_digest 46 = .ok (.iinc 3 1, 3) := by decide +kernel
theorem dX2_digest_49 : decode cX2_digest 49 = .ok (.goto (-19), 3) := by decide +kernel
theorem dX2_digest_52 : decode cX2_digest 52 = .ok (.iconst 0, 1) := by decide +kernel
theorem dX2_digest_53 : decode cX2_digest 53 = .ok (.istore_n 3, 1) := by decide +kernel
theorem dX2_digest_54 : decode cX2_digest 54 = .ok (.iload_n 3, 1) := by decide +kernel
theorem dX2_digest_55 : decode cX2_digest 55 = .ok (.iconst 4, 1) := by decide +kernel
theorem dX2_digest_56 : decode cX2_digest 56 = .ok (.if_icmp .ge 42, 3) := by decide +kernel
theorem dX2_digest_59 : decode cX2_digest 59 = .ok (.iconst 0, 1) := by decide +kernel
theorem dX2_digest_60 : decode cX2_digest 60 = .ok (.istore 4, 2) := by decide +kernel
theorem dX2_digest_62 : decode cX2_digest 62 = .ok (.iload 4, 2) := by decide +kernel
theorem dX2_digest_64 : decode cX2_digest 64 = .ok (.iconst 4, 1) := by decide +kernel
theorem dX2_digest_65 : decode cX2_digest 65 = .ok (.if_icmp .ge 27, 3) := by decide +kernel
theorem dX2_digest_68 : decode cX2_digest 68 = .ok (.lload_n 1, 1) := by decide +kernel
theorem dX2_digest_69 : decode cX2_digest 69 = .ok (.aload_n 0, 1) := by decide +kernel
theorem dX2_digest_70 : decode cX2_digest 70 = .ok (.getfield 11, 3) := by decide +kernel
theorem dX2_digest_73 : decode cX2_digest 73 = .ok (.iload_n 3, 1) := by decide +kernel
theorem dX2_digest_74 : decode cX2_digest 74 = .ok (.aaload, 1) := by decide +kernel
theorem dX2_digest_75 : decode cX2_digest 75 = .ok (.aload_n 0, 1) := by decide +kernel
theorem dX2_digest_76 : decode cX2_digest 76 = .ok (.getfield 11, 3) := by decide +kernel
theorem dX2_digest_79 : decode cX2_digest 79 = .ok (.iload 4, 2) := by decide +kernel
theorem dX2_digest_81 : decode cX2_digest 81 = .ok (.aaload, 1) := by decide +kernel
theorem dX2_digest_82 : decode cX2_digest 82 = .ok (.invokestatic 215, 3) := by decide +kernel
theorem dX2_digest_85 : decode cX2_digest 85 = .ok (.lstore_n 1, 1) := by decide +kernel
theorem dX2_digest_86 : decode cX2_digest 86 = .ok (.iinc 4 1, 3) := by decide +kernel
theorem dX2_digest_89 : decode cX2_digest 89 = .ok (.goto (-27), 3) := by decide +kernel
theorem dX2_digest_92 : decode cX2_digest 92 = .ok (.iinc 3 1, 3) := by decide +kernel
theorem dX2_digest_95 : decode cX2_digest 95 = .ok (.goto (-41), 3) := by decide +kernel
theorem dX2_digest_98 : decode cX2_digest 98 = .ok (.iconst 0, 1) := by decide +kernel
theorem dX2_digest_99 : decode cX2_digest 99 = .ok (.istore_n 3, 1) := by decide +kernel
theorem dX2_digest_100 : decode cX2_digest 100 = .ok (.iload_n 3, 1) := by decide +kernel
theorem dX2_digest_101 : decode cX2_digest 101 = .ok (.aload_n 0, 1) := by decide +kernel
theorem dX2_digest_102 : decode cX2_digest 102 = .ok (.getfield 19, 3) := by decide +kernel
theorem dX2_digest_105 : decode cX2_digest 105 = .ok (.invokevirtual 66, 3) := by decide +kernel
theorem dX2_digest_108 : decode cX2_digest 108 = .ok (.if_icmp .ge 23, 3) := by decide +kernel
theorem dX2_digest_111 : decode cX2_digest 111 = .ok (.lload_n 1, 1) := by decide +kernel
theorem dX2_digest_112 : decode cX2_digest 112 = .ok (.aload_n 0, 1) := by decide +kernel
theorem dX2_digest_113 : decode cX2_digest 113 = .ok (.getfield 19, 3) := by decide +kernel
theorem dX2_digest_116 : decode cX2_digest 116 = .ok (.iload_n 3, 1) := by decide +kernel
theorem dX2_digest_117 : decode cX2_digest 117 = .ok (.invokevirtual 128, 3) := by decide +kernel
theorem dX2_digest_120 : decode cX2_digest 120 = .ok (.i2l, 1) := by decide +kernel
theorem dX2_digest_121 : decode cX2_digest 121 = .ok (.invokestatic 207, 3) := by decide +kernel
theorem dX2_digest_124 : decode cX2_digest 124 = .ok (.lstore_n 1, 1) := by decide +kernel
theorem dX2_digest_125 : decode cX2_digest 125 = .ok (.iinc 3 1, 3) := by decide +kernel
theorem dX2_digest_128 : decode cX2_digest 128 = .ok (.goto (-28), 3) := by decide +kernel
theorem dX2_digest_131 : decode cX2_digest 131 = .ok (.iconst 0, 1) := by decide +kernel
theorem dX2_digest_132 : decode cX2_digest 132 = .ok (.istore_n 3, 1) := by decide +kernel
theorem dX2_digest_133 : decode cX2_digest 133 = .ok (.iload_n 3, 1) := by decide +kernel
theorem dX2_digest_134 : decode cX2_digest 134 = .ok (.aload_n 0, 1) := by decide +kernel
theorem dX2_digest_135 : decode cX2_digest 135 = .ok (.getfield 26, 3) := by decide +kernel
theorem dX2_digest_138 : decode cX2_digest 138 = .ok (.invokevirtual 138, 3) := by decide +kernel
theorem dX2_digest_141 : decode cX2_digest 141 = .ok (.if_icmp .ge 32, 3) := by decide +kernel
theorem dX2_digest_144 : decode cX2_digest 144 = .ok (.lload_n 1, 1) := by decide +kernel
theorem dX2_digest_145 : decode cX2_digest 145 = .ok (.aload_n 0, 1) := by decide +kernel
theorem dX2_digest_146 : decode cX2_digest 146 = .ok (.getfield 26, 3) := by decide +kernel
theorem dX2_digest_149 : decode cX2_digest 149 = .ok (.iload_n 3, 1) := by decide +kernel
theorem dX2_digest_150 : decode cX2_digest 150 = .ok (.invokevirtual 219, 3) := by decide +kernel
theorem dX2_digest_153 : decode cX2_digest 153 = .ok (.aload_n 0, 1) := by decide +kernel
theorem dX2_digest_154 : decode cX2_digest 154 = .ok (.getfield 26, 3) := by decide +kernel
theorem dX2_digest_157 : decode cX2_digest 157 = .ok (.iload_n 3, 1) := by decide +kernel
theorem dX2_digest_158 : decode cX2_digest 158 = .ok (.invokevirtual 222, 3) := by decide +kernel
theorem dX2_digest_161 : decode cX2_digest 161 = .ok (.isub, 1) := by decide +kernel
theorem dX2_digest_162 : decode cX2_digest 162 = .ok (.i2l, 1) := by decide +kernel
theorem dX2_digest_163 : decode cX2_digest 163 = .ok (.invokestatic 207, 3) := by decide +kernel
theorem dX2_digest_166 : decode cX2_digest 166 = .ok (.lstore_n 1, 1) := by decide +kernel
theorem dX2_digest_167 : decode cX2_digest 167 = .ok (.iinc 3 1, 3) := by decide +kernel
theorem dX2_digest_170 : decode cX2_digest 170 = .ok (.goto (-37), 3) := by decide +kernel
theorem dX2_digest_173 : decode cX2_digest 173 = .ok (.lload_n 1, 1) := by decide +kernel
theorem dX2_digest_174 : decode cX2_digest 174 = .ok (.aload_n 0, 1) := by decide +kernel
theorem dX2_digest_175 : decode cX2_digest 175 = .ok (.invokevirtual 225, 3) := by decide +kernel
theorem dX2_digest_178 : decode cX2_digest 178 = .ok (.ifCond .eq 7, 3) := by decide +kernel
theorem dX2_digest_181 : decode cX2_digest 181 = .ok (.lconst 1, 1) := by decide +kernel
theorem dX2_digest_182 : decode cX2_digest 182 = .ok (.goto 4, 3) := by decide +kernel
theorem dX2_digest_185 : decode cX2_digest 185 = .ok (.lconst 0, 1) := by decide +kernel
theorem dX2_digest_186 : decode cX2_digest 186 = .ok (.invokestatic 207, 3) := by decide +kernel
theorem dX2_digest_189 : decode cX2_digest 189 = .ok (.lreturn, 1) := by decide +kernel
theorem dX2_summed_0 : decode cX2_summed 0 = .ok (.lload_n 0, 1) := by decide +kernel
theorem dX2_summed_1 : decode cX2_summed 1 = .ok (.ldc2_w 257, 3) := by decide +kernel
theorem dX2_summed_4 : decode cX2_summed 4 = .ok (.lmul, 1) := by decide +kernel
theorem dX2_summed_5 : decode cX2_summed 5 = .ok (.lload_n 2, 1) := by decide +kernel
theorem dX2_summed_6 : decode cX2_summed 6 = .ok (.ladd, 1) := by decide +kernel
theorem dX2_summed_7 : decode cX2_summed 7 = .ok (.lreturn, 1) := by decide +kernel
theorem dX2_summedText_0 : decode cX2_summedText 0 = .ok (.lload_n 0, 1) := by decide +kernel
theorem dX2_summedText_1 : decode cX2_summedText 1 = .ok (.aload_n 2, 1) := by decide +kernel
theorem dX2_summedText_2 : decode cX2_summedText 2 = .ok (.invokevirtual 154, 3) := by decide +kernel
theorem dX2_summedText_5 : decode cX2_summedText 5 = .ok (.i2l, 1) := by decide +kernel
theorem dX2_summedText_6 : decode cX2_summedText 6 = .ok (.invokestatic 207, 3) := by decide +kernel
theorem dX2_summedText_9 : decode cX2_summedText 9 = .ok (.lstore_n 3, 1) := by decide +kernel
theorem dX2_summedText_10 : decode cX2_summedText 10 = .ok (.lload_n 3, 1) := by decide +kernel
theorem dX2_summedText_11 : decode cX2_summedText 11 = .ok (.aload_n 2, 1) := by decide +kernel
theorem dX2_summedText_12 : decode cX2_summedText 12 = .ok (.invokevirtual 66, 3) := by decide +kernel
theorem dX2_summedText_15 : decode cX2_summedText 15 = .ok (.i2l, 1) := by decide +kernel
theorem dX2_summedText_16 : decode cX2_summedText 16 = .ok (.invokestatic 207, 3) := by decide +kernel
theorem dX2_summedText_19 : decode cX2_summedText 19 = .ok (.lstore_n 3, 1) := by decide +kernel
theorem dX2_summedText_20 : decode cX2_summedText 20 = .ok (.lload_n 3, 1) := by decide +kernel
theorem dX2_summedText_21 : decode cX2_summedText 21 = .ok (.aload_n 2, 1) := by decide +kernel
theorem dX2_summedText_22 : decode cX2_summedText 22 = .ok (.invokevirtual 150, 3) := by decide +kernel
theorem dX2_summedText_25 : decode cX2_summedText 25 = .ok (.ifCond .eq 7, 3) := by decide +kernel
theorem dX2_summedText_28 : decode cX2_summedText 28 = .ok (.lconst 1, 1) := by decide +kernel
theorem dX2_summedText_29 : decode cX2_summedText 29 = .ok (.goto 4, 3) := by decide +kernel
theorem dX2_summedText_32 : decode cX2_summedText 32 = .ok (.lconst 0, 1) := by decide +kernel
theorem dX2_summedText_33 : decode cX2_summedText 33 = .ok (.invokestatic 207, 3) := by decide +kernel
theorem dX2_summedText_36 : decode cX2_summedText 36 = .ok (.lstore_n 3, 1) := by decide +kernel
theorem dX2_summedText_37 : decode cX2_summedText 37 = .ok (.lload_n 3, 1) := by decide +kernel
theorem dX2_summedText_38 : decode cX2_summedText 38 = .ok (.aload_n 2, 1) := by decide +kernel
theorem dX2_summedText_39 : decode cX2_summedText 39 = .ok (.iconst 0, 1) := by decide +kernel
theorem dX2_summedText_40 : decode cX2_summedText 40 = .ok (.invokevirtual 98, 3) := by decide +kernel
theorem dX2_summedText_43 : decode cX2_summedText 43 = .ok (.aload_n 2, 1) := by decide +kernel
theorem dX2_summedText_44 : decode cX2_summedText 44 = .ok (.iconst 0, 1) := by decide +kernel
theorem dX2_summedText_45 : decode cX2_summedText 45 = .ok (.invokevirtual 94, 3) := by decide +kernel
theorem dX2_summedText_48 : decode cX2_summedText 48 = .ok (.isub, 1) := by decide +kernel
theorem dX2_summedText_49 : decode cX2_summedText 49 = .ok (.i2l, 1) := by decide +kernel
theorem dX2_summedText_50 : decode cX2_summedText 50 = .ok (.invokestatic 207, 3) := by decide +kernel
theorem dX2_summedText_53 : decode cX2_summedText 53 = .ok (.lstore_n 3, 1) := by decide +kernel
theorem dX2_summedText_54 : decode cX2_summedText 54 = .ok (.lload_n 3, 1) := by decide +kernel
theorem dX2_summedText_55 : decode cX2_summedText 55 = .ok (.aload_n 2, 1) := by decide +kernel
theorem dX2_summedText_56 : decode cX2_summedText 56 = .ok (.iconst 1, 1) := by decide +kernel
theorem dX2_summedText_57 : decode cX2_summedText 57 = .ok (.invokevirtual 98, 3) := by decide +kernel
theorem dX2_summedText_60 : decode cX2_summedText 60 = .ok (.aload_n 2, 1) := by decide +kernel
theorem dX2_summedText_61 : decode cX2_summedText 61 = .ok (.iconst 1, 1) := by decide +kernel
theorem dX2_summedText_62 : decode cX2_summedText 62 = .ok (.invokevirtual 94, 3) := by decide +kernel
theorem dX2_summedText_65 : decode cX2_summedText 65 = .ok (.isub, 1) := by decide +kernel
theorem dX2_summedText_66 : decode cX2_summedText 66 = .ok (.i2l, 1) := by decide +kernel
theorem dX2_summedText_67 : decode cX2_summedText 67 = .ok (.invokestatic 207, 3) := by decide +kernel
theorem dX2_summedText_70 : decode cX2_summedText 70 = .ok (.lreturn, 1) := by decide +kernel
theorem dX2_summedPair_0 : decode cX2_summedPair 0 = .ok (.lload_n 0, 1) := by decide +kernel
theorem dX2_summedPair_1 : decode cX2_summedPair 1 = .ok (.aload_n 2, 1) := by decide +kernel
theorem dX2_summedPair_2 : decode cX2_summedPair 2 = .ok (.aload_n 3, 1) := by decide +kernel
theorem dX2_summedPair_3 : decode cX2_summedPair 3 = .ok (.invokevirtual 168, 3) := by decide +kernel
theorem dX2_summedPair_6 : decode cX2_summedPair 6 = .ok (.i2l, 1) := by decide +kernel
theorem dX2_summedPair_7 : decode cX2_summedPair 7 = .ok (.invokestatic 207, 3) := by decide +kernel
theorem dX2_summedPair_10 : decode cX2_summedPair 10 = .ok (.lstore 4, 2) := by decide +kernel
theorem dX2_summedPair_12 : decode cX2_summedPair 12 = .ok (.lload 4, 2) := by decide +kernel
theorem dX2_summedPair_14 : decode cX2_summedPair 14 = .ok (.aload_n 2, 1) := by decide +kernel
theorem dX2_summedPair_15 : decode cX2_summedPair 15 = .ok (.aload_n 3, 1) := by decide +kernel
theorem dX2_summedPair_16 : decode cX2_summedPair 16 = .ok (.invokevirtual 172, 3) := by decide +kernel
theorem dX2_summedPair_19 : decode cX2_summedPair 19 = .ok (.i2l, 1) := by decide +kernel
theorem dX2_summedPair_20 : decode cX2_summedPair 20 = .ok (.invokestatic 207, 3) := by decide +kernel
theorem dX2_summedPair_23 : decode cX2_summedPair 23 = .ok (.lstore 4, 2) := by decide +kernel
theorem dX2_summedPair_25 : decode cX2_summedPair 25 = .ok (.lload 4, 2) := by decide +kernel
theorem dX2_summedPair_27 : decode cX2_summedPair 27 = .ok (.aload_n 2, 1) := by decide +kernel
theorem dX2_summedPair_28 : decode cX2_summedPair 28 = .ok (.aload_n 3, 1) := by decide +kernel
theorem dX2_summedPair_29 : decode cX2_summedPair 29 = .ok (.iconst 0, 1) := by decide +kernel
theorem dX2_summedPair_30 : decode cX2_summedPair 30 = .ok (.invokevirtual 183, 3) := by decide +kernel
theorem dX2_summedPair_33 : decode cX2_summedPair 33 = .ok (.i2l, 1) := by decide +kernel
theorem dX2_summedPair_34 : decode cX2_summedPair 34 = .ok (.invokestatic 207, 3) := by decide +kernel
theorem dX2_summedPair_37 : decode cX2_summedPair 37 = .ok (.lstore 4, 2) := by decide +kernel
theorem dX2_summedPair_39 : decode cX2_summedPair 39 = .ok (.lload 4, 2) := by decide +kernel
theorem dX2_summedPair_41 : decode cX2_summedPair 41 = .ok (.aload_n 2, 1) := by decide +kernel
theorem dX2_summedPair_42 : decode cX2_summedPair 42 = .ok (.aload_n 3, 1) := by decide +kernel
theorem dX2_summedPair_43 : decode cX2_summedPair 43 = .ok (.iconst 1, 1) := by decide +kernel
theorem dX2_summedPair_44 : decode cX2_summedPair 44 = .ok (.invokevirtual 183, 3) := by decide +kernel
theorem dX2_summedPair_47 : decode cX2_summedPair 47 = .ok (.invokestatic 186, 3) := by decide +kernel
theorem dX2_summedPair_50 : decode cX2_summedPair 50 = .ok (.i2l, 1) := by decide +kernel
theorem dX2_summedPair_51 : decode cX2_summedPair 51 = .ok (.invokestatic 207, 3) := by decide +kernel
theorem dX2_summedPair_54 : decode cX2_summedPair 54 = .ok (.lstore 4, 2) := by decide +kernel
theorem dX2_summedPair_56 : decode cX2_summedPair 56 = .ok (.lload 4, 2) := by decide +kernel
theorem dX2_summedPair_58 : decode cX2_summedPair 58 = .ok (.aload_n 2, 1) := by decide +kernel
theorem dX2_summedPair_59 : decode cX2_summedPair 59 = .ok (.aload_n 3, 1) := by decide +kernel
theorem dX2_summedPair_60 : decode cX2_summedPair 60 = .ok (.iconst 1, 1) := by decide +kernel
theorem dX2_summedPair_61 : decode cX2_summedPair 61 = .ok (.invokevirtual 179, 3) := by decide +kernel
theorem dX2_summedPair_64 : decode cX2_summedPair 64 = .ok (.ifCond .eq 7, 3) := by decide +kernel
theorem dX2_summedPair_67 : decode cX2_summedPair 67 = .ok (.lconst 1, 1) := by decide +kernel
theorem dX2_summedPair_68 : decode cX2_summedPair 68 = .ok (.goto 4, 3) := by decide +kernel
theorem dX2_summedPair_71 : decode cX2_summedPair 71 = .ok (.lconst 0, 1) := by decide +kernel
theorem dX2_summedPair_72 : decode cX2_summedPair 72 = .ok (.invokestatic 207, 3) := by decide +kernel
theorem dX2_summedPair_75 : decode cX2_summedPair 75 = .ok (.lreturn, 1) := by decide +kernel
abbrev rmX2_summed : Room := { frames := 0, cells := 0, slots := 0, locals := 0 }
theorem mX2_summed {l : Launch} {G : Cx} {A : Nat → Prop} {x y : Int64} : Met l yX2_summed (.code yX2_summed cX2_summed 4 (some .long) :: GW) rmX2_summed (PC G A [.long x, .long y] (fun _ => True)) (vp_Sl (fun r => r = x * 31 + y)) 0 0 (fun _ => False) := by
  refine mstart "Signtext" (by decide +kernel) rfl (Nat.le_of_ble_eq_true rfl) ?_
  intro p e s m below meth c ls hx hb hr hts hown hml hlocks hname hC hA hW hl
  have hl : lv_has ls 4 [(0, .long x), (2, .long y)] := hl
  have hK := hC.1
  have hS : va_S A s.heap s.heap [] := va_S.rf
  refine lv_lload_n hx hb dX2_summed_0 rfl (lv_at hl 0 rfl) ?_
  refine lv_ldc2 (v := 31) hx hb hown (hts _ tw_2_203) dX2_summed_1 ?_
  refine lv_lmul hx hb dX2_summed_4 ?_
  refine lv_lload_n hx hb dX2_summed_5 rfl (lv_at hl 1 rfl) ?_
  refine lv_ladd hx hb dX2_summed_6 ?_
  exact p_l hx hb hr hlocks dX2_summed_7 rfl

abbrev rmX2_summedText : Room := { frames := 3, cells := 0, slots := 0, locals := 66 }
theorem mX2_summedText {l : Launch} {G : Cx} {A : Nat → Prop} {x : Int64} {a ca : Nat} {t : List Nat} : Met l yX2_summedText (.code yX2_summedText cX2_summedText 5 (some .long) :: GW) rmX2_summedText (PC G A [.long x, .ref a] (LA G a ca t)) (vp_Sl (fun _ => True)) 0 0 (fun _ => False) := by
  refine mstart "Signtext" (by decide +kernel) rfl (Nat.le_of_ble_eq_true rfl) ?_
  intro p e s m below meth c ls hx hb hr hts hown hml hlocks hname hC hA hW hl
  have hl : lv_has ls 5 [(0, .long x), (2, .ref a)] := hl
  have hK := hC.1
  have hS : va_S A s.heap s.heap [] := va_S.rf
  have t60 := hW.1
  refine lv_lload_n hx hb dX2_summedText_0 rfl (lv_at hl 0 rfl) ?_
  refine lv_aload_n hx hb dX2_summedText_1 rfl (lv_at hl 1 rfl) ?_
  refine kV_i (A := A) (b := a) (As := []) (rest := .long x :: []) ⟨hx, hb, hml, hown, hts⟩ (mX0_hashOfSigns (A := A) (ca := ca)) (cwV 0 hts (gV tw_2_110 tw_2_111 tw_2_112 tw_1_2 tw_2_113) rfl rfl rfl (by decide +kernel) ⟨Nat.le_of_ble_eq_true rfl, Nat.le_of_ble_eq_true rfl⟩) hC hS hA (hW.recv hK) hW rfl rfl hl.1 (Nat.le_of_ble_eq_true rfl) ⟨Nat.zero_le _, Nat.zero_le _⟩ dX2_summedText_2 (fun r9 h9 => lv_cv h9 ?_)
  refine lv_i2l hx hb dX2_summedText_5 rfl ?_
  refine kS_l (A := A) (As := [.long x, .long ((hashL t).toInt64)]) (rest := []) ⟨hx, hb, hml, hown, hts⟩ (mX2_summed (A := A) ) (va_cwS 2 hts (gS tw_2_200 tw_2_201 tw_1_1 tw_2_202) rfl rfl rfl (by decide +kernel) ⟨Nat.le_of_ble_eq_true rfl, Nat.le_of_ble_eq_true rfl⟩) hC hS hA trivial rfl rfl hl.1 (Nat.le_of_ble_eq_true rfl) ⟨Nat.zero_le _, Nat.zero_le _⟩ dX2_summedText_6 (fun y_1 _ => ?_)
  refine lv_lstore_n (lv' := [(3, .long y_1), (0, .long x), (2, .ref a)]) hx hb dX2_summedText_9 rfl hl (by decide) rfl (fun ls hl => ?_)
  refine lv_lload_n hx hb dX2_summedText_10 rfl (lv_at hl 0 rfl) ?_
  refine lv_aload_n hx hb dX2_summedText_11 rfl (lv_at hl 2 rfl) ?_
  refine kV_i (A := A) (b := a) (As := []) (rest := .long y_1 :: []) ⟨hx, hb, hml, hown, hts⟩ (mX0_size (A := A) (ca := ca)) (cwV 0 hts (gV tw_2_30 tw_2_12 tw_2_13 tw_1_2 tw_2_14) rfl rfl rfl (by decide +kernel) ⟨Nat.le_of_ble_eq_true rfl, Nat.le_of_ble_eq_true rfl⟩) hC hS hA (hW.recv hK) hW rfl rfl hl.1 (Nat.le_of_ble_eq_true rfl) ⟨Nat.zero_le _, Nat.zero_le _⟩ dX2_summedText_12 (fun r9 h9 => lv_cv h9 ?_)
  refine lv_i2l hx hb dX2_summedText_15 rfl ?_
  refine kS_l (A := A) (As := [.long y_1, .long ((nI t.length).toInt64)]) (rest := []) ⟨hx, hb, hml, hown, hts⟩ (mX2_summed (A := A) ) (va_cwS 2 hts (gS tw_2_200 tw_2_201 tw_1_1 tw_2_202) rfl rfl rfl (by decide +kernel) ⟨Nat.le_of_ble_eq_true rfl, Nat.le_of_ble_eq_true rfl⟩) hC hS hA trivial rfl rfl hl.1 (Nat.le_of_ble_eq_true rfl) ⟨Nat.zero_le _, Nat.zero_le _⟩ dX2_summedText_16 (fun y_2 _ => ?_)
  refine lv_lstore_n (lv' := [(3, .long y_2), (0, .long x), (2, .ref a)]) hx hb dX2_summedText_19 rfl hl (by decide) rfl (fun ls hl => ?_)
  refine lv_lload_n hx hb dX2_summedText_20 rfl (lv_at hl 0 rfl) ?_
  refine lv_aload_n hx hb dX2_summedText_21 rfl (lv_at hl 2 rfl) ?_
  refine kV_i (A := A) (b := a) (As := []) (rest := .long y_2 :: []) ⟨hx, hb, hml, hown, hts⟩ (mX0_isAllWhite (A := A) (ca := ca)) (cwV 0 hts (gV tw_2_207 tw_2_208 tw_2_209 tw_1_2 tw_2_210) rfl rfl rfl (by decide +kernel) ⟨Nat.le_of_ble_eq_true rfl, Nat.le_of_ble_eq_true rfl⟩) hC hS hA (hW.recv hK) hW rfl rfl hl.1 (Nat.le_of_ble_eq_true rfl) ⟨Nat.zero_le _, Nat.zero_le _⟩ dX2_summedText_22 (fun r9 h9 => lv_cv h9 ?_)
  refine f_eq (tgt := 32) hx hb dX2_summedText_25 (by decide) (fun c_3 => ?_) (fun c_3 => ?_)
  · refine lv_lconst (v := 0) hx hb dX2_summedText_32 (by decide) ?_
    refine kS_l (A := A) (As := [.long y_2, .long 0]) (rest := []) ⟨hx, hb, hml, hown, hts⟩ (mX2_summed (A := A) ) (va_cwS 2 hts (gS tw_2_200 tw_2_201 tw_1_1 tw_2_202) rfl rfl rfl (by decide +kernel) ⟨Nat.le_of_ble_eq_true rfl, Nat.le_of_ble_eq_true rfl⟩) hC hS hA trivial rfl rfl hl.1 (Nat.le_of_ble_eq_true rfl) ⟨Nat.zero_le _, Nat.zero_le _⟩ dX2_summedText_33 (fun y_4 _ => ?_)
    refine lv_lstore_n (lv' := [(3, .long y_4), (0, .long x), (2, .ref a)]) hx hb dX2_summedText_36 rfl hl (by decide) rfl (fun ls hl => ?_)
    refine lv_lload_n hx hb dX2_summedText_37 rfl (lv_at hl 0 rfl) ?_
    refine lv_aload_n hx hb dX2_summedText_38 rfl (lv_at hl 2 rfl) ?_
    refine lv_iconst (v := nI 0) hx hb dX2_summedText_39 (by decide) ?_
    refine kV_i (A := A) (b := a) (As := [.int (bI false)]) (rest := .long y_4 :: []) ⟨hx, hb, hml, hown, hts⟩ (mX0_trimmedEnd (A := A) (ca := ca) (b := false)) (cwV 1 hts (gV tw_2_50 tw_2_51 tw_2_52 tw_1_2 tw_2_53) rfl rfl rfl (by decide +kernel) ⟨Nat.le_of_ble_eq_true rfl, Nat.le_of_ble_eq_true rfl⟩) hC hS hA (hW.recv hK) hW rfl rfl hl.1 (Nat.le_of_ble_eq_true rfl) ⟨Nat.zero_le _, Nat.zero_le _⟩ dX2_summedText_40 (fun r_5 hr_5 => ?_)
    obtain ⟨r_5e, -, rfl⟩ := hr_5
    refine lv_aload_n hx hb dX2_summedText_43 rfl (lv_at hl 2 rfl) ?_
    refine lv_iconst (v := nI 0) hx hb dX2_summedText_44 (by decide) ?_
    refine kV_i (A := A) (b := a) (As := [.int (bI false)]) (rest := .int (nI r_5e) :: .long y_4 :: []) ⟨hx, hb, hml, hown, hts⟩ (mX0_trimmedBegin (A := A) (ca := ca) (b := false)) (cwV 1 hts (gV tw_2_43 tw_2_44 tw_2_45 tw_1_2 tw_2_46) rfl rfl rfl (by decide +kernel) ⟨Nat.le_of_ble_eq_true rfl, Nat.le_of_ble_eq_true rfl⟩) hC hS hA (hW.recv hK) hW rfl rfl hl.1 (Nat.le_of_ble_eq_true rfl) ⟨Nat.zero_le _, Nat.zero_le _⟩ dX2_summedText_45 (fun r9 h9 => lv_cv h9 ?_)
    refine lv_isub hx hb dX2_summedText_48 ?_
    refine lv_i2l hx hb dX2_summedText_49 rfl ?_
    refine kS_l (A := A) (As := [.long y_4, .long ((nI r_5e - nI (tbL false t)).toInt64)]) (rest := []) ⟨hx, hb, hml, hown, hts⟩ (mX2_summed (A := A) ) (va_cwS 2 hts (gS tw_2_200 tw_2_201 tw_1_1 tw_2_202) rfl rfl rfl (by decide +kernel) ⟨Nat.le_of_ble_eq_true rfl, Nat.le_of_ble_eq_true rfl⟩) hC hS hA trivial rfl rfl hl.1 (Nat.le_of_ble_eq_true rfl) ⟨Nat.zero_le _, Nat.zero_le _⟩ dX2_summedText_50 (fun y_6 _ => ?_)
    refine lv_lstore_n (lv' := [(3, .long y_6), (0, .long x), (2, .ref a)]) hx hb dX2_summedText_53 rfl hl (by decide) rfl (fun ls hl => ?_)
    refine lv_lload_n hx hb dX2_summedText_54 rfl (lv_at hl 0 rfl) ?_
    refine lv_aload_n hx hb dX2_summedText_55 rfl (lv_at hl 2 rfl) ?_
    refine lv_iconst (v := nI 1) hx hb dX2_summedText_56 (by decide) ?_
    refine kV_i (A := A) (b := a) (As := [.int (bI true)]) (rest := .long y_6 :: []) ⟨hx, hb, hml, hown, hts⟩ (mX0_trimmedEnd (A := A) (ca := ca) (b := true)) (cwV 1 hts (gV tw_2_50 tw_2_51 tw_2_52 tw_1_2 tw_2_53) rfl rfl rfl (by decide +kernel) ⟨Nat.le_of_ble_eq_true rfl, Nat.le_of_ble_eq_true rfl⟩) hC hS hA (hW.recv hK) hW rfl rfl hl.1 (Nat.le_of_ble_eq_true rfl) ⟨Nat.zero_le _, Nat.zero_le _⟩ dX2_summedText_57 (fun r_7 hr_7 => ?_)
    obtain ⟨r_7e, -, rfl⟩ := hr_7
    refine lv_aload_n hx hb dX2_summedText_60 rfl (lv_at hl 2 rfl) ?_
    refine lv_iconst (v := nI 1) hx hb dX2_summedText_61 (by decide) ?_
    refine kV_i (A := A) (b := a) (As := [.int (bI true)]) (rest := .int (nI r_7e) :: .long y_6 :: []) ⟨hx, hb, hml, hown, hts⟩ (mX0_trimmedBegin (A := A) (ca := ca) (b := true)) (cwV 1 hts (gV tw_2_43 tw_2_44 tw_2_45 tw_1_2 tw_2_46) rfl rfl rfl (by decide +kernel) ⟨Nat.le_of_ble_eq_true rfl, Nat.le_of_ble_eq_true rfl⟩) hC hS hA (hW.recv hK) hW rfl rfl hl.1 (Nat.le_of_ble_eq_true rfl) ⟨Nat.zero_le _, Nat.zero_le _⟩ dX2_summedText_62 (fun r9 h9 => lv_cv h9 ?_)
    refine lv_isub hx hb dX2_summedText_65 ?_
    refine lv_i2l hx hb dX2_summedText_66 rfl ?_
    refine kS_l (A := A) (As := [.long y_6, .long ((nI r_7e - nI (tbL true t)).toInt64)]) (rest := []) ⟨hx, hb, hml, hown, hts⟩ (mX2_summed (A := A) ) (va_cwS 2 hts (gS tw_2_200 tw_2_201 tw_1_1 tw_2_202) rfl rfl rfl (by decide +kernel) ⟨Nat.le_of_ble_eq_true rfl, Nat.le_of_ble_eq_true rfl⟩) hC hS hA trivial rfl rfl hl.1 (Nat.le_of_ble_eq_true rfl) ⟨Nat.zero_le _, Nat.zero_le _⟩ dX2_summedText_67 (fun y_8 _ => ?_)
    exact p_l hx hb hr hlocks dX2_summedText_70 trivial
  · refine lv_lconst (v := 1) hx hb dX2_summedText_28 (by decide) ?_
    refine lv_goto (tgt := 33) hx hb dX2_summedText_29 (by decide) ?_
    refine kS_l (A := A) (As := [.long y_2, .long 1]) (rest := []) ⟨hx, hb, hml, hown, hts⟩ (mX2_summed (A := A) ) (va_cwS 2 hts (gS tw_2_200 tw_2_201 tw_1_1 tw_2_202) rfl rfl rfl (by decide +kernel) ⟨Nat.le_of_ble_eq_true rfl, Nat.le_of_ble_eq_true rfl⟩) hC hS hA trivial rfl rfl hl.1 (Nat.le_of_ble_eq_true rfl) ⟨Nat.zero_le _, Nat.zero_le _⟩ dX2_summedText_33 (fun y_9 _ => ?_)
    refine lv_lstore_n (lv' := [(3, .long y_9), (0, .long x), (2, .ref a)]) hx hb dX2_summedText_36 rfl hl (by decide) rfl (fun ls hl => ?_)
    refine lv_lload_n hx hb dX2_summedText_37 rfl (lv_at hl 0 rfl) ?_
    refine lv_aload_n hx hb dX2_summedText_38 rfl (lv_at hl 2 rfl) ?_
    refine lv_iconst (v := nI 0) hx hb dX2_summedText_39 (by decide) ?_
    refine kV_i (A := A) (b := a) (As := [.int (bI false)]) (rest := .long y_9 :: []) ⟨hx, hb, hml, hown, hts⟩ (mX0_trimmedEnd (A := A) (ca := ca) (b := false)) (cwV 1 hts (gV tw_2_50 tw_2_51 tw_2_52 tw_1_2 tw_2_53) rfl rfl rfl (by decide +kernel) ⟨Nat.le_of_ble_eq_true rfl, Nat.le_of_ble_eq_true rfl⟩) hC hS hA (hW.recv hK) hW rfl rfl hl.1 (Nat.le_of_ble_eq_true rfl) ⟨Nat.zero_le _, Nat.zero_le _⟩ dX2_summedText_40 (fun r_10 hr_10 => ?_)
    obtain ⟨r_10e, -, rfl⟩ := hr_10
    refine lv_aload_n hx hb dX2_summedText_43 rfl (lv_at hl 2 rfl) ?_
    refine lv_iconst (v := nI 0) hx hb dX2_summedText_44 (by decide) ?_
    refine kV_i (A := A) (b := a) (As := [.int (bI false)]) (rest := .int (nI r_10e) :: .long y_9 :: []) ⟨hx, hb, hml, hown, hts⟩ (mX0_trimmedBegin (A := A) (ca := ca) (b := false)) (cwV 1 hts (gV tw_2_43 tw_2_44 tw_2_45 tw_1_2 tw_2_46) rfl rfl rfl (by decide +kernel) ⟨Nat.le_of_ble_eq_true rfl, Nat.le_of_ble_eq_true rfl⟩) hC hS hA (hW.recv hK) hW rfl rfl hl.1 (Nat.le_of_ble_eq_true rfl) ⟨Nat.zero_le _, Nat.zero_le _⟩ dX2_summedText_45 (fun r9 h9 => lv_cv h9 ?_)
    refine lv_isub hx hb dX2_summedText_48 ?_
    refine lv_i2l hx hb dX2_summedText_49 rfl ?_
    refine kS_l (A := A) (As := [.long y_9, .long ((nI r_10e - nI (tbL false t)).toInt64)]) (rest := []) ⟨hx, hb, hml, hown, hts⟩ (mX2_summed (A := A) ) (va_cwS 2 hts (gS tw_2_200 tw_2_201 tw_1_1 tw_2_202) rfl rfl rfl (by decide +kernel) ⟨Nat.le_of_ble_eq_true rfl, Nat.le_of_ble_eq_true rfl⟩) hC hS hA trivial rfl rfl hl.1 (Nat.le_of_ble_eq_true rfl) ⟨Nat.zero_le _, Nat.zero_le _⟩ dX2_summedText_50 (fun y_11 _ => ?_)
    refine lv_lstore_n (lv' := [(3, .long y_11), (0, .long x), (2, .ref a)]) hx hb dX2_summedText_53 rfl hl (by decide) rfl (fun ls hl => ?_)
    refine lv_lload_n hx hb dX2_summedText_54 rfl (lv_at hl 0 rfl) ?_
    refine lv_aload_n hx hb dX2_summedText_55 rfl (lv_at hl 2 rfl) ?_
    refine lv_iconst (v := nI 1) hx hb dX2_summedText_56 (by decide) ?_
    refine kV_i (A := A) (b := a) (As := [.int (bI true)]) (rest := .long y_11 :: []) ⟨hx, hb, hml, hown, hts⟩ (mX0_trimmedEnd (A := A) (ca := ca) (b := true)) (cwV 1 hts (gV tw_2_50 tw_2_51 tw_2_52 tw_1_2 tw_2_53) rfl rfl rfl (by decide +kernel) ⟨Nat.le_of_ble_eq_true rfl, Nat.le_of_ble_eq_true rfl⟩) hC hS hA (hW.recv hK) hW rfl rfl hl.1 (Nat.le_of_ble_eq_true rfl) ⟨Nat.zero_le _, Nat.zero_le _⟩ dX2_summedText_57 (fun r_12 hr_12 => ?_)
    obtain ⟨r_12e, -, rfl⟩ := hr_12
    refine lv_aload_n hx hb dX2_summedText_60 rfl (lv_at hl 2 rfl) ?_
    refine lv_iconst (v := nI 1) hx hb dX2_summedText_61 (by decide) ?_
    refine kV_i (A := A) (b := a) (As := [.int (bI true)]) (rest := .int (nI r_12e) :: .long y_11 :: []) ⟨hx, hb, hml, hown, hts⟩ (mX0_trimmedBegin (A := A) (ca := ca) (b := true)) (cwV 1 hts (gV tw_2_43 tw_2_44 tw_2_45 tw_1_2 tw_2_46) rfl rfl rfl (by decide +kernel) ⟨Nat.le_of_ble_eq_true rfl, Nat.le_of_ble_eq_true rfl⟩) hC hS hA (hW.recv hK) hW rfl rfl hl.1 (Nat.le_of_ble_eq_true rfl) ⟨Nat.zero_le _, Nat.zero_le _⟩ dX2_summedText_62 (fun r9 h9 => lv_cv h9 ?_)
    refine lv_isub hx hb dX2_summedText_65 ?_
    refine lv_i2l hx hb dX2_summedText_66 rfl ?_
    refine kS_l (A := A) (As := [.long y_11, .long ((nI r_12e - nI (tbL true t)).toInt64)]) (rest := []) ⟨hx, hb, hml, hown, hts⟩ (mX2_summed (A := A) ) (va_cwS 2 hts (gS tw_2_200 tw_2_201 tw_1_1 tw_2_202) rfl rfl rfl (by decide +kernel) ⟨Nat.le_of_ble_eq_true rfl, Nat.le_of_ble_eq_true rfl⟩) hC hS hA trivial rfl rfl hl.1 (Nat.le_of_ble_eq_true rfl) ⟨Nat.zero_le _, Nat.zero_le _⟩ dX2_summedText_67 (fun y_13 _ => ?_)
    exact p_l hx hb hr hlocks dX2_summedText_70 trivial

abbrev rmX2_summedPair : Room := { frames := 4, cells := 0, slots := 0, locals := 87 }
theorem mX2_summedPair {l : Launch} {G : Cx} {A : Nat → Prop} {x : Int64} {a ca b cb : Nat} {t u : List Nat} : Met l yX2_summedPair (.code yX2_summedPair cX2_summedPair 6 (some .long) :: GW) rmX2_summedPair (PC G A [.long x, .ref a, .ref b] (fun H => LA G a ca t H ∧ LA G b cb u H)) (vp_Sl (fun _ => True)) 0 0 (fun _ => False) := by
  refine mstart "Signtext" (by decide +kernel) rfl (Nat.le_of_ble_eq_true rfl) ?_
  intro p e s m below meth c ls hx hb hr hts hown hml hlocks hname hC hA hW hl
  have hl : lv_has ls 6 [(0, .long x), (2, .ref a), (3, .ref b)] := hl
  have hK := hC.1
  have hS : va_S A s.heap s.heap [] := va_S.rf
  obtain ⟨hWa, hWb⟩ := hW
  refine lv_lload_n hx hb dX2_summedPair_0 rfl (lv_at hl 0 rfl) ?_
  refine lv_aload_n hx hb dX2_summedPair_1 rfl (lv_at hl 1 rfl) ?_
  refine lv_aload_n hx hb dX2_summedPair_2 rfl (lv_at hl 2 rfl) ?_
  refine kV_i (A := A) (b := a) (As := [.ref b]) (rest := .long x :: []) ⟨hx, hb, hml, hown, hts⟩ (mX0_firstPlaceOf (A := A) (ca := ca) (cb := cb)) (cwV 1 hts (gV tw_2_102 tw_2_103 tw_2_104 tw_1_2 tw_2_105) rfl rfl rfl (by decide +kernel) ⟨Nat.le_of_ble_eq_true rfl, Nat.le_of_ble_eq_true rfl⟩) hC hS hA (hWa.recv hK) ⟨hWa, hWb⟩ rfl rfl hl.1 (Nat.le_of_ble_eq_true rfl) ⟨Nat.zero_le _, Nat.zero_le _⟩ dX2_summedPair_3 (fun r_14 hr_14 => ?_)
  refine lv_i2l hx hb dX2_summedPair_6 rfl ?_
  refine kS_l (A := A) (As := [.long x, .long r_14.toInt64]) (rest := []) ⟨hx, hb, hml, hown, hts⟩ (mX2_summed (A := A) ) (va_cwS 2 hts (gS tw_2_200 tw_2_201 tw_1_1 tw_2_202) rfl rfl rfl (by decide +kernel) ⟨Nat.le_of_ble_eq_true rfl, Nat.le_of_ble_eq_true rfl⟩) hC hS hA trivial rfl rfl hl.1 (Nat.le_of_ble_eq_true rfl) ⟨Nat.zero_le _, Nat.zero_le _⟩ dX2_summedPair_7 (fun y_15 _ => ?_)
  refine lv_lstore (lv' := [(4, .long y_15), (0, .long x), (2, .ref a), (3, .ref b)]) hx hb dX2_summedPair_10 hl (by decide) rfl (fun ls hl => ?_)
  refine lv_lload hx hb dX2_summedPair_12 (lv_at hl 0 rfl) ?_
  refine lv_aload_n hx hb dX2_summedPair_14 rfl (lv_at hl 2 rfl) ?_
  refine lv_aload_n hx hb dX2_summedPair_15 rfl (lv_at hl 3 rfl) ?_
  refine kV_i (A := A) (b := a) (As := [.ref b]) (rest := .long y_15 :: []) ⟨hx, hb, hml, hown, hts⟩ (mX0_lastPlaceOf (A := A) (ca := ca) (cb := cb)) (cwV 1 hts (gV tw_2_106 tw_2_107 tw_2_108 tw_1_2 tw_2_109) rfl rfl rfl (by decide +kernel) ⟨Nat.le_of_ble_eq_true rfl, Nat.le_of_ble_eq_true rfl⟩) hC hS hA (hWa.recv hK) ⟨hWa, hWb⟩ rfl rfl hl.1 (Nat.le_of_ble_eq_true rfl) ⟨Nat.zero_le _, Nat.zero_le _⟩ dX2_summedPair_16 (fun r_16 hr_16 => ?_)
  refine lv_i2l hx hb dX2_summedPair_19 rfl ?_
  refine kS_l (A := A) (As := [.long y_15, .long r_16.toInt64]) (rest := []) ⟨hx, hb, hml, hown, hts⟩ (mX2_summed (A := A) ) (va_cwS 2 hts (gS tw_2_200 tw_2_201 tw_1_1 tw_2_202) rfl rfl rfl (by decide +kernel) ⟨Nat.le_of_ble_eq_true rfl, Nat.le_of_ble_eq_true rfl⟩) hC hS hA trivial rfl rfl hl.1 (Nat.le_of_ble_eq_true rfl) ⟨Nat.zero_le _, Nat.zero_le _⟩ dX2_summedPair_20 (fun y_17 _ => ?_)
  refine lv_lstore (lv' := [(4, .long y_17), (0, .long x), (2, .ref a), (3, .ref b)]) hx hb dX2_summedPair_23 hl (by decide) rfl (fun ls hl => ?_)
  refine lv_lload hx hb dX2_summedPair_25 (lv_at hl 0 rfl) ?_
  refine lv_aload_n hx hb dX2_summedPair_27 rfl (lv_at hl 2 rfl) ?_
  refine lv_aload_n hx hb dX2_summedPair_28 rfl (lv_at hl 3 rfl) ?_
  refine lv_iconst (v := nI 0) hx hb dX2_summedPair_29 (by decide) ?_
  refine kV_i (A := A) (b := a) (As := [.ref b, .int (bI false)]) (rest := .long y_17 :: []) ⟨hx, hb, hml, hown, hts⟩ (mX0_orderTo (A := A) (ca := ca) (cb := cb) (b0 := false)) (cwV 2 hts (gV tw_2_98 tw_2_99 tw_2_100 tw_1_2 tw_2_101) rfl rfl rfl (by decide +kernel) ⟨Nat.le_of_ble_eq_true rfl, Nat.le_of_ble_eq_true rfl⟩) hC hS hA (hWa.recv hK) ⟨hWa, hWb⟩ rfl rfl hl.1 (Nat.le_of_ble_eq_true rfl) ⟨Nat.zero_le _, Nat.zero_le _⟩ dX2_summedPair_30 (fun r_18 hr_18 => ?_)
  refine lv_i2l hx hb dX2_summedPair_33 rfl ?_
  refine kS_l (A := A) (As := [.long y_17, .long r_18.toInt64]) (rest := []) ⟨hx, hb, hml, hown, hts⟩ (mX2_summed (A := A) ) (va_cwS 2 hts (gS tw_2_200 tw_2_201 tw_1_1 tw_2_202) rfl rfl rfl (by decide +kernel) ⟨Nat.le_of_ble_eq_true rfl, Nat.le_of_ble_eq_true rfl⟩) hC hS hA trivial rfl rfl hl.1 (Nat.le_of_ble_eq_true rfl) ⟨Nat.zero_le _, Nat.zero_le _⟩ dX2_summedPair_34 (fun y_19 _ => ?_)
  refine lv_lstore (lv' := [(4, .long y_19), (0, .long x), (2, .ref a), (3, .ref b)]) hx hb dX2_summedPair_37 hl (by decide) rfl (fun ls hl => ?_)
  refine lv_lload hx hb dX2_summedPair_39 (lv_at hl 0 rfl) ?_
  refine lv_aload_n hx hb dX2_summedPair_41 rfl (lv_at hl 2 rfl) ?_
  refine lv_aload_n hx hb dX2_summedPair_42 rfl (lv_at hl 3 rfl) ?_
  refine lv_iconst (v := nI 1) hx hb dX2_summedPair_43 (by decide) ?_
  refine kV_i (A := A) (b := a) (As := [.ref b, .int (bI true)]) (rest := .long y_19 :: []) ⟨hx, hb, hml, hown, hts⟩ (mX0_orderTo (A := A) (ca := ca) (cb := cb) (b0 := true)) (cwV 2 hts (gV tw_2_98 tw_2_99 tw_2_100 tw_1_2 tw_2_101) rfl rfl rfl (by decide +kernel) ⟨Nat.le_of_ble_eq_true rfl, Nat.le_of_ble_eq_true rfl⟩) hC hS hA (hWa.recv hK) ⟨hWa, hWb⟩ rfl rfl hl.1 (Nat.le_of_ble_eq_true rfl) ⟨Nat.zero_le _, Nat.zero_le _⟩ dX2_summedPair_44 (fun r_20 hr_20 => ?_)
  refine kS_i (A := A) (As := [.int r_20]) (rest := .long y_19 :: []) ⟨hx, hb, hml, hown, hts⟩ (mX2_directionOf (A := A) ) (va_cwS 1 hts (gS tw_2_214 tw_2_215 tw_1_1 tw_2_216) rfl rfl rfl (by decide +kernel) ⟨Nat.le_of_ble_eq_true rfl, Nat.le_of_ble_eq_true rfl⟩) hC hS hA  trivial rfl rfl hl.1 (Nat.le_of_ble_eq_true rfl) ⟨Nat.zero_le _, Nat.zero_le _⟩ dX2_summedPair_47 (fun r9 h9 => lv_cv h9 ?_)
  refine lv_i2l hx hb dX2_summedPair_50 rfl ?_
  refine kS_l (A := A) (As := [.long y_19, .long ((sgI r_20).toInt64)]) (rest := []) ⟨hx, hb, hml, hown, hts⟩ (mX2_summed (A := A) ) (va_cwS 2 hts (gS tw_2_200 tw_2_201 tw_1_1 tw_2_202) rfl rfl rfl (by decide +kernel) ⟨Nat.le_of_ble_eq_true rfl, Nat.le_of_ble_eq_true rfl⟩) hC hS hA trivial rfl rfl hl.1 (Nat.le_of_ble_eq_true rfl) ⟨Nat.zero_le _, Nat.zero_le _⟩ dX2_summedPair_51 (fun y_21 _ => ?_)
  refine lv_lstore (lv' := [(4, .long y_21), (0, .long x), (2, .ref a), (3, .ref b)]) hx hb dX2_summedPair_54 hl (by decide) rfl (fun ls hl => ?_)
  refine lv_lload hx hb dX2_summedPair_56 (lv_at hl 0 rfl) ?_
  refine lv_aload_n hx hb dX2_summedPair_58 rfl (lv_at hl 2 rfl) ?_
  refine lv_aload_n hx hb dX2_summedPair_59 rfl (lv_at hl 3 rfl) ?_
  refine lv_iconst (v := nI 1) hx hb dX2_summedPair_60 (by decide) ?_
  refine kV_i (A := A) (b := a) (As := [.ref b, .int (bI true)]) (rest := .long y_21 :: []) ⟨hx, hb, hml, hown, hts⟩ (mX0_isSameAs (A := A) (ca := ca) (cb := cb) (b0 := true)) (cwV 2 hts (gV tw_2_7 tw_2_8 tw_2_9 tw_1_2 tw_2_10) rfl rfl rfl (by decide +kernel) ⟨Nat.le_of_ble_eq_true rfl, Nat.le_of_ble_eq_true rfl⟩) hC hS hA (hWa.recv hK) ⟨hWa, hWb⟩ rfl rfl hl.1 (Nat.le_of_ble_eq_true rfl) ⟨Nat.zero_le _, Nat.zero_le _⟩ dX2_summedPair_61 (fun r_22 hr_22 => ?_)
  obtain ⟨r_22v, -, rfl⟩ := hr_22
  refine f_eq (tgt := 71) hx hb dX2_summedPair_64 (by decide) (fun c_23 => ?_) (fun c_23 => ?_)
  · refine lv_lconst (v := 0) hx hb dX2_summedPair_71 (by decide) ?_
    refine kS_l (A := A) (As := [.long y_21, .long 0]) (rest := []) ⟨hx, hb, hml, hown, hts⟩ (mX2_summed (A := A) ) (va_cwS 2 hts (gS tw_2_200 tw_2_201 tw_1_1 tw_2_202) rfl rfl rfl (by decide +kernel) ⟨Nat.le_of_ble_eq_true rfl, Nat.le_of_ble_eq_true rfl⟩) hC hS hA trivial rfl rfl hl.1 (Nat.le_of_ble_eq_true rfl) ⟨Nat.zero_le _, Nat.zero_le _⟩ dX2_summedPair_72 (fun y_24 _ => ?_)
    exact p_l hx hb hr hlocks dX2_summedPair_75 trivial
  · refine lv_lconst (v := 1) hx hb dX2_summedPair_67 (by decide) ?_
    refine lv_goto (tgt := 72) hx hb dX2_summedPair_68 (by decide) ?_
    refine kS_l (A := A) (As := [.long y_21, .long 1]) (rest := []) ⟨hx, hb, hml, hown, hts⟩ (mX2_summed (A := A) ) (va_cwS 2 hts (gS tw_2_200 tw_2_201 tw_1_1 tw_2_202) rfl rfl rfl (by decide +kernel) ⟨Nat.le_of_ble_eq_true rfl, Nat.le_of_ble_eq_true rfl⟩) hC hS hA trivial rfl rfl hl.1 (Nat.le_of_ble_eq_true rfl) ⟨Nat.zero_le _, Nat.zero_le _⟩ dX2_summedPair_72 (fun y_25 _ => ?_)
    exact p_l hx hb hr hlocks dX2_summedPair_75 trivial

abbrev rmX2_digest : Room := { frames := 7, cells := 5, slots := 30, locals := 155 }
theorem mX2_digest {l : Launch} {G : Cx} {A : Nat → Prop} (hst : l.stackTraces = false) {SA : Nat → Nat} {X : Nat → List Nat} {es : List Nat} {k : Int32} (hAS : ∀ i : Nat, i < 39 → A (SA i)) : vx_Met l yX2_digest (.code yX2_digest cX2_digest 5 (some .long) :: GW) rmX2_digest (PC G A [.ref (SA 0)] (SS G SA X es k)) (qL A (fun _ H => SS G SA X es k H)) (xE A (fun _ _ => False)) 5 30 A := by
  refine mstartX "Signtext" (by decide +kernel) rfl (Nat.le_of_ble_eq_true rfl) ?_
  intro p e s m below meth c ls hx hb hr hts hown hml hlocks hnx hC hA hW hl
  have hl : lv_has ls 5 [(0, .ref (SA 0))] := hl
  have hK := hC.1
  have hS : va_S A s.heap s.heap [] := va_S.rf
  have hSS := hW
  refine lv_ldc2 (v := 6173) hx hb hown (hts _ tw_2_123) dX2_digest_0 ?_
  refine lv_lstore_n (lv' := [(1, .long 6173), (0, .ref (SA 0))]) hx hb dX2_digest_3 rfl hl (by decide) rfl (fun ls hl => ?_)
  refine lv_iconst (v := nI 0) hx hb dX2_digest_4 (by decide) ?_
  refine lv_istore_n (lv' := [(3, .int (nI 0)), (1, .long 6173), (0, .ref (SA 0))]) hx hb dX2_digest_5 rfl hl (by decide) rfl (fun ls hl => ?_)
  have k173 : ∀ (ls : Array Slot) (H : Heap) (L : List Loc) (x : Int64), lv_has ls 5 [(1, .long x), (0, .ref (SA 0))] → va_S A s.heap H L → SS G SA X es k H → W p l e rmX2_digest s m [.ref (SA 0)].toArray below meth c H L 5 30 (vx_MQ below (qL A (fun _ H => SS G SA X es k H)) (xE A (fun _ _ => False)) [.ref (SA 0)].toArray s 5 30 A) (F0 m 173 ls []) := by
    clear hl hS hSS hW
    intro ls H L x hl hS hSS
    have hs9 := hSS
    obtain ⟨T, es2, hW, hF⟩ := hs9
    have hO := hW.2.1
    have hR1 := hW.2.2.1
    have hR2 := hW.2.2.2.1
    refine lv_lload_n hx hb dX2_digest_173 rfl (lv_at hl 0 rfl) ?_
    refine lv_aload_n hx hb dX2_digest_174 rfl (lv_at hl 1 rfl) ?_
    refine qI_V (A := A) (A1 := A) (b := (SA 0)) (As := []) (rest := .long x :: []) ⟨hx, hb, hml, hown, hts⟩ (mX2_isSound (A := A) hAS) (cwV 0 hts (gV tw_2_220 tw_1_232 tw_1_233 tw_1_1 tw_1_234) rfl rfl rfl (by decide +kernel) ⟨Nat.le_of_ble_eq_true rfl, Nat.le_of_ble_eq_true rfl⟩) hC hS (fun _ h => h) (fun q h => hA q (Nat.le_trans hS.1 h)) (hW.recv hK) hSS rfl rfl hl.1 (Nat.le_of_ble_eq_true rfl) ⟨Nat.le_trans (show 5 ≤ 5 by omega) (Nat.le_of_ble_eq_true rfl), Nat.le_trans (show 30 ≤ 30 by omega) (Nat.le_of_ble_eq_true rfl)⟩ dX2_digest_175 (fun rv26 H26 L26 hP26 hk26 hS => ?_)
    have hZ26 := hS.1
    obtain ⟨⟨v26, hv26⟩, hSS⟩ := hP26
    subst hv26
    refine f_eq (tgt := 185) hx hb dX2_digest_178 (by decide) (fun c_27 => ?_) (fun c_27 => ?_)
    · refine lv_lconst (v := 0) hx hb dX2_digest_185 (by decide) ?_
      refine kS_l (A := A) (As := [.long x, .long 0]) (rest := []) ⟨hx, hb, hml, hown, hts⟩ (mX2_summed (A := A) ) (va_cwS 2 hts (gS tw_2_200 tw_2_201 tw_1_1 tw_2_202) rfl rfl rfl (by decide +kernel) ⟨Nat.le_of_ble_eq_true rfl, Nat.le_of_ble_eq_true rfl⟩) hC hS hA trivial rfl rfl hl.1 (Nat.le_of_ble_eq_true rfl) ⟨Nat.le_trans (show 5 ≤ 5 by omega) (Nat.le_of_ble_eq_true rfl), Nat.le_trans (show 30 ≤ 30 by omega) (Nat.le_of_ble_eq_true rfl)⟩ dX2_digest_186 (fun y_28 _ => ?_)
      exact vx_ret (q_l hx hb hr hlocks dX2_digest_189 hS (Nat.le_refl _) (Nat.le_refl _) hSS)
    · refine lv_lconst (v := 1) hx hb dX2_digest_181 (by decide) ?_
      refine lv_goto (tgt := 186) hx hb dX2_digest_182 (by decide) ?_
      refine kS_l (A := A) (As := [.long x, .long 1]) (rest := []) ⟨hx, hb, hml, hown, hts⟩ (mX2_summed (A := A) ) (va_cwS 2 hts (gS tw_2_200 tw_2_201 tw_1_1 tw_2_202) rfl rfl rfl (by decide +kernel) ⟨Nat.le_of_ble_eq_true rfl, Nat.le_of_ble_eq_true rfl⟩) hC hS hA trivial rfl rfl hl.1 (Nat.le_of_ble_eq_true rfl) ⟨Nat.le_trans (show 5 ≤ 5 by omega) (Nat.le_of_ble_eq_true rfl), Nat.le_trans (show 30 ≤ 30 by omega) (Nat.le_of_ble_eq_true rfl)⟩ dX2_digest_186 (fun y_29 _ => ?_)
      exact vx_ret (q_l hx hb hr hlocks dX2_digest_189 hS (Nat.le_refl _) (Nat.le_refl _) hSS)
  have k131 : ∀ (ls : Array Slot) (H : Heap) (L : List Loc) (x : Int64), lv_has ls 5 [(1, .long x), (0, .ref (SA 0))] → va_S A s.heap H L → SS G SA X es k H → W p l e rmX2_digest s m [.ref (SA 0)].toArray below meth c H L 5 30 (vx_MQ below (qL A (fun _ H => SS G SA X es k H)) (xE A (fun _ _ => False)) [.ref (SA 0)].toArray s 5 30 A) (F0 m 131 ls []) := by
    clear hl hS hSS hW
    intro ls H L x hl hS hSS
    refine lv_iconst (v := nI 0) hx hb dX2_digest_131 (by decide) ?_
    refine lv_istore_n (lv' := [(3, .int (nI 0)), (1, .long x), (0, .ref (SA 0))]) hx hb dX2_digest_132 rfl hl (by decide) rfl (fun ls hl => ?_)
    refine nloop (P := fun j => ∀ (ls : Array Slot) (H : Heap) (L : List Loc) (x : Int64), lv_has ls 5 [(3, .int (nI j)), (1, .long x), (0, .ref (SA 0))] → va_S A s.heap H L → SS G SA X es k H → W p l e rmX2_digest s m [.ref (SA 0)].toArray below meth c H L 5 30 (vx_MQ below (qL A (fun _ H => SS G SA X es k H)) (xE A (fun _ _ => False)) [.ref (SA 0)].toArray s 5 30 A) (F0 m 133 ls [])) 61 ?_ 0 (Nat.zero_le _) ls H L x hl hS hSS
    clear hl
    intro j hj ih ls H L x hl
    clear hS hSS
    intro hS hSS
    have hs9 := hSS
    obtain ⟨T, es2, hW, hF⟩ := hs9
    have hO := hW.2.1
    have hR1 := hW.2.2.1
    have hR2 := hW.2.2.2.1
    refine lv_iload_n hx hb dX2_digest_133 rfl (lv_at hl 0 rfl) ?_
    refine lv_aload_n hx hb dX2_digest_134 rfl (lv_at hl 2 rfl) ?_
    refine va_get (D := G.1) (ci := 6) (C := RX2) (T := TX2) (N := 8) hx hb hts inX2 hown hK (at_P hO) 0 rfl rfl 3 (by decide) (hts _ tw_1_140) (fun _ h9 => h9) rfl dX2_digest_135 ?_
    have hPB := hW.pcs.1
    have e61 := hPB.1
    refine kV_i (A := A) (b := (SA 3)) (As := []) (rest := .int (nI j) :: []) ⟨hx, hb, hml, hown, hts⟩ (mX1_size (A := A) (la := SA 35) (ea := SA 4) (es := es)) (cwV 0 hts (gV tw_2_82 tw_2_83 tw_2_84 tw_1_3 tw_2_85) rfl rfl rfl (by decide +kernel) ⟨Nat.le_of_ble_eq_true rfl, Nat.le_of_ble_eq_true rfl⟩) hC hS hA (hPB.recv hK) hPB rfl rfl hl.1 (Nat.le_of_ble_eq_true rfl) ⟨Nat.le_trans (show 5 ≤ 5 by omega) (Nat.le_of_ble_eq_true rfl), Nat.le_trans (show 30 ≤ 30 by omega) (Nat.le_of_ble_eq_true rfl)⟩ dX2_digest_138 (fun r9 h9 => lv_cv h9 ?_)
    refine b_ge (tgt := 173) hx hb dX2_digest_141 (by decide) (by omega) (by omega) (fun c_30 => ?_) (fun c_30 => ?_)
    · exact k173 ls H L x (lv_sub hl [1, 2] rfl) hS hSS
    · refine lv_lload_n hx hb dX2_digest_144 rfl (lv_at hl 1 rfl) ?_
      refine lv_aload_n hx hb dX2_digest_145 rfl (lv_at hl 2 rfl) ?_
      refine va_get (D := G.1) (ci := 6) (C := RX2) (T := TX2) (N := 8) hx hb hts inX2 hown hK (at_P hO) 0 rfl rfl 3 (by decide) (hts _ tw_1_140) (fun _ h9 => h9) rfl dX2_digest_146 ?_
      refine lv_iload_n hx hb dX2_digest_149 rfl (lv_at hl 0 rfl) ?_
      refine kV_i (A := A) (b := (SA 3)) (As := [.int (nI j)]) (rest := .long x :: []) ⟨hx, hb, hml, hown, hts⟩ (mX1_endOf (A := A) (la := SA 35) (ea := SA 4) (es := es) (k := j) (by omega)) (cwV 1 hts (gV tw_2_92 tw_2_79 tw_2_80 tw_1_3 tw_2_81) rfl rfl rfl (by decide +kernel) ⟨Nat.le_of_ble_eq_true rfl, Nat.le_of_ble_eq_true rfl⟩) hC hS hA (hPB.recv hK) hPB rfl rfl hl.1 (Nat.le_of_ble_eq_true rfl) ⟨Nat.le_trans (show 5 ≤ 5 by omega) (Nat.le_of_ble_eq_true rfl), Nat.le_trans (show 30 ≤ 30 by omega) (Nat.le_of_ble_eq_true rfl)⟩ dX2_digest_150 (fun r9 h9 => lv_cv h9 ?_)
      refine lv_aload_n hx hb dX2_digest_153 rfl (lv_at hl 2 rfl) ?_
      refine va_get (D := G.1) (ci := 6) (C := RX2) (T := TX2) (N := 8) hx hb hts inX2 hown hK (at_P hO) 0 rfl rfl 3 (by decide) (hts _ tw_1_140) (fun _ h9 => h9) rfl dX2_digest_154 ?_
      refine lv_iload_n hx hb dX2_digest_157 rfl (lv_at hl 0 rfl) ?_
      refine kV_i (A := A) (b := (SA 3)) (As := [.int (nI j)]) (rest := .int (nI (es.getD j 0)) :: .long x :: []) ⟨hx, hb, hml, hown, hts⟩ (mX1_beginOf (A := A) (la := SA 35) (ea := SA 4) (es := es) (k := j) (by omega)) (cwV 1 hts (gV tw_2_91 tw_2_75 tw_2_76 tw_1_3 tw_2_77) rfl rfl rfl (by decide +kernel) ⟨Nat.le_of_ble_eq_true rfl, Nat.le_of_ble_eq_true rfl⟩) hC hS hA (hPB.recv hK) hPB rfl rfl hl.1 (Nat.le_of_ble_eq_true rfl) ⟨Nat.le_trans (show 5 ≤ 5 by omega) (Nat.le_of_ble_eq_true rfl), Nat.le_trans (show 30 ≤ 30 by omega) (Nat.le_of_ble_eq_true rfl)⟩ dX2_digest_158 (fun r9 h9 => lv_cv h9 ?_)
      refine lv_isub hx hb dX2_digest_161 ?_
      refine lv_i2l hx hb dX2_digest_162 rfl ?_
      refine kS_l (A := A) (As := [.long x, .long ((nI (es.getD j 0) - nI (bgE es j)).toInt64)]) (rest := []) ⟨hx, hb, hml, hown, hts⟩ (mX2_summed (A := A) ) (va_cwS 2 hts (gS tw_2_200 tw_2_201 tw_1_1 tw_2_202) rfl rfl rfl (by decide +kernel) ⟨Nat.le_of_ble_eq_true rfl, Nat.le_of_ble_eq_true rfl⟩) hC hS hA trivial rfl rfl hl.1 (Nat.le_of_ble_eq_true rfl) ⟨Nat.le_trans (show 5 ≤ 5 by omega) (Nat.le_of_ble_eq_true rfl), Nat.le_trans (show 30 ≤ 30 by omega) (Nat.le_of_ble_eq_true rfl)⟩ dX2_digest_163 (fun y_31 _ => ?_)
      refine lv_lstore_n (lv' := [(1, .long y_31), (3, .int (nI j)), (0, .ref (SA 0))]) hx hb dX2_digest_166 rfl hl (by decide) rfl (fun ls hl => ?_)
      refine lv_iinc (v := nI (j + 1)) (lv' := [(3, .int (nI (j + 1))), (1, .long y_31), (0, .ref (SA 0))]) hx hb dX2_digest_167 hl (k := 1) rfl (nI_add j 1) (by decide) rfl (fun ls hl => ?_)
      refine lv_goto (tgt := 133) hx hb dX2_digest_170 (by decide) ?_
      exact ih (j + 1) (by omega) (by omega) ls H L y_31 (lv_sub hl [0, 1, 2] rfl) hS hSS
  have k98 : ∀ (ls : Array Slot) (H : Heap) (L : List Loc) (x : Int64), lv_has ls 5 [(1, .long x), (0, .ref (SA 0))] → va_S A s.heap H L → SS G SA X es k H → W p l e rmX2_digest s m [.ref (SA 0)].toArray below meth c H L 5 30 (vx_MQ below (qL A (fun _ H => SS G SA X es k H)) (xE A (fun _ _ => False)) [.ref (SA 0)].toArray s 5 30 A) (F0 m 98 ls []) := by
    clear hl hS hSS hW
    intro ls H L x hl hS hSS
    refine lv_iconst (v := nI 0) hx hb dX2_digest_98 (by decide) ?_
    refine lv_istore_n (lv' := [(3, .int (nI 0)), (1, .long x), (0, .ref (SA 0))]) hx hb dX2_digest_99 rfl hl (by decide) rfl (fun ls hl => ?_)
    refine nloop (P := fun j => ∀ (ls : Array Slot) (H : Heap) (L : List Loc) (x : Int64), lv_has ls 5 [(3, .int (nI j)), (1, .long x), (0, .ref (SA 0))] → va_S A s.heap H L → SS G SA X es k H → W p l e rmX2_digest s m [.ref (SA 0)].toArray below meth c H L 5 30 (vx_MQ below (qL A (fun _ H => SS G SA X es k H)) (xE A (fun _ _ => False)) [.ref (SA 0)].toArray s 5 30 A) (F0 m 100 ls [])) 61 ?_ 0 (Nat.zero_le _) ls H L x hl hS hSS
    clear hl
    intro j hj ih ls H L x hl
    clear hS hSS
    intro hS hSS
    have hs9 := hSS
    obtain ⟨T, es2, hW, hF⟩ := hs9
    have hO := hW.2.1
    have hR1 := hW.2.2.1
    have hR2 := hW.2.2.2.1
    refine lv_iload_n hx hb dX2_digest_100 rfl (lv_at hl 0 rfl) ?_
    refine lv_aload_n hx hb dX2_digest_101 rfl (lv_at hl 2 rfl) ?_
    refine va_get (D := G.1) (ci := 6) (C := RX2) (T := TX2) (N := 8) hx hb hts inX2 hown hK (at_P hO) 0 rfl rfl 2 (by decide) (hts _ tw_1_139) (fun _ h9 => h9) rfl dX2_digest_102 ?_
    have r60 := (hW.line (i := 11) (by omega)).1
    refine kV_i (A := A) (b := (SA 29)) (As := []) (rest := .int (nI j) :: []) ⟨hx, hb, hml, hown, hts⟩ (mX0_size (A := A) (ca := SA (8 + 2 * 11))) (cwV 0 hts (gV tw_2_30 tw_2_12 tw_2_13 tw_1_2 tw_2_14) rfl rfl rfl (by decide +kernel) ⟨Nat.le_of_ble_eq_true rfl, Nat.le_of_ble_eq_true rfl⟩) hC hS hA ((hW.line (i := 11) (by omega)).recv hK) (hW.line (i := 11) (by omega)) rfl rfl hl.1 (Nat.le_of_ble_eq_true rfl) ⟨Nat.le_trans (show 5 ≤ 5 by omega) (Nat.le_of_ble_eq_true rfl), Nat.le_trans (show 30 ≤ 30 by omega) (Nat.le_of_ble_eq_true rfl)⟩ dX2_digest_105 (fun r9 h9 => lv_cv h9 ?_)
    refine b_ge (tgt := 131) hx hb dX2_digest_108 (by decide) (by omega) (by omega) (fun c_32 => ?_) (fun c_32 => ?_)
    · exact k131 ls H L x (lv_sub hl [1, 2] rfl) hS hSS
    · refine lv_lload_n hx hb dX2_digest_111 rfl (lv_at hl 1 rfl) ?_
      refine lv_aload_n hx hb dX2_digest_112 rfl (lv_at hl 2 rfl) ?_
      refine va_get (D := G.1) (ci := 6) (C := RX2) (T := TX2) (N := 8) hx hb hts inX2 hown hK (at_P hO) 0 rfl rfl 2 (by decide) (hts _ tw_1_139) (fun _ h9 => h9) rfl dX2_digest_113 ?_
      refine lv_iload_n hx hb dX2_digest_116 rfl (lv_at hl 0 rfl) ?_
      refine kV_i (A := A) (b := (SA 29)) (As := [.int (nI j)]) (rest := .long x :: []) ⟨hx, hb, hml, hown, hts⟩ (mX0_codeAt (A := A) (ca := SA (8 + 2 * 11)) (i := j) (by omega)) (cwV 1 hts (gV tw_2_93 tw_2_20 tw_2_21 tw_1_2 tw_2_22) rfl rfl rfl (by decide +kernel) ⟨Nat.le_of_ble_eq_true rfl, Nat.le_of_ble_eq_true rfl⟩) hC hS hA ((hW.line (i := 11) (by omega)).recv hK) (hW.line (i := 11) (by omega)) rfl rfl hl.1 (Nat.le_of_ble_eq_true rfl) ⟨Nat.le_trans (show 5 ≤ 5 by omega) (Nat.le_of_ble_eq_true rfl), Nat.le_trans (show 30 ≤ 30 by omega) (Nat.le_of_ble_eq_true rfl)⟩ dX2_digest_117 (fun r9 h9 => lv_cv h9 ?_)
      refine lv_i2l hx hb dX2_digest_120 rfl ?_
      refine kS_l (A := A) (As := [.long x, .long ((nI ((T 11).getD j 0)).toInt64)]) (rest := []) ⟨hx, hb, hml, hown, hts⟩ (mX2_summed (A := A) ) (va_cwS 2 hts (gS tw_2_200 tw_2_201 tw_1_1 tw_2_202) rfl rfl rfl (by decide +kernel) ⟨Nat.le_of_ble_eq_true rfl, Nat.le_of_ble_eq_true rfl⟩) hC hS hA trivial rfl rfl hl.1 (Nat.le_of_ble_eq_true rfl) ⟨Nat.le_trans (show 5 ≤ 5 by omega) (Nat.le_of_ble_eq_true rfl), Nat.le_trans (show 30 ≤ 30 by omega) (Nat.le_of_ble_eq_true rfl)⟩ dX2_digest_121 (fun y_33 _ => ?_)
      refine lv_lstore_n (lv' := [(1, .long y_33), (3, .int (nI j)), (0, .ref (SA 0))]) hx hb dX2_digest_124 rfl hl (by decide) rfl (fun ls hl => ?_)
      refine lv_iinc (v := nI (j + 1)) (lv' := [(3, .int (nI (j + 1))), (1, .long y_33), (0, .ref (SA 0))]) hx hb dX2_digest_125 hl (k := 1) rfl (nI_add j 1) (by decide) rfl (fun ls hl => ?_)
      refine lv_goto (tgt := 100) hx hb dX2_digest_128 (by decide) ?_
      exact ih (j + 1) (by omega) (by omega) ls H L y_33 (lv_sub hl [0, 1, 2] rfl) hS hSS
  have k52 : ∀ (ls : Array Slot) (H : Heap) (L : List Loc) (x : Int64), lv_has ls 5 [(1, .long x), (0, .ref (SA 0))] → va_S A s.heap H L → SS G SA X es k H → W p l e rmX2_digest s m [.ref (SA 0)].toArray below meth c H L 5 30 (vx_MQ below (qL A (fun _ H => SS G SA X es k H)) (xE A (fun _ _ => False)) [.ref (SA 0)].toArray s 5 30 A) (F0 m 52 ls []) := by
    clear hl hS hSS hW
    intro ls H L x hl hS hSS
    refine lv_iconst (v := nI 0) hx hb dX2_digest_52 (by decide) ?_
    refine lv_istore_n (lv' := [(3, .int (nI 0)), (1, .long x), (0, .ref (SA 0))]) hx hb dX2_digest_53 rfl hl (by decide) rfl (fun ls hl => ?_)
    refine nloop (P := fun j => ∀ (ls : Array Slot) (H : Heap) (L : List Loc) (x : Int64), lv_has ls 5 [(3, .int (nI j)), (1, .long x), (0, .ref (SA 0))] → va_S A s.heap H L → SS G SA X es k H → W p l e rmX2_digest s m [.ref (SA 0)].toArray below meth c H L 5 30 (vx_MQ below (qL A (fun _ H => SS G SA X es k H)) (xE A (fun _ _ => False)) [.ref (SA 0)].toArray s 5 30 A) (F0 m 54 ls [])) 4 ?_ 0 (Nat.zero_le _) ls H L x hl hS hSS
    clear hl
    intro j hj ih ls H L x hl
    clear hS hSS
    intro hS hSS
    have hs9 := hSS
    obtain ⟨T, es2, hW, hF⟩ := hs9
    have hO := hW.2.1
    have hR1 := hW.2.2.1
    have hR2 := hW.2.2.2.1
    refine lv_iload_n hx hb dX2_digest_54 rfl (lv_at hl 0 rfl) ?_
    refine lv_iconst (v := nI 4) hx hb dX2_digest_55 (by decide) ?_
    refine b_ge (tgt := 98) hx hb dX2_digest_56 (by decide) (by omega) (by omega) (fun c_34 => ?_) (fun c_34 => ?_)
    · exact k98 ls H L x (lv_sub hl [1, 2] rfl) hS hSS
    · refine lv_iconst (v := nI 0) hx hb dX2_digest_59 (by decide) ?_
      refine lv_istore (lv' := [(4, .int (nI 0)), (3, .int (nI j)), (1, .long x), (0, .ref (SA 0))]) hx hb dX2_digest_60 hl (by decide) rfl (fun ls hl => ?_)
      have ih1 := ih
      refine nloop (P := fun q => ∀ (ls : Array Slot) (x : Int64), lv_has ls 5 [(4, .int (nI q)), (3, .int (nI j)), (1, .long x), (0, .ref (SA 0))] → W p l e rmX2_digest s m [.ref (SA 0)].toArray below meth c H L 5 30 (vx_MQ below (qL A (fun _ H => SS G SA X es k H)) (xE A (fun _ _ => False)) [.ref (SA 0)].toArray s 5 30 A) (F0 m 62 ls [])) 4 ?_ 0 (Nat.zero_le _) ls x hl 
      clear hl
      intro q hq ih ls x hl
      refine lv_iload hx hb dX2_digest_62 (lv_at hl 0 rfl) ?_
      refine lv_iconst (v := nI 4) hx hb dX2_digest_64 (by decide) ?_
      refine b_ge (tgt := 92) hx hb dX2_digest_65 (by decide) (by omega) (by omega) (fun c_35 => ?_) (fun c_35 => ?_)
      · refine lv_iinc (v := nI (j + 1)) (lv' := [(3, .int (nI (j + 1))), (4, .int (nI q)), (1, .long x), (0, .ref (SA 0))]) hx hb dX2_digest_92 hl (k := 1) rfl (nI_add j 1) (by decide) rfl (fun ls hl => ?_)
        refine lv_goto (tgt := 54) hx hb dX2_digest_95 (by decide) ?_
        exact ih1 (j + 1) (by omega) (by omega) ls H L x (lv_sub hl [0, 2, 3] rfl) hS hSS
      · refine lv_lload_n hx hb dX2_digest_68 rfl (lv_at hl 2 rfl) ?_
        refine lv_aload_n hx hb dX2_digest_69 rfl (lv_at hl 3 rfl) ?_
        refine va_get (D := G.1) (ci := 6) (C := RX2) (T := TX2) (N := 8) hx hb hts inX2 hown hK (at_P hO) 0 rfl rfl 0 (by decide) (hts _ tw_1_137) (fun _ h9 => h9) rfl dX2_digest_70 ?_
        refine lv_iload_n hx hb dX2_digest_73 rfl (lv_at hl 1 rfl) ?_
        refine va_aldq (D := G.1) hx hb hK (at_P hR1) 0 3 rfl rfl (vp_in_nI (n := j) (N := 4) (by omega) (by omega)) dX2_digest_74 ?_
        refine v_cv (show va_rf _ = .ref (SA (7 + 2 * j)) from by rw [nI_clamp (n := j) (by omega)]; rfl) ?_
        refine lv_aload_n hx hb dX2_digest_75 rfl (lv_at hl 3 rfl) ?_
        refine va_get (D := G.1) (ci := 6) (C := RX2) (T := TX2) (N := 8) hx hb hts inX2 hown hK (at_P hO) 0 rfl rfl 0 (by decide) (hts _ tw_1_137) (fun _ h9 => h9) rfl dX2_digest_76 ?_
        refine lv_iload hx hb dX2_digest_79 (lv_at hl 0 rfl) ?_
        refine va_aldq (D := G.1) hx hb hK (at_P hR1) 0 3 rfl rfl (vp_in_nI (n := q) (N := 4) (by omega) (by omega)) dX2_digest_81 ?_
        refine v_cv (show va_rf _ = .ref (SA (7 + 2 * q)) from by rw [nI_clamp (n := q) (by omega)]; rfl) ?_
        refine kS_l (A := A) (As := [.long x, .ref (SA (7 + 2 * j)), .ref (SA (7 + 2 * q))]) (rest := []) ⟨hx, hb, hml, hown, hts⟩ (mX2_summedPair (A := A) (ca := SA (8 + 2 * j)) (cb := SA (8 + 2 * q))) (va_cwS 3 hts (gS tw_2_211 tw_2_212 tw_1_1 tw_2_213) rfl rfl rfl (by decide +kernel) ⟨Nat.le_of_ble_eq_true rfl, Nat.le_of_ble_eq_true rfl⟩) hC hS hA ⟨(hW.line (i := j) (by omega)), (hW.line (i := q) (by omega))⟩ rfl rfl hl.1 (Nat.le_of_ble_eq_true rfl) ⟨Nat.le_trans (show 5 ≤ 5 by omega) (Nat.le_of_ble_eq_true rfl), Nat.le_trans (show 30 ≤ 30 by omega) (Nat.le_of_ble_eq_true rfl)⟩ dX2_digest_82 (fun y_36 _ => ?_)
        refine lv_lstore_n (lv' := [(1, .long y_36), (4, .int (nI q)), (3, .int (nI j)), (0, .ref (SA 0))]) hx hb dX2_digest_85 rfl hl (by decide) rfl (fun ls hl => ?_)
        refine lv_iinc (v := nI (q + 1)) (lv' := [(4, .int (nI (q + 1))), (1, .long y_36), (3, .int (nI j)), (0, .ref (SA 0))]) hx hb dX2_digest_86 hl (k := 1) rfl (nI_add q 1) (by decide) rfl (fun ls hl => ?_)
        refine lv_goto (tgt := 62) hx hb dX2_digest_89 (by decide) ?_
        exact ih (q + 1) (by omega) (by omega) ls y_36 (lv_sub hl [0, 2, 1, 3] rfl)
  have k28 : ∀ (ls : Array Slot) (H : Heap) (L : List Loc) (x : Int64), lv_has ls 5 [(1, .long x), (0, .ref (SA 0))] → va_S A s.heap H L → SS G SA X es k H → W p l e rmX2_digest s m [.ref (SA 0)].toArray below meth c H L 5 30 (vx_MQ below (qL A (fun _ H => SS G SA X es k H)) (xE A (fun _ _ => False)) [.ref (SA 0)].toArray s 5 30 A) (F0 m 28 ls []) := by
    clear hl hS hSS hW
    intro ls H L x hl hS hSS
    refine lv_iconst (v := nI 0) hx hb dX2_digest_28 (by decide) ?_
    refine lv_istore_n (lv' := [(3, .int (nI 0)), (1, .long x), (0, .ref (SA 0))]) hx hb dX2_digest_29 rfl hl (by decide) rfl (fun ls hl => ?_)
    refine nloop (P := fun j => ∀ (ls : Array Slot) (H : Heap) (L : List Loc) (x : Int64), lv_has ls 5 [(3, .int (nI j)), (1, .long x), (0, .ref (SA 0))] → va_S A s.heap H L → SS G SA X es k H → W p l e rmX2_digest s m [.ref (SA 0)].toArray below meth c H L 5 30 (vx_MQ below (qL A (fun _ H => SS G SA X es k H)) (xE A (fun _ _ => False)) [.ref (SA 0)].toArray s 5 30 A) (F0 m 30 ls [])) 4 ?_ 0 (Nat.zero_le _) ls H L x hl hS hSS
    clear hl
    intro j hj ih ls H L x hl
    clear hS hSS
    intro hS hSS
    have hs9 := hSS
    obtain ⟨T, es2, hW, hF⟩ := hs9
    have hO := hW.2.1
    have hR1 := hW.2.2.1
    have hR2 := hW.2.2.2.1
    refine lv_iload_n hx hb dX2_digest_30 rfl (lv_at hl 0 rfl) ?_
    refine lv_iconst (v := nI 4) hx hb dX2_digest_31 (by decide) ?_
    refine b_ge (tgt := 52) hx hb dX2_digest_32 (by decide) (by omega) (by omega) (fun c_37 => ?_) (fun c_37 => ?_)
    · exact k52 ls H L x (lv_sub hl [1, 2] rfl) hS hSS
    · refine lv_lload_n hx hb dX2_digest_35 rfl (lv_at hl 1 rfl) ?_
      refine lv_aload_n hx hb dX2_digest_36 rfl (lv_at hl 2 rfl) ?_
      refine va_get (D := G.1) (ci := 6) (C := RX2) (T := TX2) (N := 8) hx hb hts inX2 hown hK (at_P hO) 0 rfl rfl 0 (by decide) (hts _ tw_1_137) (fun _ h9 => h9) rfl dX2_digest_37 ?_
      refine lv_iload_n hx hb dX2_digest_40 rfl (lv_at hl 0 rfl) ?_
      refine va_aldq (D := G.1) hx hb hK (at_P hR1) 0 3 rfl rfl (vp_in_nI (n := j) (N := 4) (by omega) (by omega)) dX2_digest_41 ?_
      refine v_cv (show va_rf _ = .ref (SA (7 + 2 * j)) from by rw [nI_clamp (n := j) (by omega)]; rfl) ?_
      refine kS_l (A := A) (As := [.long x, .ref (SA (7 + 2 * j))]) (rest := []) ⟨hx, hb, hml, hown, hts⟩ (mX2_summedText (A := A) (ca := SA (8 + 2 * j))) (va_cwS 2 hts (gS tw_2_204 tw_2_205 tw_1_1 tw_2_206) rfl rfl rfl (by decide +kernel) ⟨Nat.le_of_ble_eq_true rfl, Nat.le_of_ble_eq_true rfl⟩) hC hS hA (hW.line (i := j) (by omega)) rfl rfl hl.1 (Nat.le_of_ble_eq_true rfl) ⟨Nat.le_trans (show 5 ≤ 5 by omega) (Nat.le_of_ble_eq_true rfl), Nat.le_trans (show 30 ≤ 30 by omega) (Nat.le_of_ble_eq_true rfl)⟩ dX2_digest_42 (fun y_38 _ => ?_)
      refine lv_lstore_n (lv' := [(1, .long y_38), (3, .int (nI j)), (0, .ref (SA 0))]) hx hb dX2_digest_45 rfl hl (by decide) rfl (fun ls hl => ?_)
      refine lv_iinc (v := nI (j + 1)) (lv' := [(3, .int (nI (j + 1))), (1, .long y_38), (0, .ref (SA 0))]) hx hb dX2_digest_46 hl (k := 1) rfl (nI_add j 1) (by decide) rfl (fun ls hl => ?_)
      refine lv_goto (tgt := 30) hx hb dX2_digest_49 (by decide) ?_
      exact ih (j + 1) (by omega) (by omega) ls H L y_38 (lv_sub hl [0, 1, 2] rfl) hS hSS
  have hl : lv_has ls 5 [(3, .int (nI 0)), (1, .long 6173), (0, .ref (SA 0))] := hl
  refine W.widen (k := 0 * 1) (n := 0 * 6) (by decide) (by decide) ?_
  refine nloop (P := fun j => ∀ (ls : Array Slot) (H : Heap) (L : List Loc) (x : Int64), lv_has ls 5 [(3, .int (nI j)), (1, .long x), (0, .ref (SA 0))] → va_S A s.heap H L → SS G SA X es k H → W p l e rmX2_digest s m [.ref (SA 0)].toArray below meth c H L (j * 1) (j * 6) (vx_MQ below (qL A (fun _ H => SS G SA X es k H)) (xE A (fun _ _ => False)) [.ref (SA 0)].toArray s 5 30 A) (F0 m 6 ls [])) 5 ?_ 0 (Nat.zero_le _) ls s.heap [] 6173 hl hS hSS
  clear hl
  intro j hj ih ls H L x hl
  clear hS hSS hW
  intro hS hSS
  have hs9 := hSS
  obtain ⟨T, es2, hW, hF⟩ := hs9
  have hO := hW.2.1
  have hR1 := hW.2.2.1
  have hR2 := hW.2.2.2.1
  refine lv_iload_n hx hb dX2_digest_6 rfl (lv_at hl 0 rfl) ?_
  refine lv_iconst (v := nI 4) hx hb dX2_digest_7 (by decide) ?_
  refine b_gt (tgt := 28) hx hb dX2_digest_8 (by decide) (by omega) (by omega) (fun c_39 => ?_) (fun c_39 => ?_)
  · refine W.widen (k := 5) (n := 30) (by omega) (by omega) ?_
    exact k28 ls H L x (lv_sub hl [1, 2] rfl) hS hSS
  · refine lv_lload_n hx hb dX2_digest_11 rfl (lv_at hl 1 rfl) ?_
    refine lv_aload_n hx hb dX2_digest_12 rfl (lv_at hl 2 rfl) ?_
    refine lv_iload_n hx hb dX2_digest_13 rfl (lv_at hl 0 rfl) ?_
    refine xI_V (A := A) (A1 := A) (b := (SA 0)) (As := [.int (nI j)]) (rest := .long x :: []) ⟨hx, hb, hml, hown, hts⟩ (mX2_house (A := A) hst hAS) (cwV 1 hts (gV tw_2_124 tw_2_125 tw_2_126 tw_1_1 tw_2_127) rfl rfl rfl (by decide +kernel) ⟨Nat.le_of_ble_eq_true rfl, Nat.le_of_ble_eq_true rfl⟩) hC hS (fun _ h => h) (fun q h => hA q (Nat.le_trans hS.1 h)) (hW.recv hK) hSS rfl rfl hl.1 (Nat.le_of_ble_eq_true rfl) ⟨Nat.le_trans (show (j * 1) + 1 ≤ 5 by omega) (Nat.le_of_ble_eq_true rfl), Nat.le_trans (show (j * 6) + 6 ≤ 30 by omega) (Nat.le_of_ble_eq_true rfl)⟩ dX2_digest_14 hnx hlocks (by omega) (by omega) (fun E H9 q _ => q.1.2 ⟨j, by omega, rfl⟩) (fun rv40 H40 L40 hP40 hk40 hS => ?_)
    have hZ40 := hS.1
    obtain ⟨w9, -, -, -, hSS⟩ := hP40
    refine lv_i2l hx hb dX2_digest_17 rfl ?_
    refine kS_l (A := A) (As := [.long x, .long rv40.toInt64]) (rest := []) ⟨hx, hb, hml, hown, hts⟩ (mX2_summed (A := A) ) (va_cwS 2 hts (gS tw_2_200 tw_2_201 tw_1_1 tw_2_202) rfl rfl rfl (by decide +kernel) ⟨Nat.le_of_ble_eq_true rfl, Nat.le_of_ble_eq_true rfl⟩) hC hS hA trivial rfl rfl hl.1 (Nat.le_of_ble_eq_true rfl) ⟨Nat.le_trans (show ((j * 1) + 1) ≤ 5 by omega) (Nat.le_of_ble_eq_true rfl), Nat.le_trans (show ((j * 6) + 6) ≤ 30 by omega) (Nat.le_of_ble_eq_true rfl)⟩ dX2_digest_18 (fun y_41 _ => ?_)
    refine lv_lstore_n (lv' := [(1, .long y_41), (3, .int (nI j)), (0, .ref (SA 0))]) hx hb dX2_digest_21 rfl hl (by decide) rfl (fun ls hl => ?_)
    refine lv_iinc (v := nI (j + 1)) (lv' := [(3, .int (nI (j + 1))), (1, .long y_41), (0, .ref (SA 0))]) hx hb dX2_digest_22 hl (k := 1) rfl (nI_add j 1) (by decide) rfl (fun ls hl => ?_)
    refine lv_goto (tgt := 6) hx hb dX2_digest_25 (by decide) ?_
    refine W.widen (k := (j + 1) * 1) (n := (j + 1) * 6) (by omega) (by omega) ?_
    exact ih (j + 1) (by omega) (by omega) ls H40 L40 y_41 (lv_sub hl [0, 1, 2] rfl) hS hSS
