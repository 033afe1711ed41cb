/-! The model, 2: readers -/
theorem lN_int {a : Nat} (h : a < 2 ^ 62) : (lN a).toInt = (a : Int) := Int64.toInt_ofNat_of_lt (by omega)
theorem cmpL {a b : Nat} (ha : a < 2 ^ 62) (hb : b < 2 ^ 62) : lg_cmp (lN a) (lN b) ≤ 0 ↔ a ≤ b := by
  have e1 : lN a > lN b ↔ b < a := by rw [gt_iff_lt, Int64.lt_iff_toInt_lt, lN_int ha, lN_int hb]; omega
  have e3 : lN a = lN b ↔ a = b := by rw [← Int64.toInt_inj, lN_int ha, lN_int hb]; omega
  unfold lg_cmp
  by_cases h : lN a > lN b
  · rw [if_pos h]; rw [e1] at h; exact ⟨fun q => absurd q (by decide), fun q => absurd h (by omega)⟩
  · rw [if_neg h]
    rw [e1] at h
    by_cases h2 : lN a = lN b
    · rw [if_pos h2]; exact ⟨fun _ => by omega, fun _ => by decide⟩
    · rw [if_neg h2]; exact ⟨fun _ => by omega, fun _ => by decide⟩
theorem dX4_little_0 : decode cX4_little 0 = .ok (.iload_n 0, 1) := by decide +kernel
theorem dX4_little_1 : decode cX4_little 1 = .ok (.bipush 65, 2) := by decide +kernel
theorem dX4_little_3 : decode cX4_little 3 = .ok (.if_icmp .eq 28, 3) := by decide +kernel
theorem dX4_little_6 : decode cX4_little 6 = .ok (.iload_n 0, 1) := by decide +kernel
theorem dX4_little_7 : decode cX4_little 7 = .ok (.bipush 66, 2) := by decide +kernel
theorem dX4_little_9 : decode cX4_little 9 = .ok (.if_icmp .eq 22, 3) := by decide +kernel
theorem dX4_little_12 : decode cX4_little 12 = .ok (.iload_n 0, 1) := by decide +kernel
theorem dX4_little_13 : decode cX4_little 13 = .ok (.bipush 67, 2) := by decide +kernel
theorem dX4_little_15 : decode cX4_little 15 = .ok (.if_icmp .eq 16, 3) := by decide +kernel
theorem dX4_little_18 : decode cX4_little 18 = .ok (.iload_n 0, 1) := by decide +kernel
theorem dX4_little_19 : decode cX4_little 19 = .ok (.bipush 88, 2) := by decide +kernel
theorem dX4_little_21 : decode cX4_little 21 = .ok (.if_icmp .eq 10, 3) := by decide +kernel
theorem dX4_little_24 : decode cX4_little 24 = .ok (.iload_n 0, 1) := by decide +kernel
theorem dX4_little_25 : decode cX4_little 25 = .ok (.sipush 201, 3) := by decide +kernel
theorem dX4_little_28 : decode cX4_little 28 = .ok (.if_icmp .ne 10, 3) := by decide +kernel
theorem dX4_little_31 : decode cX4_little 31 = .ok (.iload_n 0, 1) := by decide +kernel
theorem dX4_little_32 : decode cX4_little 32 = .ok (.bipush 32, 2) := by decide +kernel
theorem dX4_little_34 : decode cX4_little 34 = .ok (.iadd, 1) := by decide +kernel
theorem dX4_little_35 : decode cX4_little 35 = .ok (.goto 4, 3) := by decide +kernel
theorem dX4_little_38 : decode cX4_little 38 = .ok (.iload_n 0, 1) := by decide +kernel
theorem dX4_little_39 : decode cX4_little 39 = .ok (.ireturn, 1) := by decide +kernel
theorem dX4_trimmed_0 : decode cX4_trimmed 0 = .ok (.iconst 0, 1) := by decide +kernel
theorem dX4_trimmed_1 : decode cX4_trimmed 1 = .ok (.istore_n 2, 1) := by decide +kernel
theorem dX4_trimmed_2 : decode cX4_trimmed 2 = .ok (.aload_n 0, 1) := by decide +kernel
theorem dX4_trimmed_3 : decode cX4_trimmed 3 = .ok (.arraylength, 1) := by decide +kernel
theorem dX4_trimmed_4 : decode cX4_trimmed 4 = .ok (.istore_n 3, 1) := by decide +kernel
theorem dX4_trimmed_5 : decode cX4_trimmed 5 = .ok (.iload_n 2, 1) := by decide +kernel
theorem dX4_trimmed_6 : decode cX4_trimmed 6 = .ok (.iload_n 3, 1) := by decide +kernel
theorem dX4_trimmed_7 : decode cX4_trimmed 7 = .ok (.if_icmp .ge 19, 3) := by decide +kernel
theorem dX4_trimmed_10 : decode cX4_trimmed 10 = .ok (.aload_n 0, 1) := by decide +kernel
theorem dX4_trimmed_11 : decode cX4_trimmed 11 = .ok (.iload_n 2, 1) := by decide +kernel
theorem dX4_trimmed_12 : decode cX4_trimmed 12 = .ok (.iaload, 1) := by decide +kernel
theorem dX4_trimmed_13 : decode cX4_trimmed 13 = .ok (.iload_n 1, 1) := by decide +kernel
theorem dX4_trimmed_14 : decode cX4_trimmed 14 = .ok (.invokestatic 27, 3) := by decide +kernel
theorem dX4_trimmed_17 : decode cX4_trimmed 17 = .ok (.ifCond .eq 9, 3) := by decide +kernel
theorem dX4_trimmed_20 : decode cX4_trimmed 20 = .ok (.iinc 2 1, 3) := by decide +kernel
theorem dX4_trimmed_23 : decode cX4_trimmed 23 = .ok (.goto (-18), 3) := by decide +kernel
theorem dX4_trimmed_26 : decode cX4_trimmed 26 = .ok (.iload_n 3, 1) := by decide +kernel
theorem dX4_trimmed_27 : decode cX4_trimmed 27 = .ok (.iload_n 2, 1) := by decide +kernel
theorem dX4_trimmed_28 : decode cX4_trimmed 28 = .ok (.if_icmp .le 21, 3) := by decide +kernel
theorem dX4_trimmed_31 : decode cX4_trimmed 31 = .ok (.aload_n 0, 1) := by decide +kernel
theorem dX4_trimmed_32 : decode cX4_trimmed 32 = .ok (.iload_n 3, 1) := by decide +kernel
theorem dX4_trimmed_33 : decode cX4_trimmed 33 = .ok (.iconst 1, 1) := by decide +kernel
theorem dX4_trimmed_34 : decode cX4_trimmed 34 = .ok (.isub, 1) := by decide +kernel
theorem dX4_trimmed_35 : decode cX4_trimmed 35 = .ok (.iaload, 1) := by decide +kernel
theorem dX4_trimmed_36 : decode cX4_trimmed 36 = .ok (.iload_n 1, 1) := by decide +kernel
theorem dX4_trimmed_37 : decode cX4_trimmed 37 = .ok (.invokestatic 27, 3) := by decide +kernel
theorem dX4_trimmed_40 : decode cX4_trimmed 40 = .ok (.ifCond .eq 9, 3) := by decide +kernel
theorem dX4_trimmed_43 : decode cX4_trimmed 43 = .ok (.iinc 3 (-1), 3) := by decide +kernel
theorem dX4_trimmed_46 : decode cX4_trimmed 46 = .ok (.goto (-20), 3) := by decide +kernel
theorem dX4_trimmed_49 : decode cX4_trimmed 49 = .ok (.aload_n 0, 1) := by decide +kernel
theorem dX4_trimmed_50 : decode cX4_trimmed 50 = .ok (.iload_n 2, 1) := by decide +kernel
theorem dX4_trimmed_51 : decode cX4_trimmed 51 = .ok (.iload_n 3, 1) := by decide +kernel
theorem dX4_trimmed_52 : decode cX4_trimmed 52 = .ok (.invokestatic 31, 3) := by decide +kernel
theorem dX4_trimmed_55 : decode cX4_trimmed 55 = .ok (.areturn, 1) := by decide +kernel
theorem dX4_stands_0 : decode cX4_stands 0 = .ok (.iload_n 1, 1) := by decide +kernel
theorem dX4_stands_1 : decode cX4_stands 1 = .ok (.ifCond .lt 16, 3) := by decide +kernel
theorem dX4_stands_4 : decode cX4_stands 4 = .ok (.iload_n 1, 1) := by decide +kernel
theorem dX4_stands_5 : decode cX4_stands 5 = .ok (.i2l, 1) := by decide +kernel
theorem dX4_stands_6 : decode cX4_stands 6 = .ok (.aload_n 2, 1) := by decide +kernel
theorem dX4_stands_7 : decode cX4_stands 7 = .ok (.arraylength, 1) := by decide +kernel
theorem dX4_stands_8 : decode cX4_stands 8 = .ok (.i2l, 1) := by decide +kernel
theorem dX4_stands_9 : decode cX4_stands 9 = .ok (.ladd, 1) := by decide +kernel
theorem dX4_stands_10 : decode cX4_stands 10 = .ok (.aload_n 0, 1) := by decide +kernel
theorem dX4_stands_11 : decode cX4_stands 11 = .ok (.arraylength, 1) := by decide +kernel
theorem dX4_stands_12 : decode cX4_stands 12 = .ok (.i2l, 1) := by decide +kernel
theorem dX4_stands_13 : decode cX4_stands 13 = .ok (.lcmp, 1) := by decide +kernel
theorem dX4_stands_14 : decode cX4_stands 14 = .ok (.ifCond .le 5, 3) := by decide +kernel
theorem dX4_stands_17 : decode cX4_stands 17 = .ok (.iconst 0, 1) := by decide +kernel
theorem dX4_stands_18 : decode cX4_stands 18 = .ok (.ireturn, 1) := by decide +kernel
theorem dX4_stands_19 : decode cX4_stands 19 = .ok (.iconst 0, 1) := by decide +kernel
theorem dX4_stands_20 : decode cX4_stands 20 = .ok (.istore 4, 2) := by decide +kernel
theorem dX4_stands_22 : decode cX4_stands 22 = .ok (.iload 4, 2) := by decide +kernel
theorem dX4_stands_24 : decode cX4_stands 24 = .ok (.aload_n 2, 1) := by decide +kernel
theorem dX4_stands_25 : decode cX4_stands 25 = .ok (.arraylength, 1) := by decide +kernel
theorem dX4_stands_26 : decode cX4_stands 26 = .ok (.if_icmp .ge 50, 3) := by decide +kernel
theorem dX4_stands_29 : decode cX4_stands 29 = .ok (.iload_n 3, 1) := by decide +kernel
theorem dX4_stands_30 : decode cX4_stands 30 = .ok (.ifCond .eq 25, 3) := by decide +kernel
theorem dX4_stands_33 : decode cX4_stands 33 = .ok (.aload_n 0, 1) := by decide +kernel
theorem dX4_stands_34 : decode cX4_stands 34 = .ok (.iload_n 1, 1) := by decide +kernel
theorem dX4_stands_35 : decode cX4_stands 35 = .ok (.iload 4, 2) := by decide +kernel
theorem dX4_stands_37 : decode cX4_stands 37 = .ok (.iadd, 1) := by decide +kernel
theorem dX4_stands_38 : decode cX4_stands 38 = .ok (.iaload, 1) := by decide +kernel
theorem dX4_stands_39 : decode cX4_stands 39 = .ok (.invokestatic 35, 3) := by decide +kernel
theorem dX4_stands_42 : decode cX4_stands 42 = .ok (.aload_n 2, 1) := by decide +kernel
theorem dX4_stands_43 : decode cX4_stands 43 = .ok (.iload 4, 2) := by decide +kernel
theorem dX4_stands_45 : decode cX4_stands 45 = .ok (.iaload, 1) := by decide +kernel
theorem dX4_stands_46 : decode cX4_stands 46 = .ok (.invokestatic 35, 3) := by decide +kernel
theorem dX4_stands_49 : decode cX4_stands 49 = .ok (.if_icmp .eq 21, 3) := by decide +kernel
theorem dX4_stands_52 : decode cX4_stands 52 = .ok (.goto 16, 3) := by decide +kernel
theorem dX4_stands_55 : decode cX4_stands 55 = .ok (.aload_n 0, 1) := by decide +kernel
theorem dX4_stands_56 : decode cX4_stands 56 = .ok (.iload_n 1, 1) := by decide +kernel
theorem dX4_stands_57 : decode cX4_stands 57 = .ok (.iload 4, 2) := by decide +kernel
theorem dX4_stands_59 : decode cX4_stands 59 = .ok (.iadd, 1) := by decide +kernel
theorem dX4_stands_60 : decode cX4_stands 60 = .ok (.iaload, 1) := by decide +kernel
theorem dX4_stands_61 : decode cX4_stands 61 = .ok (.aload_n 2, 1) := by decide +kernel
theorem dX4_stands_62 : decode cX4_stands 62 = .ok (.iload 4, 2) := by decide +kernel
theorem dX4_stands_64 : decode cX4_stands 64 = .ok (.iaload, 1) := by decide +kernel
theorem dX4_stands_65 : decode cX4_stands 65 = .ok (.if_icmp .eq 5, 3) := by decide +kernel
theorem dX4_stands_68 : decode cX4_stands 68 = .ok (.iconst 0, 1) := by decide +kernel
theorem dX4_stands_69 : decode cX4_stands 69 = .ok (.ireturn, 1) := by decide +kernel
theorem dX4_stands_70 : decode cX4_stands 70 = .ok (.iinc 4 1, 3) := by decide +kernel
theorem dX4_stands_73 : decode cX4_stands 73 = .ok (.goto (-51), 3) := by decide +kernel
theorem dX4_stands_76 : decode cX4_stands 76 = .ok (.iconst 1, 1) := by decide +kernel
theorem dX4_stands_77 : decode cX4_stands 77 = .ok (.ireturn, 1) := by decide +kernel
theorem dX4_first_0 : decode cX4_first 0 = .ok (.iconst 0, 1) := by decide +kernel
theorem dX4_first_1 : decode cX4_first 1 = .ok (.istore_n 2, 1) := by decide +kernel
theorem dX4_first_2 : decode cX4_first 2 = .ok (.iload_n 2, 1) := by decide +kernel
theorem dX4_first_3 : decode cX4_first 3 = .ok (.aload_n 0, 1) := by decide +kernel
theorem dX4_first_4 : decode cX4_first 4 = .ok (.arraylength, 1) := by decide +kernel
theorem dX4_first_5 : decode cX4_first 5 = .ok (.if_icmp .gt 21, 3) := by decide +kernel
theorem dX4_first_8 : decode cX4_first 8 = .ok (.aload_n 0, 1) := by decide +kernel
theorem dX4_first_9 : decode cX4_first 9 = .ok (.iload_n 2, 1) := by decide +kernel
theorem dX4_first_10 : decode cX4_first 10 = .ok (.aload_n 1, 1) := by decide +kernel
theorem dX4_first_11 : decode cX4_first 11 = .ok (.iconst 0, 1) := by decide +kernel
theorem dX4_first_12 : decode cX4_first 12 = .ok (.invokestatic 39, 3) := by decide +kernel
theorem dX4_first_15 : decode cX4_first 15 = .ok (.ifCond .eq 5, 3) := by decide +kernel
theorem dX4_first_18 : decode cX4_first 18 = .ok (.iload_n 2, 1) := by decide +kernel
theorem dX4_first_19 : decode cX4_first 19 = .ok (.ireturn, 1) := by decide +kernel
theorem dX4_first_20 : decode cX4_first 20 = .ok (.iinc 2 1, 3) := by decide +kernel
theorem dX4_first_23 : decode cX4_first 23 = .ok (.goto (-21), 3) := by decide +kernel
theorem dX4_first_26 : decode cX4_first 26 = .ok (.iconst (-1), 1) := by decide +kernel
theorem dX4_first_27 : decode cX4_first 27 = .ok (.ireturn, 1) := by decide +kernel
theorem dX4_last_0 : decode cX4_last 0 = .ok (.aload_n 0, 1) := by decide +kernel
theorem dX4_last_1 : decode cX4_last 1 = .ok (.arraylength, 1) := by decide +kernel
theorem dX4_last_2 : decode cX4_last 2 = .ok (.istore_n 2, 1) := by decide +kernel
theorem dX4_last_3 : decode cX4_last 3 = .ok (.iload_n 2, 1) := by decide +kernel
theorem dX4_last_4 : decode cX4_last 4 = .ok (.ifCond .lt 21, 3) := by decide +kernel
theorem dX4_last_7 : decode cX4_last 7 = .ok (.aload_n 0, 1) := by decide +kernel
theorem dX4_last_8 : decode cX4_last 8 = .ok (.iload_n 2, 1) := by decide +kernel
theorem dX4_last_9 : decode cX4_last 9 = .ok (.aload_n 1, 1) := by decide +kernel
theorem dX4_last_10 : decode cX4_last 10 = .ok (.iconst 0, 1) := by decide +kernel
theorem dX4_last_11 : decode cX4_last 11 = .ok (.invokestatic 39, 3) := by decide +kernel
theorem dX4_last_14 : decode cX4_last 14 = .ok (.ifCond .eq 5, 3) := by decide +kernel
theorem dX4_last_17 : decode cX4_last 17 = .ok (.iload_n 2, 1) := by decide +kernel
theorem dX4_last_18 : decode cX4_last 18 = .ok (.ireturn, 1) := by decide +kernel
theorem dX4_last_19 : decode cX4_last 19 = .ok (.iinc 2 (-1), 3) := by decide +kernel
theorem dX4_last_22 : decode cX4_last 22 = .ok (.goto (-19), 3) := by decide +kernel
theorem dX4_last_25 : decode cX4_last 25 = .ok (.iconst (-1), 1) := by decide +kernel
theorem dX4_last_26 : decode cX4_last 26 = .ok (.ireturn, 1) := by decide +kernel
theorem dX4_isSame_0 : decode cX4_isSame 0 = .ok (.aload_n 0, 1) := by decide +kernel
theorem dX4_isSame_1 : decode cX4_isSame 1 = .ok (.arraylength, 1) := by decide +kernel
theorem dX4_isSame_2 : decode cX4_isSame 2 = .ok (.aload_n 1, 1) := by decide +kernel
theorem dX4_isSame_3 : decode cX4_isSame 3 = .ok (.arraylength, 1) := by decide +kernel
theorem dX4_isSame_4 : decode cX4_isSame 4 = .ok (.if_icmp .ne 17, 3) := by decide +kernel
theorem dX4_isSame_7 : decode cX4_isSame 7 = .ok (.aload_n 0, 1) := by decide +kernel
theorem dX4_isSame_8 : decode cX4_isSame 8 = .ok (.iconst 0, 1) := by decide +kernel
theorem dX4_isSame_9 : decode cX4_isSame 9 = .ok (.aload_n 1, 1) := by decide +kernel
theorem dX4_isSame_10 : decode cX4_isSame 10 = .ok (.iload_n 2, 1) := by decide +kernel
theorem dX4_isSame_11 : decode cX4_isSame 11 = .ok (.invokestatic 39, 3) := by decide +kernel
theorem dX4_isSame_14 : decode cX4_isSame 14 = .ok (.ifCond .eq 7, 3) := by decide +kernel
theorem dX4_isSame_17 : decode cX4_isSame 17 = .ok (.iconst 1, 1) := by decide +kernel
theorem dX4_isSame_18 : decode cX4_isSame 18 = .ok (.goto 4, 3) := by decide +kernel
theorem dX4_isSame_21 : decode cX4_isSame 21 = .ok (.iconst 0, 1) := by decide +kernel
theorem dX4_isSame_22 : decode cX4_isSame 22 = .ok (.ireturn, 1) := by decide +kernel
theorem dX4_hash_0 : decode cX4_hash 0 = .ok (.iconst 0, 1) := by decide +kernel
theorem dX4_hash_1 : decode cX4_hash 1 = .ok (.istore_n 1, 1) := by decide +kernel
theorem dX4_hash_2 : decode cX4_hash 2 = .ok (.aload_n 0, 1) := by decide +kernel
theorem dX4_hash_3 : decode cX4_hash 3 = .ok (.astore_n 2, 1) := by decide +kernel
theorem dX4_hash_4 : decode cX4_hash 4 = .ok (.aload_n 2, 1) := by decide +kernel
theorem dX4_hash_5 : decode cX4_hash 5 = .ok (.arraylength, 1) := by decide +kernel
theorem dX4_hash_6 : decode cX4_hash 6 = .ok (.istore_n 3, 1) := by decide +kernel
theorem dX4_hash_7 : decode cX4_hash 7 = .ok (.iconst 0, 1) := by decide +kernel
theorem dX4_hash_8 : decode cX4_hash 8 = .ok (.istore 4, 2) := by decide +kernel
theorem dX4_hash_10 : decode cX4_hash 10 = .ok (.iload 4, 2) := by decide +kernel
theorem dX4_hash_12 : decode cX4_hash 12 = .ok (.iload_n 3, 1) := by decide +kernel
theorem dX4_hash_13 : decode cX4_hash 13 = .ok (.if_icmp .ge 23, 3) := by decide +kernel
theorem dX4_hash_16 : decode cX4_hash 16 = .ok (.aload_n 2, 1) := by decide +kernel
theorem dX4_hash_17 : decode cX4_hash 17 = .ok (.iload 4, 2) := by decide +kernel
theorem dX4_hash_19 : decode cX4_hash 19 = .ok (.iaload, 1) := by decide +kernel
theorem dX4_hash_20 : decode cX4_hash 20 = .ok (.istore 5, 2) := by decide +kernel
theorem dX4_hash_22 : decode cX4_hash 22 = .ok (.iload_n 1, 1) := by decide +kernel
theorem dX4_hash_23 : decode cX4_hash 23 = .ok (.bipush 31, 2) := by decide +kernel
theorem dX4_hash_25 : decode cX4_hash 25 = .ok (.imul, 1) := by decide +kernel
theorem dX4_hash_26 : decode cX4_hash 26 = .ok (.iload 5, 2) := by decide +kernel
theorem dX4_hash_28 : decode cX4_hash 28 = .ok (.iadd, 1) := by decide +kernel
theorem dX4_hash_29 : decode cX4_hash 29 = .ok (.istore_n 1, 1) := by decide +kernel
theorem dX4_hash_30 : decode cX4_hash 30 = .ok (.iinc 4 1, 3) := by decide +kernel
theorem dX4_hash_33 : decode cX4_hash 33 = .ok (.goto (-23), 3) := by decide +kernel
theorem dX4_hash_36 : decode cX4_hash 36 = .ok (.iload_n 1, 1) := by decide +kernel
theorem dX4_hash_37 : decode cX4_hash 37 = .ok (.ireturn, 1) := by decide +kernel
abbrev rmX4_little : Room := { frames := 0, cells := 0, slots := 0, locals := 0 }
theorem mX4_little {l : Launch} {G : Cx} {A : Nat → Prop} {k0 : Nat} (hk0 : k0 < 256) : Met l yX4_little (.code yX4_little cX4_little 1 (some .int) :: GW) rmX4_little (PC G A [.int (nI k0)] (fun _ => True)) (vp_Si (fun r => r = nI (litN k0))) 0 0 (fun _ => False) := by
  refine mstart "SigntextModel" (by decide +kernel) rfl (Nat.le_of_ble_eq_true rfl) ?_
  intro p e s m below meth c ls hx hb hr hts hown hml hlocks hname hC hA hW hl
  have hl : lv_has ls 1 [(0, .int (nI k0))] := hl
  have hK := hC.1
  have hS : va_S A s.heap s.heap [] := va_S.rf
  refine lv_iload_n hx hb dX4_little_0 rfl (lv_at hl 0 rfl) ?_
  refine lv_bipush (v := nI 65) hx hb dX4_little_1 (by decide) ?_
  refine b_eq (tgt := 31) hx hb dX4_little_3 (by decide) (by omega) (by omega) (fun c_1 => ?_) (fun c_1 => ?_)
  · refine lv_iload_n hx hb dX4_little_31 rfl (lv_at hl 0 rfl) ?_
    refine lv_bipush (v := nI 32) hx hb dX4_little_32 (by decide) ?_
    refine lv_iadd hx hb dX4_little_34 ?_
    refine lv_cv (nI_add k0 32) ?_
    refine lv_goto (tgt := 39) hx hb dX4_little_35 (by decide) ?_
    exact p_i hx hb hr hlocks dX4_little_39 (by subst c_1; rfl)
  · refine lv_iload_n hx hb dX4_little_6 rfl (lv_at hl 0 rfl) ?_
    refine lv_bipush (v := nI 66) hx hb dX4_little_7 (by decide) ?_
    refine b_eq (tgt := 31) hx hb dX4_little_9 (by decide) (by omega) (by omega) (fun c_2 => ?_) (fun c_2 => ?_)
    · refine lv_iload_n hx hb dX4_little_31 rfl (lv_at hl 0 rfl) ?_
      refine lv_bipush (v := nI 32) hx hb dX4_little_32 (by decide) ?_
      refine lv_iadd hx hb dX4_little_34 ?_
      refine lv_cv (nI_add k0 32) ?_
      refine lv_goto (tgt := 39) hx hb dX4_little_35 (by decide) ?_
      exact p_i hx hb hr hlocks dX4_little_39 (by subst c_2; rfl)
    · refine lv_iload_n hx hb dX4_little_12 rfl (lv_at hl 0 rfl) ?_
      refine lv_bipush (v := nI 67) hx hb dX4_little_13 (by decide) ?_
      refine b_eq (tgt := 31) hx hb dX4_little_15 (by decide) (by omega) (by omega) (fun c_3 => ?_) (fun c_3 => ?_)
      · refine lv_iload_n hx hb dX4_little_31 rfl (lv_at hl 0 rfl) ?_
        refine lv_bipush (v := nI 32) hx hb dX4_little_32 (by decide) ?_
        refine lv_iadd hx hb dX4_little_34 ?_
        refine lv_cv (nI_add k0 32) ?_
        refine lv_goto (tgt := 39) hx hb dX4_little_35 (by decide) ?_
        exact p_i hx hb hr hlocks dX4_little_39 (by subst c_3; rfl)
      · refine lv_iload_n hx hb dX4_little_18 rfl (lv_at hl 0 rfl) ?_
        refine lv_bipush (v := nI 88) hx hb dX4_little_19 (by decide) ?_
        refine b_eq (tgt := 31) hx hb dX4_little_21 (by decide) (by omega) (by omega) (fun c_4 => ?_) (fun c_4 => ?_)
        · refine lv_iload_n hx hb dX4_little_31 rfl (lv_at hl 0 rfl) ?_
          refine lv_bipush (v := nI 32) hx hb dX4_little_32 (by decide) ?_
          refine lv_iadd hx hb dX4_little_34 ?_
          refine lv_cv (nI_add k0 32) ?_
          refine lv_goto (tgt := 39) hx hb dX4_little_35 (by decide) ?_
          exact p_i hx hb hr hlocks dX4_little_39 (by subst c_4; rfl)
        · refine lv_iload_n hx hb dX4_little_24 rfl (lv_at hl 0 rfl) ?_
          refine lv_sipush (v := nI 201) hx hb dX4_little_25 (by decide) ?_
          refine b_ne (tgt := 38) hx hb dX4_little_28 (by decide) (by omega) (by omega) (fun c_5 => ?_) (fun c_5 => ?_)
          · refine lv_iload_n hx hb dX4_little_38 rfl (lv_at hl 0 rfl) ?_
            exact p_i hx hb hr hlocks dX4_little_39 (by unfold litN; rw [if_neg (by omega)])
          · refine lv_iload_n hx hb dX4_little_31 rfl (lv_at hl 0 rfl) ?_
            refine lv_bipush (v := nI 32) hx hb dX4_little_32 (by decide) ?_
            refine lv_iadd hx hb dX4_little_34 ?_
            refine lv_cv (nI_add k0 32) ?_
            refine lv_goto (tgt := 39) hx hb dX4_little_35 (by decide) ?_
            exact p_i hx hb hr hlocks dX4_little_39 (by subst c_5; rfl)

abbrev rmX4_hash : Room := { frames := 1, cells := 0, slots := 0, locals := 20 }
theorem mX4_hash {l : Launch} {G : Cx} {A : Nat → Prop} {a : Nat} {t : List Nat} (t61 : t.length ≤ 61) : Met l yX4_hash (.code yX4_hash cX4_hash 6 (some .int) :: GW) rmX4_hash (PC G A [.ref a] (IA G a t)) (vp_Si (fun r => r = hashL t)) 0 0 (fun _ => False) := by
  refine mstart "SigntextModel" (by decide +kernel) rfl (Nat.le_of_ble_eq_true rfl) ?_
  intro p e s m below meth c ls hx hb hr hts hown hml hlocks hname hC hA hW hl
  have hl : lv_has ls 6 [(0, .ref a)] := hl
  have hK := hC.1
  have hS : va_S A s.heap s.heap [] := va_S.rf
  refine lv_iconst (v := nI 0) hx hb dX4_hash_0 (by decide) ?_
  refine lv_istore_n (lv' := [(1, .int (nI 0)), (0, .ref a)]) hx hb dX4_hash_1 rfl hl (by decide) rfl (fun ls hl => ?_)
  refine lv_aload_n hx hb dX4_hash_2 rfl (lv_at hl 1 rfl) ?_
  refine lv_astore_n (lv' := [(2, .ref a), (1, .int (nI 0)), (0, .ref a)]) hx hb dX4_hash_3 rfl hl (by decide) rfl (fun ls hl => ?_)
  refine lv_aload_n hx hb dX4_hash_4 rfl (lv_at hl 0 rfl) ?_
  refine h_ilen hx hb hC.2.1 hW dX4_hash_5 ?_
  refine lv_istore_n (lv' := [(3, .int (nI t.length)), (2, .ref a), (1, .int (nI 0)), (0, .ref a)]) hx hb dX4_hash_6 rfl hl (by decide) rfl (fun ls hl => ?_)
  refine lv_iconst (v := nI 0) hx hb dX4_hash_7 (by decide) ?_
  refine lv_istore (lv' := [(4, .int (nI 0)), (3, .int (nI t.length)), (2, .ref a), (1, .int (nI 0)), (0, .ref a)]) hx hb dX4_hash_8 hl (by decide) rfl (fun ls hl => ?_)
  have hl : lv_has ls 6 [(4, .int (nI 0)), (3, .int (nI t.length)), (2, .ref a), (1, .int (hashL (t.take 0))), (0, .ref a)] := hl
  refine nloop (P := fun j => ∀ (ls : Array Slot) , lv_has ls 6 [(4, .int (nI j)), (3, .int (nI t.length)), (2, .ref a), (1, .int (hashL (t.take j))), (0, .ref a)] → W p l e rmX4_hash s m [.ref a].toArray below meth c s.heap [] 0 0 (MQ below (vp_Si (fun r => r = hashL t)) [.ref a].toArray s 0 0 (fun _ => False)) (F0 m 10 ls [])) t.length ?_ 0 (Nat.zero_le _) ls  hl 
  clear hl
  intro j hj ih ls  hl
  refine lv_iload hx hb dX4_hash_10 (lv_at hl 0 rfl) ?_
  refine lv_iload_n hx hb dX4_hash_12 rfl (lv_at hl 1 rfl) ?_
  refine b_ge (tgt := 36) hx hb dX4_hash_13 (by decide) (by omega) (by omega) (fun c_6 => ?_) (fun c_6 => ?_)
  · refine lv_iload_n hx hb dX4_hash_36 rfl (lv_at hl 3 rfl) ?_
    exact p_i hx hb hr hlocks dX4_hash_37 (by rw [show j = t.length by omega, List.take_length])
  · refine lv_aload_n hx hb dX4_hash_16 rfl (lv_at hl 2 rfl) ?_
    refine lv_iload hx hb dX4_hash_17 (lv_at hl 0 rfl) ?_
    refine h_ild hx hb hC.2.1 hW (i := j) (by omega) (by omega) dX4_hash_19 ?_
    refine lv_istore (lv' := [(5, .int (nI (t.getD j 0))), (4, .int (nI j)), (3, .int (nI t.length)), (2, .ref a), (1, .int (hashL (t.take j))), (0, .ref a)]) hx hb dX4_hash_20 hl (by decide) rfl (fun ls hl => ?_)
    refine lv_iload_n hx hb dX4_hash_22 rfl (lv_at hl 4 rfl) ?_
    refine lv_bipush (v := nI 31) hx hb dX4_hash_23 (by decide) ?_
    refine lv_imul hx hb dX4_hash_25 ?_
    refine lv_iload hx hb dX4_hash_26 (lv_at hl 0 rfl) ?_
    refine lv_iadd hx hb dX4_hash_28 ?_
    refine lv_cv (show _ = hashL (t.take (j + 1)) by rw [hashL_succ (by omega), Int32.mul_comm]) ?_
    refine lv_istore_n (lv' := [(1, .int (hashL (t.take (j + 1)))), (5, .int (nI (t.getD j 0))), (4, .int (nI j)), (3, .int (nI t.length)), (2, .ref a), (0, .ref a)]) hx hb dX4_hash_29 rfl hl (by decide) rfl (fun ls hl => ?_)
    refine lv_iinc (v := nI (j + 1)) (lv' := [(4, .int (nI (j + 1))), (1, .int (hashL (t.take (j + 1)))), (5, .int (nI (t.getD j 0))), (3, .int (nI t.length)), (2, .ref a), (0, .ref a)]) hx hb dX4_hash_30 hl (k := 2) rfl (nI_add j 1) (by decide) rfl (fun ls hl => ?_)
    refine lv_goto (tgt := 10) hx hb dX4_hash_33 (by decide) ?_
    exact ih (j + 1) (by omega) (by omega) ls (lv_sub hl [0, 3, 4, 1, 5] rfl)

abbrev rmX4_stands : Room := { frames := 1, cells := 0, slots := 0, locals := 20 }
theorem mX4_stands {l : Launch} {G : Cx} {A : Nat → Prop} {a b : Nat} {t u : List Nat} {b0 : Bool} (tok : okc t) (uok : okc u) (t61 : t.length ≤ 61) (u61 : u.length ≤ 61) {i : Nat} (hi : i < 2 ^ 31) : Met l yX4_stands (.code yX4_stands cX4_stands 5 (some .boolean) :: GW) rmX4_stands (PC G A [.ref a, .int (nI i), .ref b, .int (bI b0)] (fun H => IA G a t H ∧ IA G b u H)) (vp_Si (fun r => ∃ v : Bool, (v = true ↔ stL b0 t u i) ∧ r = bI v)) 0 0 (fun _ => False) := by
  refine mstart "SigntextModel" (by decide +kernel) rfl (Nat.le_of_ble_eq_true rfl) ?_
  intro p e s m below meth c ls hx hb hr hts hown hml hlocks hname hC hA hW hl
  have hl : lv_has ls 5 [(0, .ref a), (1, .int (nI i)), (2, .ref b), (3, .int (bI b0))] := hl
  have hK := hC.1
  have hS : va_S A s.heap s.heap [] := va_S.rf
  obtain ⟨hI, hJ⟩ := hW
  refine lv_iload_n hx hb dX4_stands_0 rfl (lv_at hl 1 rfl) ?_
  refine z_lt (tgt := 17) hx hb dX4_stands_1 (by decide) (by omega) ?_
  refine lv_iload_n hx hb dX4_stands_4 rfl (lv_at hl 1 rfl) ?_
  refine lv_i2l hx hb dX4_stands_5 (nI_l (n := i) (by omega)) ?_
  refine lv_aload_n hx hb dX4_stands_6 rfl (lv_at hl 2 rfl) ?_
  refine h_ilen hx hb hC.2.1 hJ dX4_stands_7 ?_
  refine lv_i2l hx hb dX4_stands_8 (nI_l (n := u.length) (by omega)) ?_
  refine lv_ladd hx hb dX4_stands_9 ?_
  refine lv_cvl (lN_add i u.length) ?_
  refine lv_aload_n hx hb dX4_stands_10 rfl (lv_at hl 0 rfl) ?_
  refine h_ilen hx hb hC.2.1 hI dX4_stands_11 ?_
  refine lv_i2l hx hb dX4_stands_12 (nI_l (n := t.length) (by omega)) ?_
  refine W.lcmp hx hb dX4_stands_13 ?_
  refine lv_if_le (tgt := 19) hx hb dX4_stands_14 (by decide) (fun c_8 => ?_) (fun c_8 => ?_)
  · have c7 : i + u.length ≤ t.length := (cmpL (by omega) (by omega)).mp c_8
    refine lv_iconst (v := nI 0) hx hb dX4_stands_19 (by decide) ?_
    refine lv_istore (lv' := [(4, .int (nI 0)), (0, .ref a), (1, .int (nI i)), (2, .ref b), (3, .int (bI b0))]) hx hb dX4_stands_20 hl (by decide) rfl (fun ls hl => ?_)
    refine nloop (P := fun j => ∀ (ls : Array Slot) , lv_has ls 5 [(4, .int (nI j)), (0, .ref a), (1, .int (nI i)), (2, .ref b), (3, .int (bI b0))] → (∀ k : Nat, k < j → viewN b0 (t.getD (i + k) 0) = viewN b0 (u.getD k 0)) → W p l e rmX4_stands s m [.ref a, .int (nI i), .ref b, .int (bI b0)].toArray below meth c s.heap [] 0 0 (MQ below (vp_Si (fun r => ∃ v : Bool, (v = true ↔ stL b0 t u i) ∧ r = bI v)) [.ref a, .int (nI i), .ref b, .int (bI b0)].toArray s 0 0 (fun _ => False)) (F0 m 22 ls [])) u.length ?_ 0 (Nat.zero_le _) ls  hl (fun k hk => absurd hk (Nat.not_lt_zero k))
    clear hl
    intro j hj ih ls  hl
    intro hg
    refine lv_iload hx hb dX4_stands_22 (lv_at hl 0 rfl) ?_
    refine lv_aload_n hx hb dX4_stands_24 rfl (lv_at hl 3 rfl) ?_
    refine h_ilen hx hb hC.2.1 hJ dX4_stands_25 ?_
    refine b_ge (tgt := 76) hx hb dX4_stands_26 (by decide) (by omega) (by omega) (fun c_9 => ?_) (fun c_9 => ?_)
    · refine lv_iconst (v := nI 1) hx hb dX4_stands_76 (by decide) ?_
      exact p_z (b := true) hx hb hr hlocks dX4_stands_77 ⟨true, ⟨fun _ => ⟨c7, fun k hk => hg k (by omega)⟩, fun _ => rfl⟩, rfl⟩
    · have v1 := tok (i + j)
      have v2 := uok j
      have w1 : litN (t.getD (i + j) 0) < 300 := viewN_lt (b := true) v1
      have w2 : litN (u.getD j 0) < 300 := viewN_lt (b := true) v2
      refine lv_iload_n hx hb dX4_stands_29 rfl (lv_at hl 4 rfl) ?_
      refine f_eq (tgt := 55) hx hb dX4_stands_30 (by decide) (fun c_10 => ?_) (fun c_10 => ?_)
      · subst c_10
        refine lv_aload_n hx hb dX4_stands_55 rfl (lv_at hl 1 rfl) ?_
        refine lv_iload_n hx hb dX4_stands_56 rfl (lv_at hl 2 rfl) ?_
        refine lv_iload hx hb dX4_stands_57 (lv_at hl 0 rfl) ?_
        refine lv_iadd hx hb dX4_stands_59 ?_
        refine lv_cv (nI_add i j) ?_
        refine h_ild hx hb hC.2.1 hI (i := i + j) (by omega) (by omega) dX4_stands_60 ?_
        refine lv_aload_n hx hb dX4_stands_61 rfl (lv_at hl 3 rfl) ?_
        refine lv_iload hx hb dX4_stands_62 (lv_at hl 0 rfl) ?_
        refine h_ild hx hb hC.2.1 hJ (i := j) (by omega) (by omega) dX4_stands_64 ?_
        refine b_eq (tgt := 70) hx hb dX4_stands_65 (by decide) (by omega) (by omega) (fun c_11 => ?_) (fun c_11 => ?_)
        · refine lv_iinc (v := nI (j + 1)) (lv' := [(4, .int (nI (j + 1))), (0, .ref a), (1, .int (nI i)), (2, .ref b), (3, .int (bI false))]) hx hb dX4_stands_70 hl (k := 0) rfl (nI_add j 1) (by decide) rfl (fun ls hl => ?_)
          refine lv_goto (tgt := 22) hx hb dX4_stands_73 (by decide) ?_
          exact ih (j + 1) (by omega) (by omega) ls (lv_sub hl [0, 1, 2, 3, 4] rfl) (fun k hk => by rcases Nat.lt_succ_iff_lt_or_eq.mp hk with q | q; exact hg k q; rw [q]; exact c_11)
        · refine lv_iconst (v := nI 0) hx hb dX4_stands_68 (by decide) ?_
          exact p_z (b := false) hx hb hr hlocks dX4_stands_69 ⟨false, ⟨fun q => Bool.noConfusion q, fun q => absurd (q.2 j (by omega)) c_11⟩, rfl⟩
      · subst c_10
        refine lv_aload_n hx hb dX4_stands_33 rfl (lv_at hl 1 rfl) ?_
        refine lv_iload_n hx hb dX4_stands_34 rfl (lv_at hl 2 rfl) ?_
        refine lv_iload hx hb dX4_stands_35 (lv_at hl 0 rfl) ?_
        refine lv_iadd hx hb dX4_stands_37 ?_
        refine lv_cv (nI_add i j) ?_
        refine h_ild hx hb hC.2.1 hI (i := i + j) (by omega) (by omega) dX4_stands_38 ?_
        refine kS_i (A := A) (As := [.int (nI (t.getD (i + j) 0))]) (rest := []) ⟨hx, hb, hml, hown, hts⟩ (mX4_little (A := A) v1) (va_cwS 1 hts (gS tw_6_178 tw_6_179 tw_1_8 tw_6_180) rfl rfl rfl (by decide +kernel) ⟨Nat.le_of_ble_eq_true rfl, Nat.le_of_ble_eq_true rfl⟩) hC hS hA  trivial rfl rfl hl.1 (Nat.le_of_ble_eq_true rfl) ⟨Nat.zero_le _, Nat.zero_le _⟩ dX4_stands_39 (fun r9 h9 => lv_cv h9 ?_)
        refine lv_aload_n hx hb dX4_stands_42 rfl (lv_at hl 3 rfl) ?_
        refine lv_iload hx hb dX4_stands_43 (lv_at hl 0 rfl) ?_
        refine h_ild hx hb hC.2.1 hJ (i := j) (by omega) (by omega) dX4_stands_45 ?_
        refine kS_i (A := A) (As := [.int (nI (u.getD j 0))]) (rest := .int (nI (litN (t.getD (i + j) 0))) :: []) ⟨hx, hb, hml, hown, hts⟩ (mX4_little (A := A) v2) (va_cwS 1 hts (gS tw_6_178 tw_6_179 tw_1_8 tw_6_180) rfl rfl rfl (by decide +kernel) ⟨Nat.le_of_ble_eq_true rfl, Nat.le_of_ble_eq_true rfl⟩) hC hS hA  trivial rfl rfl hl.1 (Nat.le_of_ble_eq_true rfl) ⟨Nat.zero_le _, Nat.zero_le _⟩ dX4_stands_46 (fun r9 h9 => lv_cv h9 ?_)
        refine b_eq (tgt := 70) hx hb dX4_stands_49 (by decide) (by omega) (by omega) (fun c_12 => ?_) (fun c_12 => ?_)
        · refine lv_iinc (v := nI (j + 1)) (lv' := [(4, .int (nI (j + 1))), (0, .ref a), (1, .int (nI i)), (2, .ref b), (3, .int (bI true))]) hx hb dX4_stands_70 hl (k := 0) rfl (nI_add j 1) (by decide) rfl (fun ls hl => ?_)
          refine lv_goto (tgt := 22) hx hb dX4_stands_73 (by decide) ?_
          exact ih (j + 1) (by omega) (by omega) ls (lv_sub hl [0, 1, 2, 3, 4] rfl) (fun k hk => by rcases Nat.lt_succ_iff_lt_or_eq.mp hk with q | q; exact hg k q; rw [q]; exact c_12)
        · refine lv_goto (tgt := 68) hx hb dX4_stands_52 (by decide) ?_
          refine lv_iconst (v := nI 0) hx hb dX4_stands_68 (by decide) ?_
          exact p_z (b := false) hx hb hr hlocks dX4_stands_69 ⟨false, ⟨fun q => Bool.noConfusion q, fun q => absurd (q.2 j (by omega)) c_12⟩, rfl⟩
  · have c7 : ¬ i + u.length ≤ t.length := fun q => c_8 ((cmpL (by omega) (by omega)).mpr q)
    refine lv_iconst (v := nI 0) hx hb dX4_stands_17 (by decide) ?_
    exact p_z (b := false) hx hb hr hlocks dX4_stands_18 ⟨false, ⟨fun q => Bool.noConfusion q, fun q => absurd q.1 c7⟩, rfl⟩

theorem mX4_stands_n {l : Launch} {G : Cx} {A : Nat → Prop} {a b : Nat} {t u : List Nat} {b0 : Bool} (tok : okc t) (uok : okc u) (t61 : t.length ≤ 61) (u61 : u.length ≤ 61) {x : Int32} (hx0 : x < 0) : Met l yX4_stands (.code yX4_stands cX4_stands 5 (some .boolean) :: GW) rmX4_stands (PC G A [.ref a, .int x, .ref b, .int (bI b0)] (fun H => IA G a t H ∧ IA G b u H)) (vp_Si (fun r => r = bI false)) 0 0 (fun _ => False) := by
  refine mstart "SigntextModel" (by decide +kernel) rfl (Nat.le_of_ble_eq_true rfl) ?_
  intro p e s m below meth c ls hx hb hr hts hown hml hlocks hname hC hA hW hl
  have hl : lv_has ls 5 [(0, .ref a), (1, .int x), (2, .ref b), (3, .int (bI b0))] := hl
  have hK := hC.1
  have hS : va_S A s.heap s.heap [] := va_S.rf
  refine lv_iload_n hx hb dX4_stands_0 rfl (lv_at hl 1 rfl) ?_
  refine lv_if_lt (tgt := 17) hx hb dX4_stands_1 (by decide) (fun c_13 => ?_) (fun c_13 => ?_)
  · refine lv_iconst (v := nI 0) hx hb dX4_stands_17 (by decide) ?_
    exact p_z (b := false) hx hb hr hlocks dX4_stands_18 rfl
  · exact absurd hx0 c_13

abbrev rmX4_first : Room := { frames := 2, cells := 0, slots := 0, locals := 44 }
theorem mX4_first {l : Launch} {G : Cx} {A : Nat → Prop} {a b : Nat} {t u : List Nat} (tok : okc t) (uok : okc u) (t61 : t.length ≤ 61) (u61 : u.length ≤ 61) : Met l yX4_first (.code yX4_first cX4_first 3 (some .int) :: GW) rmX4_first (PC G A [.ref a, .ref b] (fun H => IA G a t H ∧ IA G b u H)) (vp_Si (fstR (fun k => stL false t u k))) 0 0 (fun _ => False) := by
  refine mstart "SigntextModel" (by decide +kernel) rfl (Nat.le_of_ble_eq_true rfl) ?_
  intro p e s m below meth c ls hx hb hr hts hown hml hlocks hname hC hA hW hl
  have hl : lv_has ls 3 [(0, .ref a), (1, .ref b)] := hl
  have hK := hC.1
  have hS : va_S A s.heap s.heap [] := va_S.rf
  obtain ⟨hI, hJ⟩ := hW
  refine lv_iconst (v := nI 0) hx hb dX4_first_0 (by decide) ?_
  refine lv_istore_n (lv' := [(2, .int (nI 0)), (0, .ref a), (1, .ref b)]) hx hb dX4_first_1 rfl hl (by decide) rfl (fun ls hl => ?_)
  refine nloop (P := fun j => ∀ (ls : Array Slot) , lv_has ls 3 [(2, .int (nI j)), (0, .ref a), (1, .ref b)] → (∀ k : Nat, k < j → ¬ stL false t u k) → W p l e rmX4_first s m [.ref a, .ref b].toArray below meth c s.heap [] 0 0 (MQ below (vp_Si (fstR (fun k => stL false t u k))) [.ref a, .ref b].toArray s 0 0 (fun _ => False)) (F0 m 2 ls [])) 62 ?_ 0 (Nat.zero_le _) ls  hl (fun k hk => absurd hk (Nat.not_lt_zero k))
  clear hl
  intro j hj ih ls  hl
  intro hg
  refine lv_iload_n hx hb dX4_first_2 rfl (lv_at hl 0 rfl) ?_
  refine lv_aload_n hx hb dX4_first_3 rfl (lv_at hl 1 rfl) ?_
  refine h_ilen hx hb hC.2.1 hI dX4_first_4 ?_
  refine b_gt (tgt := 26) hx hb dX4_first_5 (by decide) (by omega) (by omega) (fun c_14 => ?_) (fun c_14 => ?_)
  · refine lv_iconst (v := (-1)) hx hb dX4_first_26 (by decide) ?_
    exact p_i hx hb hr hlocks dX4_first_27 (Or.inr ⟨fun k q => by rcases Nat.lt_or_ge k j with h | h; exact hg k h q; exact absurd q.1 (by omega), rfl⟩)
  · refine lv_aload_n hx hb dX4_first_8 rfl (lv_at hl 1 rfl) ?_
    refine lv_iload_n hx hb dX4_first_9 rfl (lv_at hl 0 rfl) ?_
    refine lv_aload_n hx hb dX4_first_10 rfl (lv_at hl 2 rfl) ?_
    refine lv_iconst (v := nI 0) hx hb dX4_first_11 (by decide) ?_
    refine kS_i (A := A) (As := [.ref a, .int (nI j), .ref b, .int (bI false)]) (rest := []) ⟨hx, hb, hml, hown, hts⟩ (mX4_stands (A := A) (i := j) (b0 := false) tok uok t61 u61 (by omega)) (va_cwS 4 hts (gS tw_6_175 tw_6_176 tw_1_8 tw_6_177) rfl rfl rfl (by decide +kernel) ⟨Nat.le_of_ble_eq_true rfl, Nat.le_of_ble_eq_true rfl⟩) hC hS hA  ⟨hI, hJ⟩ rfl rfl hl.1 (Nat.le_of_ble_eq_true rfl) ⟨Nat.zero_le _, Nat.zero_le _⟩ dX4_first_12 (fun r_15 hr_15 => ?_)
    obtain ⟨v, hv, rfl⟩ := hr_15
    refine f_eq (tgt := 20) hx hb dX4_first_15 (by decide) (fun c_16 => ?_) (fun c_16 => ?_)
    · subst c_16
      refine lv_iinc (v := nI (j + 1)) (lv' := [(2, .int (nI (j + 1))), (0, .ref a), (1, .ref b)]) hx hb dX4_first_20 hl (k := 0) rfl (nI_add j 1) (by decide) rfl (fun ls hl => ?_)
      refine lv_goto (tgt := 2) hx hb dX4_first_23 (by decide) ?_
      exact ih (j + 1) (by omega) (by omega) ls hl (fun k hk => by rcases Nat.lt_succ_iff_lt_or_eq.mp hk with q | q; exact hg k q; rw [q]; exact fun z => Bool.noConfusion (hv.mpr z))
    · refine lv_iload_n hx hb dX4_first_18 rfl (lv_at hl 0 rfl) ?_
      exact p_i hx hb hr hlocks dX4_first_19 (Or.inl ⟨j, hv.mp c_16, hg, rfl⟩)

abbrev rmX4_last : Room := { frames := 2, cells := 0, slots := 0, locals := 44 }
theorem mX4_last {l : Launch} {G : Cx} {A : Nat → Prop} {a b : Nat} {t u : List Nat} (tok : okc t) (uok : okc u) (t61 : t.length ≤ 61) (u61 : u.length ≤ 61) : Met l yX4_last (.code yX4_last cX4_last 3 (some .int) :: GW) rmX4_last (PC G A [.ref a, .ref b] (fun H => IA G a t H ∧ IA G b u H)) (vp_Si (lstR (fun k => stL false t u k))) 0 0 (fun _ => False) := by
  refine mstart "SigntextModel" (by decide +kernel) rfl (Nat.le_of_ble_eq_true rfl) ?_
  intro p e s m below meth c ls hx hb hr hts hown hml hlocks hname hC hA hW hl
  have hl : lv_has ls 3 [(0, .ref a), (1, .ref b)] := hl
  have hK := hC.1
  have hS : va_S A s.heap s.heap [] := va_S.rf
  obtain ⟨hI, hJ⟩ := hW
  refine lv_aload_n hx hb dX4_last_0 rfl (lv_at hl 0 rfl) ?_
  refine h_ilen hx hb hC.2.1 hI dX4_last_1 ?_
  refine lv_istore_n (lv' := [(2, .int (nI t.length)), (0, .ref a), (1, .ref b)]) hx hb dX4_last_2 rfl hl (by decide) rfl (fun ls hl => ?_)
  rw [← nI_pred t.length] at hl
  refine dloop (P := fun j => ∀ (ls : Array Slot) , lv_has ls 3 [(2, .int (nI j - 1)), (0, .ref a), (1, .ref b)] → j ≤ t.length + 1 → (∀ k : Nat, j ≤ k → ¬ stL false t u k) → W p l e rmX4_last s m [.ref a, .ref b].toArray below meth c s.heap [] 0 0 (MQ below (vp_Si (lstR (fun k => stL false t u k))) [.ref a, .ref b].toArray s 0 0 (fun _ => False)) (F0 m 3 ls [])) ?_ (t.length + 1) ls  hl (Nat.le_refl _) (fun k h1 q => absurd q.1 (by omega))
  clear hl
  intro j ih ls  hl
  intro hj hg
  cases j with
  | zero =>
    refine lv_iload_n hx hb dX4_last_3 rfl (lv_at hl 0 rfl) ?_
    refine lv_if_lt (tgt := 25) hx hb dX4_last_4 (by decide) (fun _ => ?_) (fun q => absurd (by decide) q)
    refine lv_iconst (v := (-1)) hx hb dX4_last_25 (by decide) ?_
    exact p_i hx hb hr hlocks dX4_last_26 (Or.inr ⟨fun k q => hg k (Nat.zero_le _) q, rfl⟩)
  | succ j =>
    rw [nI_pred] at hl
    refine lv_iload_n hx hb dX4_last_3 rfl (lv_at hl 0 rfl) ?_
    refine z_lt (tgt := 25) hx hb dX4_last_4 (by decide) (by omega) ?_
    refine lv_aload_n hx hb dX4_last_7 rfl (lv_at hl 1 rfl) ?_
    refine lv_iload_n hx hb dX4_last_8 rfl (lv_at hl 0 rfl) ?_
    refine lv_aload_n hx hb dX4_last_9 rfl (lv_at hl 2 rfl) ?_
    refine lv_iconst (v := nI 0) hx hb dX4_last_10 (by decide) ?_
    refine kS_i (A := A) (As := [.ref a, .int (nI j), .ref b, .int (bI false)]) (rest := []) ⟨hx, hb, hml, hown, hts⟩ (mX4_stands (A := A) (i := j) (b0 := false) tok uok t61 u61 (by omega)) (va_cwS 4 hts (gS tw_6_175 tw_6_176 tw_1_8 tw_6_177) rfl rfl rfl (by decide +kernel) ⟨Nat.le_of_ble_eq_true rfl, Nat.le_of_ble_eq_true rfl⟩) hC hS hA  ⟨hI, hJ⟩ rfl rfl hl.1 (Nat.le_of_ble_eq_true rfl) ⟨Nat.zero_le _, Nat.zero_le _⟩ dX4_last_11 (fun r_18 hr_18 => ?_)
    obtain ⟨v, hv, rfl⟩ := hr_18
    refine f_eq (tgt := 19) hx hb dX4_last_14 (by decide) (fun c_19 => ?_) (fun c_19 => ?_)
    · subst c_19
      refine lv_iinc (v := nI j - 1) (lv' := [(2, .int (nI j - 1)), (0, .ref a), (1, .ref b)]) hx hb dX4_last_19 hl (k := 0) rfl (m1_eq j) (by decide) rfl (fun ls hl => ?_)
      refine lv_goto (tgt := 3) hx hb dX4_last_22 (by decide) ?_
      exact ih j (Nat.lt_succ_self j) ls hl (by omega) (fun k h1 => by rcases Nat.lt_or_ge j k with q | q; exact hg k q; rw [show k = j by omega]; exact fun z => Bool.noConfusion (hv.mpr z))
    · refine lv_iload_n hx hb dX4_last_17 rfl (lv_at hl 0 rfl) ?_
      exact p_i hx hb hr hlocks dX4_last_18 (Or.inl ⟨j, hv.mp c_19, fun k h1 => hg k h1, rfl⟩)

abbrev rmX4_isSame : Room := { frames := 2, cells := 0, slots := 0, locals := 44 }
theorem mX4_isSame {l : Launch} {G : Cx} {A : Nat → Prop} {a b : Nat} {t u : List Nat} {b0 : Bool} (tok : okc t) (uok : okc u) (t61 : t.length ≤ 61) (u61 : u.length ≤ 61) : Met l yX4_isSame (.code yX4_isSame cX4_isSame 3 (some .boolean) :: GW) rmX4_isSame (PC G A [.ref a, .ref b, .int (bI b0)] (fun H => IA G a t H ∧ IA G b u H)) (vp_Si (fun r => ∃ v : Bool, (v = true ↔ t.length = u.length ∧ stL b0 t u 0) ∧ r = bI v)) 0 0 (fun _ => False) := by
  refine mstart "SigntextModel" (by decide +kernel) rfl (Nat.le_of_ble_eq_true rfl) ?_
  intro p e s m below meth c ls hx hb hr hts hown hml hlocks hname hC hA hW hl
  have hl : lv_has ls 3 [(0, .ref a), (1, .ref b), (2, .int (bI b0))] := hl
  have hK := hC.1
  have hS : va_S A s.heap s.heap [] := va_S.rf
  obtain ⟨hI, hJ⟩ := hW
  refine lv_aload_n hx hb dX4_isSame_0 rfl (lv_at hl 0 rfl) ?_
  refine h_ilen hx hb hC.2.1 hI dX4_isSame_1 ?_
  refine lv_aload_n hx hb dX4_isSame_2 rfl (lv_at hl 1 rfl) ?_
  refine h_ilen hx hb hC.2.1 hJ dX4_isSame_3 ?_
  refine b_ne (tgt := 21) hx hb dX4_isSame_4 (by decide) (by omega) (by omega) (fun c_20 => ?_) (fun c_20 => ?_)
  · refine lv_iconst (v := nI 0) hx hb dX4_isSame_21 (by decide) ?_
    exact p_z (b := false) hx hb hr hlocks dX4_isSame_22 ⟨false, ⟨fun q => Bool.noConfusion q, fun q => absurd q.1 c_20⟩, rfl⟩
  · refine lv_aload_n hx hb dX4_isSame_7 rfl (lv_at hl 0 rfl) ?_
    refine lv_iconst (v := nI 0) hx hb dX4_isSame_8 (by decide) ?_
    refine lv_aload_n hx hb dX4_isSame_9 rfl (lv_at hl 1 rfl) ?_
    refine lv_iload_n hx hb dX4_isSame_10 rfl (lv_at hl 2 rfl) ?_
    refine kS_i (A := A) (As := [.ref a, .int (nI 0), .ref b, .int (bI b0)]) (rest := []) ⟨hx, hb, hml, hown, hts⟩ (mX4_stands (A := A) (i := 0) (b0 := b0) tok uok t61 u61 (by omega)) (va_cwS 4 hts (gS tw_6_175 tw_6_176 tw_1_8 tw_6_177) rfl rfl rfl (by decide +kernel) ⟨Nat.le_of_ble_eq_true rfl, Nat.le_of_ble_eq_true rfl⟩) hC hS hA  ⟨hI, hJ⟩ rfl rfl hl.1 (Nat.le_of_ble_eq_true rfl) ⟨Nat.zero_le _, Nat.zero_le _⟩ dX4_isSame_11 (fun r_21 hr_21 => ?_)
    obtain ⟨v, hv, rfl⟩ := hr_21
    refine f_eq (tgt := 21) hx hb dX4_isSame_14 (by decide) (fun c_22 => ?_) (fun c_22 => ?_)
    · refine lv_iconst (v := nI 0) hx hb dX4_isSame_21 (by decide) ?_
      exact p_z (b := false) hx hb hr hlocks dX4_isSame_22 ⟨false, ⟨fun q => Bool.noConfusion q, fun q => absurd (hv.mpr q.2) (by rw [c_22]; decide)⟩, rfl⟩
    · refine lv_iconst (v := nI 1) hx hb dX4_isSame_17 (by decide) ?_
      refine lv_goto (tgt := 22) hx hb dX4_isSame_18 (by decide) ?_
      exact p_z (b := true) hx hb hr hlocks dX4_isSame_22 ⟨true, ⟨fun _ => ⟨c_20, hv.mp c_22⟩, fun _ => rfl⟩, rfl⟩

abbrev rmX4_trimmed : Room := { frames := 2, cells := 1, slots := 61, locals := 44 }
theorem mX4_trimmed {l : Launch} {G : Cx} {A : Nat → Prop} {a sz : Nat} {t : List Nat} {b : Bool} (tok : okc t) (t61 : t.length ≤ 61) : Met l yX4_trimmed (.code yX4_trimmed cX4_trimmed 4 (some (.array .int)) :: GW) rmX4_trimmed (PC G A [.ref a, .int (bI b)] (fun H => H.size = sz ∧ IA G a t H)) (qR A (fun r H => sz ≤ r ∧ ∃ e9, isTe b t e9 ∧ IA0 G r (cutL t (tbL b t) e9) H)) 1 61 (A) := by
  refine mstart "SigntextModel" (by decide +kernel) rfl (Nat.le_of_ble_eq_true rfl) ?_
  intro p e s m below meth c ls hx hb hr hts hown hml hlocks hname hC hA hW hl
  have hl : lv_has ls 4 [(0, .ref a), (1, .int (bI b))] := hl
  have hK := hC.1
  have hS : va_S A s.heap s.heap [] := va_S.rf
  obtain ⟨hsz, hI⟩ := hW
  have tb9 := tbL_le b t
  refine lv_iconst (v := nI 0) hx hb dX4_trimmed_0 (by decide) ?_
  refine lv_istore_n (lv' := [(2, .int (nI 0)), (0, .ref a), (1, .int (bI b))]) hx hb dX4_trimmed_1 rfl hl (by decide) rfl (fun ls hl => ?_)
  refine lv_aload_n hx hb dX4_trimmed_2 rfl (lv_at hl 1 rfl) ?_
  refine h_ilen hx hb hC.2.1 hI dX4_trimmed_3 ?_
  refine lv_istore_n (lv' := [(3, .int (nI t.length)), (2, .int (nI 0)), (0, .ref a), (1, .int (bI b))]) hx hb dX4_trimmed_4 rfl hl (by decide) rfl (fun ls hl => ?_)
  refine nloop (P := fun j => ∀ (ls : Array Slot) , lv_has ls 4 [(3, .int (nI t.length)), (2, .int (nI j)), (0, .ref a), (1, .int (bI b))] → (∀ k : Nat, k < j → goesN b (t.getD k 0) = true) → W p l e rmX4_trimmed s m [.ref a, .int (bI b)].toArray below meth c s.heap [] 0 0 (MQ below (qR A (fun r H => sz ≤ r ∧ ∃ e9, isTe b t e9 ∧ IA0 G r (cutL t (tbL b t) e9) H)) [.ref a, .int (bI b)].toArray s 1 61 (A)) (F0 m 5 ls [])) t.length ?_ 0 (Nat.zero_le _) ls  hl (fun k hk => absurd hk (Nat.not_lt_zero k))
  clear hl
  intro j hj ih ls  hl
  intro hg
  have k26 : ∀ (j : Nat) (ls : Array Slot), lv_has ls 4 [(3, .int (nI j)), (2, .int (nI (tbL b t))), (0, .ref a), (1, .int (bI b))] → j ≤ t.length → tbL b t ≤ j → (∀ k : Nat, j ≤ k → k < t.length → goesN b (t.getD k 0) = true) → W p l e rmX4_trimmed s m [.ref a, .int (bI b)].toArray below meth c s.heap [] 0 0 (MQ below (qR A (fun r H => sz ≤ r ∧ ∃ e9, isTe b t e9 ∧ IA0 G r (cutL t (tbL b t) e9) H)) [.ref a, .int (bI b)].toArray s 1 61 (A)) (F0 m 26 ls []) := by
    clear hl ih hg
    refine dloop ?_
    intro j ih ls hl hj hj2 hg
    refine lv_iload_n hx hb dX4_trimmed_26 rfl (lv_at hl 0 rfl) ?_
    refine lv_iload_n hx hb dX4_trimmed_27 rfl (lv_at hl 1 rfl) ?_
    refine b_le (tgt := 49) hx hb dX4_trimmed_28 (by decide) (by omega) (by omega) (fun c_23 => ?_) (fun c_23 => ?_)
    · refine lv_aload_n hx hb dX4_trimmed_49 rfl (lv_at hl 2 rfl) ?_
      refine lv_iload_n hx hb dX4_trimmed_50 rfl (lv_at hl 1 rfl) ?_
      refine lv_iload_n hx hb dX4_trimmed_51 rfl (lv_at hl 0 rfl) ?_
      refine qR_S (A := A) (A1 := nw s.heap.size)  (As := [.ref a, .int (nI (tbL b t)), .int (nI j)]) (rest := []) ⟨hx, hb, hml, hown, hts⟩ (mX4_cut (A := nw s.heap.size) (sz := sz) (t := t) (i := tbL b t) (i2 := j) hj2 hj t61) (va_cwS 3 hts (gS tw_4_226 tw_4_227 tw_1_8 tw_4_228) rfl rfl rfl (by decide +kernel) ⟨Nat.le_of_ble_eq_true rfl, Nat.le_of_ble_eq_true rfl⟩) hC hS (nw_in hA (Nat.le_refl _)) nw_n  ⟨hsz, hI⟩ rfl rfl hl.1 (Nat.le_of_ble_eq_true rfl) ⟨Nat.le_trans (show 0 + 1 ≤ 1 by omega) (Nat.le_of_ble_eq_true rfl), Nat.le_trans (show 0 + 61 ≤ 61 by omega) (Nat.le_of_ble_eq_true rfl)⟩ dX4_trimmed_52 (fun rv24 H24 L24 hP24 hk24 hS => ?_)
      have hZ24 := hS.1
      exact q_a hx hb hr (Or.inr ⟨_, rfl⟩) hlocks dX4_trimmed_55 hS (by omega) (by omega) ⟨hP24.1, j, ⟨hj2, hj, hg, fun q => absurd q (by omega)⟩, hP24.2⟩
    · obtain ⟨i, rfl⟩ : ∃ i, j = i + 1 := ⟨j - 1, by omega⟩
      refine lv_aload_n hx hb dX4_trimmed_31 rfl (lv_at hl 2 rfl) ?_
      refine lv_iload_n hx hb dX4_trimmed_32 rfl (lv_at hl 0 rfl) ?_
      refine lv_iconst (v := nI 1) hx hb dX4_trimmed_33 (by decide) ?_
      refine lv_isub hx hb dX4_trimmed_34 ?_
      refine lv_cv (nI_pred i) ?_
      refine h_ild hx hb hC.2.1 hI (i := i) (by omega) (by omega) dX4_trimmed_35 ?_
      refine lv_iload_n hx hb dX4_trimmed_36 rfl (lv_at hl 3 rfl) ?_
      have toki := tok i
      refine kS_i (A := A) (As := [.int (nI (t.getD i 0)), .int (bI b)]) (rest := []) ⟨hx, hb, hml, hown, hts⟩ (mX4_goes (A := A) (k0 := t.getD i 0) (b := b) (by omega)) (va_cwS 2 hts (gS tw_5_12 tw_5_13 tw_1_8 tw_5_14) rfl rfl rfl (by decide +kernel) ⟨Nat.le_of_ble_eq_true rfl, Nat.le_of_ble_eq_true rfl⟩) hC hS hA  trivial rfl rfl hl.1 (Nat.le_of_ble_eq_true rfl) ⟨Nat.zero_le _, Nat.zero_le _⟩ dX4_trimmed_37 (fun r9 h9 => lv_cv h9 ?_)
      refine f_eq (tgt := 49) hx hb dX4_trimmed_40 (by decide) (fun c_25 => ?_) (fun c_25 => ?_)
      · refine lv_aload_n hx hb dX4_trimmed_49 rfl (lv_at hl 2 rfl) ?_
        refine lv_iload_n hx hb dX4_trimmed_50 rfl (lv_at hl 1 rfl) ?_
        refine lv_iload_n hx hb dX4_trimmed_51 rfl (lv_at hl 0 rfl) ?_
        refine qR_S (A := A) (A1 := nw s.heap.size)  (As := [.ref a, .int (nI (tbL b t)), .int (nI (i + 1))]) (rest := []) ⟨hx, hb, hml, hown, hts⟩ (mX4_cut (A := nw s.heap.size) (sz := sz) (t := t) (i := tbL b t) (i2 := i + 1) hj2 hj t61) (va_cwS 3 hts (gS tw_4_226 tw_4_227 tw_1_8 tw_4_228) rfl rfl rfl (by decide +kernel) ⟨Nat.le_of_ble_eq_true rfl, Nat.le_of_ble_eq_true rfl⟩) hC hS (nw_in hA (Nat.le_refl _)) nw_n  ⟨hsz, hI⟩ rfl rfl hl.1 (Nat.le_of_ble_eq_true rfl) ⟨Nat.le_trans (show 0 + 1 ≤ 1 by omega) (Nat.le_of_ble_eq_true rfl), Nat.le_trans (show 0 + 61 ≤ 61 by omega) (Nat.le_of_ble_eq_true rfl)⟩ dX4_trimmed_52 (fun rv26 H26 L26 hP26 hk26 hS => ?_)
        have hZ26 := hS.1
        exact q_a hx hb hr (Or.inr ⟨_, rfl⟩) hlocks dX4_trimmed_55 hS (by omega) (by omega) ⟨hP26.1, i + 1, ⟨hj2, hj, hg, fun _ => c_25⟩, hP26.2⟩
      · refine lv_iinc (v := nI i) (lv' := [(3, .int (nI i)), (2, .int (nI (tbL b t))), (0, .ref a), (1, .int (bI b))]) hx hb dX4_trimmed_43 hl (k := 0) rfl (pk_m1 i) (by decide) rfl (fun ls hl => ?_)
        refine lv_goto (tgt := 26) hx hb dX4_trimmed_46 (by decide) ?_
        exact ih i (Nat.lt_succ_self i) ls (lv_sub hl [0, 1, 2, 3] rfl) (by omega) (by omega) (fun k h1 h2 => by rcases Nat.lt_or_ge i k with q | q; exact hg k q h2; rw [show k = i by omega]; exact c_25)
  refine lv_iload_n hx hb dX4_trimmed_5 rfl (lv_at hl 1 rfl) ?_
  refine lv_iload_n hx hb dX4_trimmed_6 rfl (lv_at hl 0 rfl) ?_
  refine b_ge (tgt := 26) hx hb dX4_trimmed_7 (by decide) (by omega) (by omega) (fun c_27 => ?_) (fun c_27 => ?_)
  · have e : nI j = nI (tbL b t) := tbL_eq (by omega) hg (fun q => absurd q (by omega))
    rw [e] at hl
    exact k26 t.length ls (lv_sub hl [0, 1, 2, 3] rfl) (Nat.le_refl _) tb9 (fun k h1 h2 => absurd h2 (by omega))
  · refine lv_aload_n hx hb dX4_trimmed_10 rfl (lv_at hl 2 rfl) ?_
    refine lv_iload_n hx hb dX4_trimmed_11 rfl (lv_at hl 1 rfl) ?_
    refine h_ild hx hb hC.2.1 hI (i := j) (by omega) (by omega) dX4_trimmed_12 ?_
    refine lv_iload_n hx hb dX4_trimmed_13 rfl (lv_at hl 3 rfl) ?_
    have tokj := tok j
    refine kS_i (A := A) (As := [.int (nI (t.getD j 0)), .int (bI b)]) (rest := []) ⟨hx, hb, hml, hown, hts⟩ (mX4_goes (A := A) (k0 := t.getD j 0) (b := b) (by omega)) (va_cwS 2 hts (gS tw_5_12 tw_5_13 tw_1_8 tw_5_14) rfl rfl rfl (by decide +kernel) ⟨Nat.le_of_ble_eq_true rfl, Nat.le_of_ble_eq_true rfl⟩) hC hS hA  trivial rfl rfl hl.1 (Nat.le_of_ble_eq_true rfl) ⟨Nat.zero_le _, Nat.zero_le _⟩ dX4_trimmed_14 (fun r9 h9 => lv_cv h9 ?_)
    refine f_eq (tgt := 26) hx hb dX4_trimmed_17 (by decide) (fun c_28 => ?_) (fun c_28 => ?_)
    · have e : nI j = nI (tbL b t) := tbL_eq (by omega) hg (fun _ => c_28)
      rw [e] at hl
      exact k26 t.length ls (lv_sub hl [0, 1, 2, 3] rfl) (Nat.le_refl _) tb9 (fun k h1 h2 => absurd h2 (by omega))
    · refine lv_iinc (v := nI (j + 1)) (lv' := [(2, .int (nI (j + 1))), (3, .int (nI t.length)), (0, .ref a), (1, .int (bI b))]) hx hb dX4_trimmed_20 hl (k := 1) rfl (nI_add j 1) (by decide) rfl (fun ls hl => ?_)
      refine lv_goto (tgt := 5) hx hb dX4_trimmed_23 (by decide) ?_
      exact ih (j + 1) (by omega) (by omega) ls (lv_sub hl [1, 0, 2, 3] rfl) (fun k hk => by rcases Nat.lt_succ_iff_lt_or_eq.mp hk with q | q; exact hg k q; rw [q]; exact c_28)
