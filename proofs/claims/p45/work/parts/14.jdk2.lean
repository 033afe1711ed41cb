/-! The JDK, 2: making a text of chars -/
theorem inJ0 : ∀ w ∈ u_ws RJ0 TJ0 4, w ∈ GW := by
  intro w hw
  simp only [u_ws, List.mem_map, List.mem_range] at hw
  obtain ⟨k, hk, rfl⟩ := hw
  match k, hk with
  | 0, _ => exact tw_1_222
  | 1, _ => exact tw_1_224
  | 2, _ => exact tw_1_226
  | 3, _ => exact tw_1_228
theorem inJ4 : ∀ w ∈ u_ws RJ4 TJ4 4, w ∈ GW := by
  intro w hw
  simp only [u_ws, List.mem_map, List.mem_range] at hw
  obtain ⟨k, hk, rfl⟩ := hw
  match k, hk with
  | 0, _ => exact tw_5_209
  | 1, _ => exact tw_5_211
  | 2, _ => exact tw_5_213
  | 3, _ => exact tw_5_215
theorem inJx35411 : ∀ w ∈ u_ws RJx35411 TJx35411 4, w ∈ GW := by
  intro w hw
  simp only [u_ws, List.mem_map, List.mem_range] at hw
  obtain ⟨k, hk, rfl⟩ := hw
  match k, hk with
  | 0, _ => exact tw_7_49
  | 1, _ => exact tw_7_51
  | 2, _ => exact tw_7_53
  | 3, _ => exact tw_7_55
theorem inJx4a65c : ∀ w ∈ u_ws RJx4a65c TJx4a65c 3, w ∈ GW := by
  intro w hw
  simp only [u_ws, List.mem_map, List.mem_range] at hw
  obtain ⟨k, hk, rfl⟩ := hw
  match k, hk with
  | 0, _ => exact tw_4_169
  | 1, _ => exact tw_4_165
  | 2, _ => exact tw_4_167
theorem inX1 : ∀ w ∈ u_ws RX1 TX1 3, w ∈ GW := by
  intro w hw
  simp only [u_ws, List.mem_map, List.mem_range] at hw
  obtain ⟨k, hk, rfl⟩ := hw
  match k, hk with
  | 0, _ => exact tw_1_63
  | 1, _ => exact tw_1_65
  | 2, _ => exact tw_1_67
theorem inX2 : ∀ w ∈ u_ws RX2 TX2 8, w ∈ GW := by
  intro w hw
  simp only [u_ws, List.mem_map, List.mem_range] at hw
  obtain ⟨k, hk, rfl⟩ := hw
  match k, hk with
  | 0, _ => exact tw_1_145
  | 1, _ => exact tw_1_147
  | 2, _ => exact tw_1_149
  | 3, _ => exact tw_1_151
  | 4, _ => exact tw_1_153
  | 5, _ => exact tw_1_155
  | 6, _ => exact tw_1_157
  | 7, _ => exact tw_1_159
theorem inX3 : ∀ w ∈ u_ws RX3 TX3 2, w ∈ GW := by
  intro w hw
  simp only [u_ws, List.mem_map, List.mem_range] at hw
  obtain ⟨k, hk, rfl⟩ := hw
  match k, hk with
  | 0, _ => exact tw_2_229
  | 1, _ => exact tw_2_231
theorem inX4 : ∀ w ∈ u_ws RX4 TX4 5, w ∈ GW := by
  intro w hw
  simp only [u_ws, List.mem_map, List.mem_range] at hw
  obtain ⟨k, hk, rfl⟩ := hw
  match k, hk with
  | 0, _ => exact tw_4_177
  | 1, _ => exact tw_4_179
  | 2, _ => exact tw_4_181
  | 3, _ => exact tw_4_183
  | 4, _ => exact tw_4_185
theorem ush0 (n : Nat) : ((nI n - nI n).toUInt32 >>> ((nI 31).toUInt32 &&& Int32.toUInt32 31)).toInt32 = 0 := by
  rw [Int32.sub_self]; decide
theorem dJ0_init_905df_0 : decode cJ0_init_905df 0 = .ok (.aload_n 0, 1) := by decide +kernel
theorem dJ0_init_905df_1 : decode cJ0_init_905df 1 = .ok (.aload_n 1, 1) := by decide +kernel
theorem dJ0_init_905df_2 : decode cJ0_init_905df 2 = .ok (.iconst 0, 1) := by decide +kernel
theorem dJ0_init_905df_3 : decode cJ0_init_905df 3 = .ok (.aload_n 1, 1) := by decide +kernel
theorem dJ0_init_905df_4 : decode cJ0_init_905df 4 = .ok (.arraylength, 1) := by decide +kernel
theorem dJ0_init_905df_5 : decode cJ0_init_905df 5 = .ok (.aconst_null, 1) := by decide +kernel
theorem dJ0_init_905df_6 : decode cJ0_init_905df 6 = .ok (.invokespecial 27, 3) := by decide +kernel
theorem dJ0_init_905df_9 : decode cJ0_init_905df 9 = .ok (.return_, 1) := by decide +kernel
theorem dJ0_init_bb550_0 : decode cJ0_init_bb550 0 = .ok (.aload_n 0, 1) := by decide +kernel
theorem dJ0_init_bb550_1 : decode cJ0_init_bb550 1 = .ok (.invokespecial 1, 3) := by decide +kernel
theorem dJ0_init_bb550_4 : decode cJ0_init_bb550 4 = .ok (.iload_n 3, 1) := by decide +kernel
theorem dJ0_init_bb550_5 : decode cJ0_init_bb550 5 = .ok (.ifCond .ne 22, 3) := by decide +kernel
theorem dJ0_init_bb550_8 : decode cJ0_init_bb550 8 = .ok (.aload_n 0, 1) := by decide +kernel
theorem dJ0_init_bb550_9 : decode cJ0_init_bb550 9 = .ok (.ldc 7, 2) := by decide +kernel
theorem dJ0_init_bb550_11 : decode cJ0_init_bb550 11 = .ok (.getfield 9, 3) := by decide +kernel
theorem dJ0_init_bb550_14 : decode cJ0_init_bb550 14 = .ok (.putfield 9, 3) := by decide +kernel
theorem dJ0_init_bb550_17 : decode cJ0_init_bb550 17 = .ok (.aload_n 0, 1) := by decide +kernel
theorem dJ0_init_bb550_18 : decode cJ0_init_bb550 18 = .ok (.ldc 7, 2) := by decide +kernel
theorem dJ0_init_bb550_20 : decode cJ0_init_bb550 20 = .ok (.getfield 15, 3) := by decide +kernel
theorem dJ0_init_bb550_23 : decode cJ0_init_bb550 23 = .ok (.putfield 15, 3) := by decide +kernel
theorem dJ0_init_bb550_26 : decode cJ0_init_bb550 26 = .ok (.return_, 1) := by decide +kernel
theorem dJ0_init_bb550_27 : decode cJ0_init_bb550 27 = .ok (.getstatic 38, 3) := by decide +kernel
theorem dJ0_init_bb550_30 : decode cJ0_init_bb550 30 = .ok (.ifCond .eq 28, 3) := by decide +kernel
theorem dJ0_init_bb550_33 : decode cJ0_init_bb550 33 = .ok (.aload_n 1, 1) := by decide +kernel
theorem dJ0_init_bb550_34 : decode cJ0_init_bb550 34 = .ok (.iload_n 2, 1) := by decide +kernel
theorem dJ0_init_bb550_35 : decode cJ0_init_bb550 35 = .ok (.iload_n 3, 1) := by decide +kernel
theorem dJ0_init_bb550_36 : decode cJ0_init_bb550 36 = .ok (.invokestatic 177, 3) := by decide +kernel
theorem dJ0_init_bb550_39 : decode cJ0_init_bb550 39 = .ok (.astore 5, 2) := by decide +kernel
theorem dJ0_init_bb550_41 : decode cJ0_init_bb550 41 = .ok (.aload_n 0, 1) := by decide +kernel
theorem dJ0_init_bb550_42 : decode cJ0_init_bb550 42 = .ok (.aload 5, 2) := by decide +kernel
theorem dJ0_init_bb550_44 : decode cJ0_init_bb550 44 = .ok (.iload_n 3, 1) := by decide +kernel
theorem dJ0_init_bb550_45 : decode cJ0_init_bb550 45 = .ok (.invokestatic 47, 3) := by decide +kernel
theorem dJ0_init_bb550_48 : decode cJ0_init_bb550 48 = .ok (.putfield 15, 3) := by decide +kernel
theorem dJ0_init_bb550_51 : decode cJ0_init_bb550 51 = .ok (.aload_n 0, 1) := by decide +kernel
theorem dJ0_init_bb550_52 : decode cJ0_init_bb550 52 = .ok (.aload 5, 2) := by decide +kernel
theorem dJ0_init_bb550_54 : decode cJ0_init_bb550 54 = .ok (.putfield 9, 3) := by decide +kernel
theorem dJ0_init_bb550_57 : decode cJ0_init_bb550 57 = .ok (.return_, 1) := by decide +kernel
theorem dJ0_init_bb550_58 : decode cJ0_init_bb550 58 = .ok (.aload_n 0, 1) := by decide +kernel
theorem dJ0_init_bb550_59 : decode cJ0_init_bb550 59 = .ok (.iconst 1, 1) := by decide +kernel
theorem dJ0_init_bb550_60 : decode cJ0_init_bb550 60 = .ok (.putfield 15, 3) := by decide +kernel
theorem dJ0_init_bb550_63 : decode cJ0_init_bb550 63 = .ok (.aload_n 0, 1) := by decide +kernel
theorem dJ0_init_bb550_64 : decode cJ0_init_bb550 64 = .ok (.aload_n 1, 1) := by decide +kernel
theorem dJ0_init_bb550_65 : decode cJ0_init_bb550 65 = .ok (.iload_n 2, 1) := by decide +kernel
theorem dJ0_init_bb550_66 : decode cJ0_init_bb550 66 = .ok (.iload_n 3, 1) := by decide +kernel
theorem dJ0_init_bb550_67 : decode cJ0_init_bb550 67 = .ok (.invokestatic 180, 3) := by decide +kernel
theorem dJ0_init_bb550_70 : decode cJ0_init_bb550 70 = .ok (.putfield 9, 3) := by decide +kernel
theorem dJ0_init_bb550_73 : decode cJ0_init_bb550 73 = .ok (.return_, 1) := by decide +kernel
theorem dJ2_coderFromArrayLen_85cad_0 : decode cJ2_coderFromArrayLen_85cad 0 = .ok (.iload_n 1, 1) := by decide +kernel
theorem dJ2_coderFromArrayLen_85cad_1 : decode cJ2_coderFromArrayLen_85cad 1 = .ok (.aload_n 0, 1) := by decide +kernel
theorem dJ2_coderFromArrayLen_85cad_2 : decode cJ2_coderFromArrayLen_85cad 2 = .ok (.arraylength, 1) := by decide +kernel
theorem dJ2_coderFromArrayLen_85cad_3 : decode cJ2_coderFromArrayLen_85cad 3 = .ok (.isub, 1) := by decide +kernel
theorem dJ2_coderFromArrayLen_85cad_4 : decode cJ2_coderFromArrayLen_85cad 4 = .ok (.bipush 31, 2) := by decide +kernel
theorem dJ2_coderFromArrayLen_85cad_6 : decode cJ2_coderFromArrayLen_85cad 6 = .ok (.iushr, 1) := by decide +kernel
theorem dJ2_coderFromArrayLen_85cad_7 : decode cJ2_coderFromArrayLen_85cad 7 = .ok (.i2b, 1) := by decide +kernel
theorem dJ2_coderFromArrayLen_85cad_8 : decode cJ2_coderFromArrayLen_85cad 8 = .ok (.ireturn, 1) := by decide +kernel
theorem dJ2_compress_dfd3c_0 : decode cJ2_compress_dfd3c 0 = .ok (.iload_n 2, 1) := by decide +kernel
theorem dJ2_compress_dfd3c_1 : decode cJ2_compress_dfd3c 1 = .ok (.newarray .byte, 2) := by decide +kernel
theorem dJ2_compress_dfd3c_3 : decode cJ2_compress_dfd3c 3 = .ok (.astore_n 3, 1) := by decide +kernel
theorem dJ2_compress_dfd3c_4 : decode cJ2_compress_dfd3c 4 = .ok (.aload_n 0, 1) := by decide +kernel
theorem dJ2_compress_dfd3c_5 : decode cJ2_compress_dfd3c 5 = .ok (.iload_n 1, 1) := by decide +kernel
theorem dJ2_compress_dfd3c_6 : decode cJ2_compress_dfd3c 6 = .ok (.aload_n 3, 1) := by decide +kernel
theorem dJ2_compress_dfd3c_7 : decode cJ2_compress_dfd3c 7 = .ok (.iconst 0, 1) := by decide +kernel
theorem dJ2_compress_dfd3c_8 : decode cJ2_compress_dfd3c 8 = .ok (.iload_n 2, 1) := by decide +kernel
theorem dJ2_compress_dfd3c_9 : decode cJ2_compress_dfd3c 9 = .ok (.invokestatic 115, 3) := by decide +kernel
theorem dJ2_compress_dfd3c_12 : decode cJ2_compress_dfd3c 12 = .ok (.istore 4, 2) := by decide +kernel
theorem dJ2_compress_dfd3c_14 : decode cJ2_compress_dfd3c 14 = .ok (.iload 4, 2) := by decide +kernel
theorem dJ2_compress_dfd3c_16 : decode cJ2_compress_dfd3c 16 = .ok (.iload_n 2, 1) := by decide +kernel
theorem dJ2_compress_dfd3c_17 : decode cJ2_compress_dfd3c 17 = .ok (.if_icmp .eq 40, 3) := by decide +kernel
theorem dJ2_compress_dfd3c_20 : decode cJ2_compress_dfd3c 20 = .ok (.aload_n 0, 1) := by decide +kernel
theorem dJ2_compress_dfd3c_21 : decode cJ2_compress_dfd3c 21 = .ok (.iload_n 1, 1) := by decide +kernel
theorem dJ2_compress_dfd3c_22 : decode cJ2_compress_dfd3c 22 = .ok (.iload_n 2, 1) := by decide +kernel
theorem dJ2_compress_dfd3c_23 : decode cJ2_compress_dfd3c 23 = .ok (.invokestatic 119, 3) := by decide +kernel
theorem dJ2_compress_dfd3c_26 : decode cJ2_compress_dfd3c 26 = .ok (.astore 5, 2) := by decide +kernel
theorem dJ2_compress_dfd3c_28 : decode cJ2_compress_dfd3c 28 = .ok (.aload 5, 2) := by decide +kernel
theorem dJ2_compress_dfd3c_30 : decode cJ2_compress_dfd3c 30 = .ok (.iload 4, 2) := by decide +kernel
theorem dJ2_compress_dfd3c_32 : decode cJ2_compress_dfd3c 32 = .ok (.invokestatic 71, 3) := by decide +kernel
theorem dJ2_compress_dfd3c_35 : decode cJ2_compress_dfd3c 35 = .ok (.sipush 255, 3) := by decide +kernel
theorem dJ2_compress_dfd3c_38 : decode cJ2_compress_dfd3c 38 = .ok (.if_icmp .gt 16, 3) := by decide +kernel
theorem dJ2_compress_dfd3c_41 : decode cJ2_compress_dfd3c 41 = .ok (.aload 5, 2) := by decide +kernel
theorem dJ2_compress_dfd3c_43 : decode cJ2_compress_dfd3c 43 = .ok (.iconst 0, 1) := by decide +kernel
theorem dJ2_compress_dfd3c_44 : decode cJ2_compress_dfd3c 44 = .ok (.aload_n 3, 1) := by decide +kernel
theorem dJ2_compress_dfd3c_45 : decode cJ2_compress_dfd3c 45 = .ok (.iconst 0, 1) := by decide +kernel
theorem dJ2_compress_dfd3c_46 : decode cJ2_compress_dfd3c 46 = .ok (.iload_n 2, 1) := by decide +kernel
theorem dJ2_compress_dfd3c_47 : decode cJ2_compress_dfd3c 47 = .ok (.invokestatic 123, 3) := by decide +kernel
theorem dJ2_compress_dfd3c_50 : decode cJ2_compress_dfd3c 50 = .ok (.iload_n 2, 1) := by decide +kernel
theorem dJ2_compress_dfd3c_51 : decode cJ2_compress_dfd3c 51 = .ok (.if_icmp .eq 6, 3) := by decide +kernel
theorem dJ2_compress_dfd3c_54 : decode cJ2_compress_dfd3c 54 = .ok (.aload 5, 2) := by decide +kernel
theorem dJ2_compress_dfd3c_56 : decode cJ2_compress_dfd3c 56 = .ok (.areturn, 1) := by decide +kernel
theorem dJ2_compress_dfd3c_57 : decode cJ2_compress_dfd3c 57 = .ok (.aload_n 3, 1) := by decide +kernel
theorem dJ2_compress_dfd3c_58 : decode cJ2_compress_dfd3c 58 = .ok (.areturn, 1) := by decide +kernel
theorem dJ2_compress_fe38e_0 : decode cJ2_compress_fe38e 0 = .ok (.iconst 0, 1) := by decide +kernel
theorem dJ2_compress_fe38e_1 : decode cJ2_compress_fe38e 1 = .ok (.istore 5, 2) := by decide +kernel
theorem dJ2_compress_fe38e_3 : decode cJ2_compress_fe38e 3 = .ok (.iload 5, 2) := by decide +kernel
theorem dJ2_compress_fe38e_5 : decode cJ2_compress_fe38e 5 = .ok (.iload 4, 2) := by decide +kernel
theorem dJ2_compress_fe38e_7 : decode cJ2_compress_fe38e 7 = .ok (.if_icmp .ge 37, 3) := by decide +kernel
theorem dJ2_compress_fe38e_10 : decode cJ2_compress_fe38e 10 = .ok (.aload_n 0, 1) := by decide +kernel
theorem dJ2_compress_fe38e_11 : decode cJ2_compress_fe38e 11 = .ok (.iload_n 1, 1) := by decide +kernel
theorem dJ2_compress_fe38e_12 : decode cJ2_compress_fe38e 12 = .ok (.caload, 1) := by decide +kernel
theorem dJ2_compress_fe38e_13 : decode cJ2_compress_fe38e 13 = .ok (.istore 6, 2) := by decide +kernel
theorem dJ2_compress_fe38e_15 : decode cJ2_compress_fe38e 15 = .ok (.iload 6, 2) := by decide +kernel
theorem dJ2_compress_fe38e_17 : decode cJ2_compress_fe38e 17 = .ok (.sipush 255, 3) := by decide +kernel
theorem dJ2_compress_fe38e_20 : decode cJ2_compress_fe38e 20 = .ok (.if_icmp .le 6, 3) := by decide +kernel
theorem dJ2_compress_fe38e_23 : decode cJ2_compress_fe38e 23 = .ok (.iload 5, 2) := by decide +kernel
theorem dJ2_compress_fe38e_25 : decode cJ2_compress_fe38e 25 = .ok (.ireturn, 1) := by decide +kernel
theorem dJ2_compress_fe38e_26 : decode cJ2_compress_fe38e 26 = .ok (.aload_n 2, 1) := by decide +kernel
theorem dJ2_compress_fe38e_27 : decode cJ2_compress_fe38e 27 = .ok (.iload_n 3, 1) := by decide +kernel
theorem dJ2_compress_fe38e_28 : decode cJ2_compress_fe38e 28 = .ok (.iload 6, 2) := by decide +kernel
theorem dJ2_compress_fe38e_30 : decode cJ2_compress_fe38e 30 = .ok (.i2b, 1) := by decide +kernel
theorem dJ2_compress_fe38e_31 : decode cJ2_compress_fe38e 31 = .ok (.bastore, 1) := by decide +kernel
theorem dJ2_compress_fe38e_32 : decode cJ2_compress_fe38e 32 = .ok (.iinc 1 1, 3) := by decide +kernel
theorem dJ2_compress_fe38e_35 : decode cJ2_compress_fe38e 35 = .ok (.iinc 3 1, 3) := by decide +kernel
theorem dJ2_compress_fe38e_38 : decode cJ2_compress_fe38e 38 = .ok (.iinc 5 1, 3) := by decide +kernel
theorem dJ2_compress_fe38e_41 : decode cJ2_compress_fe38e 41 = .ok (.goto (-38), 3) := by decide +kernel
theorem dJ2_compress_fe38e_44 : decode cJ2_compress_fe38e 44 = .ok (.iload 4, 2) := by decide +kernel
theorem dJ2_compress_fe38e_46 : decode cJ2_compress_fe38e 46 = .ok (.ireturn, 1) := by decide +kernel
abbrev rmJ2_compress_fe38e : Room := { frames := 1, cells := 0, slots := 0, locals := 20 }
theorem mJ2_compress_fe38e {l : Launch} {G : Cx} {A : Nat → Prop} {na nb n : Nat} {f g : Nat → Int32} (hn : n ≤ 60) (hAb : A nb) (hne : na ≠ nb) (hf : ∀ j : Nat, j < n → ∃ k0 : Nat, k0 < 256 ∧ f j = nI k0) : Met l yJ2_compress_fe38e (.code yJ2_compress_fe38e cJ2_compress_fe38e 7 (some .int) :: GW) rmJ2_compress_fe38e (PC G A [.ref na, .int (nI 0), .ref nb, .int (nI 0), .int (nI n)] (fun H => va_at G.1 vwCl (na, .inl (G.2.1 1, n, .inl f)) H ∧ va_at G.1 vwCl (nb, .inl (G.2.1 2, n, .inl g)) H)) (qI A (fun r H => r = nI n ∧ ∃ g : Nat → Int32, va_at G.1 vwCl (nb, .inl (G.2.1 2, n, .inl g)) H)) 0 0 (A) := by
  refine mstart "java/lang/StringUTF16" (by decide +kernel) rfl (Nat.le_of_ble_eq_true rfl) ?_
  intro p e s m below meth c ls hx hb hr hts hown hml hlocks hname hC hA hW hl
  have hl : lv_has ls 7 [(0, .ref na), (1, .int (nI 0)), (2, .ref nb), (3, .int (nI 0)), (4, .int (nI n))] := hl
  have hK := hC.1
  have hS : va_S A s.heap s.heap [] := va_S.rf
  obtain ⟨hF, hB⟩ := hW
  refine lv_iconst (v := nI 0) hx hb dJ2_compress_fe38e_0 (by decide) ?_
  refine lv_istore (lv' := [(5, .int (nI 0)), (0, .ref na), (1, .int (nI 0)), (2, .ref nb), (3, .int (nI 0)), (4, .int (nI n))]) hx hb dJ2_compress_fe38e_1 hl (by decide) rfl (fun ls hl => ?_)
  refine nloop (P := fun j => ∀ (ls : Array Slot) (H : Heap) (L : List Loc) (g : Nat → Int32), lv_has ls 7 [(5, .int (nI j)), (0, .ref na), (1, .int (nI j)), (2, .ref nb), (3, .int (nI j)), (4, .int (nI n))] → va_S A s.heap H L → va_at G.1 vwCl (na, .inl (G.2.1 1, n, .inl f)) H → va_at G.1 vwCl (nb, .inl (G.2.1 2, n, .inl g)) H → W p l e rmJ2_compress_fe38e s m [.ref na, .int (nI 0), .ref nb, .int (nI 0), .int (nI n)].toArray below meth c H L 0 0 (MQ below (qI A (fun r H => r = nI n ∧ ∃ g : Nat → Int32, va_at G.1 vwCl (nb, .inl (G.2.1 2, n, .inl g)) H)) [.ref na, .int (nI 0), .ref nb, .int (nI 0), .int (nI n)].toArray s 0 0 (A)) (F0 m 3 ls [])) n ?_ 0 (Nat.zero_le _) ls s.heap [] g hl hS hF hB
  clear hl
  intro j hj ih ls H L g hl
  clear hS hF hB
  intro hS hF hB
  refine lv_iload hx hb dJ2_compress_fe38e_3 (lv_at hl 0 rfl) ?_
  refine lv_iload hx hb dJ2_compress_fe38e_5 (lv_at hl 5 rfl) ?_
  refine b_ge (tgt := 44) hx hb dJ2_compress_fe38e_7 (by decide) (by omega) (by omega) (fun c_1 => ?_) (fun c_1 => ?_)
  · refine lv_iload hx hb dJ2_compress_fe38e_44 (lv_at hl 5 rfl) ?_
    exact q_i hx hb hr hlocks dJ2_compress_fe38e_46 hS (Nat.le_refl _) (Nat.le_refl _) ⟨rfl, _, hB⟩
  · obtain ⟨k0, hk0, hfk⟩ := hf j (by omega)
    refine lv_aload_n hx hb dJ2_compress_fe38e_10 rfl (lv_at hl 1 rfl) ?_
    refine lv_iload_n hx hb dJ2_compress_fe38e_11 rfl (lv_at hl 2 rfl) ?_
    refine va_cald hx hb hK (at_P hF) 0 1 rfl rfl (vp_in_nI (n := j) (N := n) (by omega) (by omega)) dJ2_compress_fe38e_12 ?_
    refine lv_cv (show _ = f j from by rw [nI_clamp (by omega)]) ?_
    refine lv_cv hfk ?_
    refine lv_istore (lv' := [(6, .int (nI k0)), (5, .int (nI j)), (0, .ref na), (1, .int (nI j)), (2, .ref nb), (3, .int (nI j)), (4, .int (nI n))]) hx hb dJ2_compress_fe38e_13 hl (by decide) rfl (fun ls hl => ?_)
    refine lv_iload hx hb dJ2_compress_fe38e_15 (lv_at hl 0 rfl) ?_
    refine lv_sipush (v := nI 255) hx hb dJ2_compress_fe38e_17 (by decide) ?_
    refine b_le (tgt := 26) hx hb dJ2_compress_fe38e_20 (by decide) (by omega) (by omega) (fun c_2 => ?_) (fun c_2 => ?_)
    · refine lv_aload_n hx hb dJ2_compress_fe38e_26 rfl (lv_at hl 4 rfl) ?_
      refine lv_iload_n hx hb dJ2_compress_fe38e_27 rfl (lv_at hl 5 rfl) ?_
      refine lv_iload hx hb dJ2_compress_fe38e_28 (lv_at hl 0 rfl) ?_
      refine lv_i2b hx hb dJ2_compress_fe38e_30 rfl ?_
      refine h_bst (D := G.1) hx hb hK 2 hB rfl hS hAb (vp_in_nI (n := j) (N := n) (by omega) (by omega)) dJ2_compress_fe38e_31 (fun H3 L3 hB z3 o3 hS => ?_)
      rw [nI_clamp (n := j) (by omega)] at hB
      have hF := at_o hF o3 hne
      have hZ3 := hS.1
      refine lv_iinc (v := nI (j + 1)) (lv' := [(1, .int (nI (j + 1))), (6, .int (nI k0)), (5, .int (nI j)), (0, .ref na), (2, .ref nb), (3, .int (nI j)), (4, .int (nI n))]) hx hb dJ2_compress_fe38e_32 hl (k := 3) rfl (nI_add j 1) (by decide) rfl (fun ls hl => ?_)
      refine lv_iinc (v := nI (j + 1)) (lv' := [(3, .int (nI (j + 1))), (1, .int (nI (j + 1))), (6, .int (nI k0)), (5, .int (nI j)), (0, .ref na), (2, .ref nb), (4, .int (nI n))]) hx hb dJ2_compress_fe38e_35 hl (k := 5) rfl (nI_add j 1) (by decide) rfl (fun ls hl => ?_)
      refine lv_iinc (v := nI (j + 1)) (lv' := [(5, .int (nI (j + 1))), (3, .int (nI (j + 1))), (1, .int (nI (j + 1))), (6, .int (nI k0)), (0, .ref na), (2, .ref nb), (4, .int (nI n))]) hx hb dJ2_compress_fe38e_38 hl (k := 3) rfl (nI_add j 1) (by decide) rfl (fun ls hl => ?_)
      refine lv_goto (tgt := 3) hx hb dJ2_compress_fe38e_41 (by decide) ?_
      exact ih (j + 1) (by omega) (by omega) ls H3 L3 _ (lv_sub hl [0, 4, 2, 5, 1, 6] rfl) hS hF hB
    · exact absurd c_2 (by omega)

abbrev rmJ2_compress_dfd3c : Room := { frames := 2, cells := 1, slots := 60, locals := 46 }
theorem mJ2_compress_dfd3c {l : Launch} {G : Cx} {A : Nat → Prop} {na n sz : Nat} {f : Nat → Int32} (hn : n ≤ 60) (hf : ∀ j : Nat, j < n → ∃ k0 : Nat, k0 < 256 ∧ f j = nI k0) : Met l yJ2_compress_dfd3c (.code yJ2_compress_dfd3c cJ2_compress_dfd3c 6 (some (.array .byte)) :: GW) rmJ2_compress_dfd3c (PC G A [.ref na, .int (nI 0), .int (nI n)] (fun H => H.size = sz ∧ va_at G.1 vwCl (na, .inl (G.2.1 1, n, .inl f)) H)) (qR A (fun b H => sz ≤ b ∧ ∃ g : Nat → Int32, va_at G.1 vwCl (b, .inl (G.2.1 2, n, .inl g)) H)) 1 60 (A) := by
  refine mstart "java/lang/StringUTF16" (by decide +kernel) rfl (Nat.le_of_ble_eq_true rfl) ?_
  intro p e s m below meth c ls hx hb hr hts hown hml hlocks hname hC hA hW hl
  have hl : lv_has ls 6 [(0, .ref na), (1, .int (nI 0)), (2, .int (nI n))] := hl
  have hK := hC.1
  have hS : va_S A s.heap s.heap [] := va_S.rf
  obtain ⟨hsz, hF⟩ := hW
  refine lv_iload_n hx hb dJ2_compress_dfd3c_0 rfl (lv_at hl 2 rfl) ?_
  refine h_newa (D := G.1) (atype := .byte) (N := n) (z := (n, .inl (fun _ => 0))) hx hb (hts _ tw_1_162) rfl (fun h => h) hK 2 rfl hS rfl (nI_pos (by omega)) (nI_clamp (by omega)) (show n * _ ≤ _ from by show n * 1 ≤ 536870912; omega) (Nat.le_trans (show 0 + 1 ≤ 1 by omega) (Nat.le_of_ble_eq_true rfl)) (Nat.le_trans (show 0 + n ≤ 60 by omega) (Nat.le_of_ble_eq_true rfl)) dJ2_compress_dfd3c_1 (fun nb H4 hnb hFnb z4 o4 hS => ?_)
  have n4hF : na ≠ nb := fun q => absurd hF.lt (by rw [q, hnb]; exact Nat.lt_irrefl _)
  have hF := at_n hF o4
  have hZ4 := hS.1
  have hMnb : A nb := hA nb (by omega)
  refine lv_astore_n (lv' := [(3, .ref nb), (0, .ref na), (1, .int (nI 0)), (2, .int (nI n))]) hx hb dJ2_compress_dfd3c_3 rfl hl (by decide) rfl (fun ls hl => ?_)
  refine lv_aload_n hx hb dJ2_compress_dfd3c_4 rfl (lv_at hl 1 rfl) ?_
  refine lv_iload_n hx hb dJ2_compress_dfd3c_5 rfl (lv_at hl 2 rfl) ?_
  refine lv_aload_n hx hb dJ2_compress_dfd3c_6 rfl (lv_at hl 0 rfl) ?_
  refine lv_iconst (v := nI 0) hx hb dJ2_compress_dfd3c_7 (by decide) ?_
  refine lv_iload_n hx hb dJ2_compress_dfd3c_8 rfl (lv_at hl 3 rfl) ?_
  refine qI_S (A := A) (A1 := ow nb nb H4.size)  (As := [.ref na, .int (nI 0), .ref nb, .int (nI 0), .int (nI n)]) (rest := []) ⟨hx, hb, hml, hown, hts⟩ (mJ2_compress_fe38e (A := ow nb nb H4.size) (na := na) (nb := nb) (n := n) hn (Or.inl rfl) n4hF hf) (va_cwS 5 hts (gS tw_1_188 tw_1_189 tw_1_7 tw_1_190) rfl rfl rfl (by decide +kernel) ⟨Nat.le_of_ble_eq_true rfl, Nat.le_of_ble_eq_true rfl⟩) hC hS (ow_in hMnb hMnb hA hZ4) ow_n  ⟨hF, hFnb⟩ rfl rfl hl.1 (Nat.le_of_ble_eq_true rfl) ⟨Nat.le_trans (show (0 + 1) ≤ 1 by omega) (Nat.le_of_ble_eq_true rfl), Nat.le_trans (show (0 + n) ≤ 60 by omega) (Nat.le_of_ble_eq_true rfl)⟩ dJ2_compress_dfd3c_9 (fun rv5 H5 L5 hP5 hk5 hS => ?_)
  have hZ5 := hS.1
  obtain ⟨hr9, g, hB⟩ := hP5
  subst hr9
  refine lv_istore (lv' := [(4, .int (nI n)), (3, .ref nb), (0, .ref na), (1, .int (nI 0)), (2, .int (nI n))]) hx hb dJ2_compress_dfd3c_12 hl (by decide) rfl (fun ls hl => ?_)
  refine lv_iload hx hb dJ2_compress_dfd3c_14 (lv_at hl 0 rfl) ?_
  refine lv_iload_n hx hb dJ2_compress_dfd3c_16 rfl (lv_at hl 4 rfl) ?_
  refine b_eq (tgt := 57) hx hb dJ2_compress_dfd3c_17 (by decide) (by omega) (by omega) (fun c_6 => ?_) (fun c_6 => ?_)
  · refine lv_aload_n hx hb dJ2_compress_dfd3c_57 rfl (lv_at hl 1 rfl) ?_
    exact q_a hx hb hr (Or.inr ⟨_, rfl⟩) hlocks dJ2_compress_dfd3c_58 hS (by omega) (by omega) ⟨by rw [hnb, hsz]; exact Nat.le_refl _, g, hB⟩
  · exact absurd rfl c_6

abbrev rmJ2_coderFromArrayLen_85cad : Room := { frames := 1, cells := 0, slots := 0, locals := 20 }
theorem mJ2_coderFromArrayLen_85cad {l : Launch} {G : Cx} {A : Nat → Prop} {b n : Nat} {g : Nat → Int32} : Met l yJ2_coderFromArrayLen_85cad (.code yJ2_coderFromArrayLen_85cad cJ2_coderFromArrayLen_85cad 2 (some .byte) :: GW) rmJ2_coderFromArrayLen_85cad (PC G A [.ref b, .int (nI n)] (fun H => va_at G.1 vwCl (b, .inl (G.2.1 2, n, .inl g)) H)) (vp_Si (fun r => r = 0)) 0 0 (fun _ => False) := by
  refine mstart "java/lang/StringUTF16" (by decide +kernel) rfl (Nat.le_of_ble_eq_true rfl) ?_
  intro p e s m below meth c ls hx hb hr hts hown hml hlocks hname hC hA hW hl
  have hl : lv_has ls 2 [(0, .ref b), (1, .int (nI n))] := hl
  have hK := hC.1
  have hS : va_S A s.heap s.heap [] := va_S.rf
  refine lv_iload_n hx hb dJ2_coderFromArrayLen_85cad_0 rfl (lv_at hl 1 rfl) ?_
  refine lv_aload_n hx hb dJ2_coderFromArrayLen_85cad_1 rfl (lv_at hl 0 rfl) ?_
  refine va_alen hx hb hK (at_P hW) 0 2 (v := nI n) rfl rfl rfl dJ2_coderFromArrayLen_85cad_2 ?_
  refine lv_isub hx hb dJ2_coderFromArrayLen_85cad_3 ?_
  refine lv_bipush (v := nI 31) hx hb dJ2_coderFromArrayLen_85cad_4 (by decide) ?_
  refine lv_iushr (v := 0) hx hb dJ2_coderFromArrayLen_85cad_6 (ush0 n) ?_
  refine lv_i2b (v := 0) hx hb dJ2_coderFromArrayLen_85cad_7 rfl ?_
  exact p_g hx hb hr rfl hlocks dJ2_coderFromArrayLen_85cad_8 rfl

abbrev rmJ0_init_bb550 : Room := { frames := 3, cells := 1, slots := 60, locals := 71 }
theorem mJ0_init_bb550 {l : Launch} {G : Cx} {A : Nat → Prop} {a na n : Nat} {f : Nat → Int32} (hAa : A a) (hne : a ≠ na) (hn : n ≤ 60) (hf : ∀ j : Nat, j < n → ∃ k0 : Nat, k0 < 256 ∧ f j = nI k0) : Met l yJ0_init_bb550 (.code yJ0_init_bb550 cJ0_init_bb550 6 (none : Option Jvm.ClassFile.FieldType) :: GW) rmJ0_init_bb550 (PC G A [.ref a, .ref na, .int (nI 0), .int (nI n), .null] (fun H => va_at G.1 vwCl (a, .inr (0, [.null, .int 0, .int 0, .int 0])) H ∧ va_at G.1 vwCl (na, .inl (G.2.1 1, n, .inl f)) H)) (qV A (fun _ => True)) 1 60 (A) := by
  refine mstart "java/lang/String" (by decide +kernel) rfl (Nat.le_of_ble_eq_true rfl) ?_
  intro p e s m below meth c ls hx hb hr hts hown hml hlocks hname hC hA hW hl
  have hl : lv_has ls 6 [(0, .ref a), (1, .ref na), (2, .int (nI 0)), (3, .int (nI n)), (4, .null)] := hl
  have hK := hC.1
  have hS : va_S A s.heap s.heap [] := va_S.rf
  obtain ⟨hO, hF⟩ := hW
  have hi : 6 < 9 := by decide
  obtain ⟨z1, z2, z3, z4, z5, z6, z7, z8, z9, z10, z11, z12, z13⟩ := hC.2.2.1
  obtain ⟨c1, c2, c3, c4⟩ := hC.2.2.2.1 6 hi
  refine lv_aload_n hx hb dJ0_init_bb550_0 rfl (lv_at hl 0 rfl) ?_
  refine W.objInit hx hb hown (hts _ tw_1_183) (hts _ tw_1_35) (hts _ tw_1_36) rfl (by rw [hml]; exact hl.1) rfl dJ0_init_bb550_1 (Nat.le_of_ble_eq_true rfl) (Nat.le_of_ble_eq_true rfl) ?_
  refine W.eq (g2 := F0 m 4 ls []) rfl ?_
  refine lv_iload_n hx hb dJ0_init_bb550_4 rfl (lv_at hl 3 rfl) ?_
  refine z_ne (tgt := 27) hx hb dJ0_init_bb550_5 (by decide) (by omega) (fun c_7 => ?_) (fun c_7 => ?_)
  · refine va_gets (v := .int 1) hx hb z8 hS hown (hts _ tw_1_93) (fun _ h9 => h9) dJ0_init_bb550_27 ?_
    refine lv_if_eq (tgt := 58) hx hb dJ0_init_bb550_30 (by decide) (fun c_8 => ?_) (fun c_8 => ?_)
    · exact absurd c_8 (by decide)
    · refine lv_aload_n hx hb dJ0_init_bb550_33 rfl (lv_at hl 1 rfl) ?_
      refine lv_iload_n hx hb dJ0_init_bb550_34 rfl (lv_at hl 2 rfl) ?_
      refine lv_iload_n hx hb dJ0_init_bb550_35 rfl (lv_at hl 3 rfl) ?_
      refine qR_S (A := A) (A1 := nw s.heap.size)  (As := [.ref na, .int (nI 0), .int (nI n)]) (rest := []) ⟨hx, hb, hml, hown, hts⟩ (mJ2_compress_dfd3c (A := nw s.heap.size) (na := na) (n := n) (sz := s.heap.size) hn hf) (va_cwS 3 hts (gS tw_1_185 tw_1_186 tw_1_7 tw_1_187) rfl rfl rfl (by decide +kernel) ⟨Nat.le_of_ble_eq_true rfl, Nat.le_of_ble_eq_true rfl⟩) hC hS (nw_in hA (Nat.le_refl _)) nw_n  ⟨rfl, hF⟩ rfl rfl hl.1 (Nat.le_of_ble_eq_true rfl) ⟨Nat.le_trans (show 0 + 1 ≤ 1 by omega) (Nat.le_of_ble_eq_true rfl), Nat.le_trans (show 0 + 60 ≤ 60 by omega) (Nat.le_of_ble_eq_true rfl)⟩ dJ0_init_bb550_36 (fun rv9 H9 L9 hP9 hk9 hS => ?_)
      have hZ9 := hS.1
      obtain ⟨hq1, g, hB⟩ := hP9
      have haz := hO.lt
      have hO := at_kp hO hk9 (Nat.not_le_of_lt hO.lt)
      have nab : a ≠ rv9 := fun q => by rw [← q] at hq1; exact absurd haz (Nat.not_lt_of_le hq1)
      refine lv_astore (lv' := [(5, .ref rv9), (0, .ref a), (1, .ref na), (2, .int (nI 0)), (3, .int (nI n)), (4, .null)]) hx hb dJ0_init_bb550_39 hl (by decide) rfl (fun ls hl => ?_)
      refine lv_aload_n hx hb dJ0_init_bb550_41 rfl (lv_at hl 1 rfl) ?_
      refine lv_aload hx hb dJ0_init_bb550_42 (lv_at hl 0 rfl) ?_
      refine lv_iload_n hx hb dJ0_init_bb550_44 rfl (lv_at hl 4 rfl) ?_
      refine kS_i (A := A) (As := [.ref rv9, .int (nI n)]) (rest := .ref a :: []) ⟨hx, hb, hml, hown, hts⟩ (mJ2_coderFromArrayLen_85cad (A := A) ) (va_cwS 2 hts (gS tw_1_216 tw_1_217 tw_1_7 tw_1_218) rfl rfl rfl (by decide +kernel) ⟨Nat.le_of_ble_eq_true rfl, Nat.le_of_ble_eq_true rfl⟩) hC hS hA  hB rfl rfl hl.1 (Nat.le_of_ble_eq_true rfl) ⟨Nat.le_trans (show (0 + 1) ≤ 1 by omega) (Nat.le_of_ble_eq_true rfl), Nat.le_trans (show (0 + 60) ≤ 60 by omega) (Nat.le_of_ble_eq_true rfl)⟩ dJ0_init_bb550_45 (fun r9 h9 => lv_cv h9 ?_)
      refine h_putF (D := G.1) (ci := 0) (C := RJ0) (T := TJ0) (N := 4) hx hb hts inJ0 tyJ0 tyJ0_ok nmJ0 hown hK hO hS hAa rfl 1 (by decide) (hts _ tw_1_221) (fun _ h9 => h9) rfl hname rfl (tyJ0_ok 1 (by decide)) rfl rfl (Nat.le_of_ble_eq_true rfl) dJ0_init_bb550_48 (fun H10 L10 hO z10 o10 hS => ?_)
      have hO : va_at G.1 vwCl (a, .inr (0, [.null, .int 0, .int 0, .int 0])) H10 := hO
      have hB := at_o hB o10 (Ne.symm nab)
      have hZ10 := hS.1
      refine lv_aload_n hx hb dJ0_init_bb550_51 rfl (lv_at hl 1 rfl) ?_
      refine lv_aload hx hb dJ0_init_bb550_52 (lv_at hl 0 rfl) ?_
      refine h_putF (D := G.1) (ci := 0) (C := RJ0) (T := TJ0) (N := 4) hx hb hts inJ0 tyJ0 tyJ0_ok nmJ0 hown hK hO hS hAa rfl 0 (by decide) (hts _ tw_1_220) (fun _ h9 => h9) rfl hname rfl (tyJ0_ok 0 (by decide)) rfl rfl (Nat.le_of_ble_eq_true rfl) dJ0_init_bb550_54 (fun H11 L11 hO z11 o11 hS => ?_)
      have hO : va_at G.1 vwCl (a, .inr (0, [.ref rv9, .int 0, .int 0, .int 0])) H11 := hO
      have hB := at_o hB o11 (Ne.symm nab)
      have hZ11 := hS.1
      exact q_v hx hb hr hlocks dJ0_init_bb550_57 hS (by omega) (by omega) trivial
  · refine lv_aload_n hx hb dJ0_init_bb550_8 rfl (lv_at hl 0 rfl) ?_
    refine va_ldcS hx hb hown (hC.2.2.2.2.1 ("java/lang/String", 7, "", 6) (by unfold sRl; simp)) dJ0_init_bb550_9 ?_
    refine vk_getf hx hb c3 hS hown (hts _ tw_1_220) (fun _ h9 => h9) dJ0_init_bb550_11 ?_
    refine h_putF (D := G.1) (ci := 0) (C := RJ0) (T := TJ0) (N := 4) hx hb hts inJ0 tyJ0 tyJ0_ok nmJ0 hown hK hO hS hAa rfl 0 (by decide) (hts _ tw_1_220) (fun _ h9 => h9) rfl hname rfl (tyJ0_ok 0 (by decide)) rfl rfl (Nat.le_of_ble_eq_true rfl) dJ0_init_bb550_14 (fun H12 L12 hO z12 o12 hS => ?_)
    have hO : va_at G.1 vwCl (a, .inr (0, [.ref (G.2.2 (40 + 6)), .int 0, .int 0, .int 0])) H12 := hO
    have hF := at_o hF o12 (Ne.symm hne)
    have hZ12 := hS.1
    refine lv_aload_n hx hb dJ0_init_bb550_17 rfl (lv_at hl 0 rfl) ?_
    refine va_ldcS hx hb hown (hC.2.2.2.2.1 ("java/lang/String", 7, "", 6) (by unfold sRl; simp)) dJ0_init_bb550_18 ?_
    refine vk_getf hx hb c2 hS hown (hts _ tw_1_221) (fun _ h9 => h9) dJ0_init_bb550_20 ?_
    refine h_putF (D := G.1) (ci := 0) (C := RJ0) (T := TJ0) (N := 4) hx hb hts inJ0 tyJ0 tyJ0_ok nmJ0 hown hK hO hS hAa rfl 1 (by decide) (hts _ tw_1_221) (fun _ h9 => h9) rfl hname rfl (tyJ0_ok 1 (by decide)) rfl rfl (Nat.le_of_ble_eq_true rfl) dJ0_init_bb550_23 (fun H13 L13 hO z13 o13 hS => ?_)
    have hO : va_at G.1 vwCl (a, .inr (0, [.ref (G.2.2 (40 + 6)), .int 0, .int 0, .int 0])) H13 := hO
    have hF := at_o hF o13 (Ne.symm hne)
    have hZ13 := hS.1
    exact q_v hx hb hr hlocks dJ0_init_bb550_26 hS (by omega) (by omega) trivial

abbrev rmJ0_init_905df : Room := { frames := 4, cells := 1, slots := 60, locals := 96 }
theorem mJ0_init_905df {l : Launch} {G : Cx} {A : Nat → Prop} {a na n : Nat} {f : Nat → Int32} (hAa : A a) (hne : a ≠ na) (hn : n ≤ 60) (hf : ∀ j : Nat, j < n → ∃ k0 : Nat, k0 < 256 ∧ f j = nI k0) : Met l yJ0_init_905df (.code yJ0_init_905df cJ0_init_905df 2 (none : Option Jvm.ClassFile.FieldType) :: GW) rmJ0_init_905df (PC G A [.ref a, .ref na] (fun H => va_at G.1 vwCl (a, .inr (0, [.null, .int 0, .int 0, .int 0])) H ∧ va_at G.1 vwCl (na, .inl (G.2.1 1, n, .inl f)) H)) (qV A (fun _ => True)) 1 60 (A) := by
  refine mstart "java/lang/String" (by decide +kernel) rfl (Nat.le_of_ble_eq_true rfl) ?_
  intro p e s m below meth c ls hx hb hr hts hown hml hlocks hname hC hA hW hl
  have hl : lv_has ls 2 [(0, .ref a), (1, .ref na)] := hl
  have hK := hC.1
  have hS : va_S A s.heap s.heap [] := va_S.rf
  obtain ⟨hO, hF⟩ := hW
  refine lv_aload_n hx hb dJ0_init_905df_0 rfl (lv_at hl 0 rfl) ?_
  refine lv_aload_n hx hb dJ0_init_905df_1 rfl (lv_at hl 1 rfl) ?_
  refine lv_iconst (v := nI 0) hx hb dJ0_init_905df_2 (by decide) ?_
  refine lv_aload_n hx hb dJ0_init_905df_3 rfl (lv_at hl 1 rfl) ?_
  refine va_alen hx hb hK (at_P hF) 0 1 (v := nI n) rfl rfl rfl dJ0_init_905df_4 ?_
  refine lv_null hx hb dJ0_init_905df_5 ?_
  refine qV_I (A := A) (A1 := A) (b := a) (As := [.ref na, .int (nI 0), .int (nI n), .null]) (rest := []) ⟨hx, hb, hml, hown, hts⟩ (mJ0_init_bb550 (A := A) (a := a) (na := na) (n := n) hAa hne hn hf) (cwI 4 hts (gI tw_1_182) rfl rfl rfl (hts _ tw_1_4) (hts _ tw_1_180) (hts _ tw_1_181) rfl (by decide +kernel) ⟨Nat.le_of_ble_eq_true rfl, Nat.le_of_ble_eq_true rfl⟩) hC hS (fun _ h => h) hA  ⟨hO, hF⟩ rfl rfl hl.1 (Nat.le_of_ble_eq_true rfl) ⟨Nat.le_trans (show 0 + 1 ≤ 1 by omega) (Nat.le_of_ble_eq_true rfl), Nat.le_trans (show 0 + 60 ≤ 60 by omega) (Nat.le_of_ble_eq_true rfl)⟩ dJ0_init_905df_6 (fun H14 L14 hP14 hk14 hS => ?_)
  have hZ14 := hS.1
  exact q_v hx hb hr hlocks dJ0_init_905df_9 hS (by omega) (by omega) trivial
