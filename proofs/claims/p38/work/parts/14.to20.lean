/-! 14.jdk2 -/
section
/-! The JDK, 2: making a text of chars -/
theorem inJ0 : ∀ w ∈ u_ws RJ0 TJ0 4, w ∈ GW := by
  intro w hw
  simp only [u_ws, List.mem_map, List.mem_range] at hw
  obtain ⟨k, hk, rfl⟩ := hw
  match k, hk with
  | 0, _ => exact tw_1_222
  | 1, _ => exact tw_1_224
  | 2, _ => exact tw_1_226
  | 3, _ => exact tw_1_228
theorem inJ4 : ∀ w ∈ u_ws RJ4 TJ4 4, w ∈ GW := by
  intro w hw
  simp only [u_ws, List.mem_map, List.mem_range] at hw
  obtain ⟨k, hk, rfl⟩ := hw
  match k, hk with
  | 0, _ => exact tw_5_209
  | 1, _ => exact tw_5_211
  | 2, _ => exact tw_5_213
  | 3, _ => exact tw_5_215
theorem inJx35411 : ∀ w ∈ u_ws RJx35411 TJx35411 4, w ∈ GW := by
  intro w hw
  simp only [u_ws, List.mem_map, List.mem_range] at hw
  obtain ⟨k, hk, rfl⟩ := hw
  match k, hk with
  | 0, _ => exact tw_7_49
  | 1, _ => exact tw_7_51
  | 2, _ => exact tw_7_53
  | 3, _ => exact tw_7_55
theorem inJx4a65c : ∀ w ∈ u_ws RJx4a65c TJx4a65c 3, w ∈ GW := by
  intro w hw
  simp only [u_ws, List.mem_map, List.mem_range] at hw
  obtain ⟨k, hk, rfl⟩ := hw
  match k, hk with
  | 0, _ => exact tw_4_169
  | 1, _ => exact tw_4_165
  | 2, _ => exact tw_4_167
theorem inX1 : ∀ w ∈ u_ws RX1 TX1 3, w ∈ GW := by
  intro w hw
  simp only [u_ws, List.mem_map, List.mem_range] at hw
  obtain ⟨k, hk, rfl⟩ := hw
  match k, hk with
  | 0, _ => exact tw_1_63
  | 1, _ => exact tw_1_65
  | 2, _ => exact tw_1_67
theorem inX2 : ∀ w ∈ u_ws RX2 TX2 8, w ∈ GW := by
  intro w hw
  simp only [u_ws, List.mem_map, List.mem_range] at hw
  obtain ⟨k, hk, rfl⟩ := hw
  match k, hk with
  | 0, _ => exact tw_1_145
  | 1, _ => exact tw_1_147
  | 2, _ => exact tw_1_149
  | 3, _ => exact tw_1_151
  | 4, _ => exact tw_1_153
  | 5, _ => exact tw_1_155
  | 6, _ => exact tw_1_157
  | 7, _ => exact tw_1_159
theorem inX3 : ∀ w ∈ u_ws RX3 TX3 2, w ∈ GW := by
  intro w hw
  simp only [u_ws, List.mem_map, List.mem_range] at hw
  obtain ⟨k, hk, rfl⟩ := hw
  match k, hk with
  | 0, _ => exact tw_2_229
  | 1, _ => exact tw_2_231
theorem inX4 : ∀ w ∈ u_ws RX4 TX4 5, w ∈ GW := by
  intro w hw
  simp only [u_ws, List.mem_map, List.mem_range] at hw
  obtain ⟨k, hk, rfl⟩ := hw
  match k, hk with
  | 0, _ => exact tw_4_177
  | 1, _ => exact tw_4_179
  | 2, _ => exact tw_4_181
  | 3, _ => exact tw_4_183
  | 4, _ => exact tw_4_185
theorem ush0 (n : Nat) : ((nI n - nI n).toUInt32 >>> ((nI 31).toUInt32 &&& Int32.toUInt32 31)).toInt32 = 0 := by
  rw [Int32.sub_self]; decide
theorem dJ0_init_905df_0 : decode cJ0_init_905df 0 = .ok (.aload_n 0, 1) := by decide +kernel
theorem dJ0_init_905df_1 : decode cJ0_init_905df 1 = .ok (.aload_n 1, 1) := by decide +kernel
theorem dJ0_init_905df_2 : decode cJ0_init_905df 2 = .ok (.iconst 0, 1) := by decide +kernel
theorem dJ0_init_905df_3 : decode cJ0_init_905df 3 = .ok (.aload_n 1, 1) := by decide +kernel
theorem dJ0_init_905df_4 : decode cJ0_init_905df 4 = .ok (.arraylength, 1) := by decide +kernel
theorem dJ0_init_905df_5 : decode cJ0_init_905df 5 = .ok (.aconst_null, 1) := by decide +kernel
theorem dJ0_init_905df_6 : decode cJ0_init_905df 6 = .ok (.invokespecial 27, 3) := by decide +kernel
theorem dJ0_init_905df_9 : decode cJ0_init_905df 9 = .ok (.return_, 1) := by decide +kernel
theorem dJ0_init_bb550_0 : decode cJ0_init_bb550 0 = .ok (.aload_n 0, 1) := by decide +kernel
theorem dJ0_init_bb550_1 : decode cJ0_init_bb550 1 = .ok (.invokespecial 1, 3) := by decide +kernel
theorem dJ0_init_bb550_4 : decode cJ0_init_bb550 4 = .ok (.iload_n 3, 1) := by decide +kernel
theorem dJ0_init_bb550_5 : decode cJ0_init_bb550 5 = .ok (.ifCond .ne 22, 3) := by decide +kernel
theorem dJ0_init_bb550_8 : decode cJ0_init_bb550 8 = .ok (.aload_n 0, 1) := by decide +kernel
theorem dJ0_init_bb550_9 : decode cJ0_init_bb550 9 = .ok (.ldc 7, 2) := by decide +kernel
theorem dJ0_init_bb550_11 : decode cJ0_init_bb550 11 = .ok (.getfield 9, 3) := by decide +kernel
theorem dJ0_init_bb550_14 : decode cJ0_init_bb550 14 = .ok (.putfield 9, 3) := by decide +kernel
theorem dJ0_init_bb550_17 : decode cJ0_init_bb550 17 = .ok (.aload_n 0, 1) := by decide +kernel
theorem dJ0_init_bb550_18 : decode cJ0_init_bb550 18 = .ok (.ldc 7, 2) := by decide +kernel
theorem dJ0_init_bb550_20 : decode cJ0_init_bb550 20 = .ok (.getfield 15, 3) := by decide +kernel
theorem dJ0_init_bb550_23 : decode cJ0_init_bb550 23 = .ok (.putfield 15, 3) := by decide +kernel
theorem dJ0_init_bb550_26 : decode cJ0_init_bb550 26 = .ok (.return_, 1) := by decide +kernel
theorem dJ0_init_bb550_27 : decode cJ0_init_bb550 27 = .ok (.getstatic 38, 3) := by decide +kernel
theorem dJ0_init_bb550_30 : decode cJ0_init_bb550 30 = .ok (.ifCond .eq 28, 3) := by decide +kernel
theorem dJ0_init_bb550_33 : decode cJ0_init_bb550 33 = .ok (.aload_n 1, 1) := by decide +kernel
theorem dJ0_init_bb550_34 : decode cJ0_init_bb550 34 = .ok (.iload_n 2, 1) := by decide +kernel
theorem dJ0_init_bb550_35 : decode cJ0_init_bb550 35 = .ok (.iload_n 3, 1) := by decide +kernel
theorem dJ0_init_bb550_36 : decode cJ0_init_bb550 36 = .ok (.invokestatic 177, 3) := by decide +kernel
theorem dJ0_init_bb550_39 : decode cJ0_init_bb550 39 = .ok (.astore 5, 2) := by decide +kernel
theorem dJ0_init_bb550_41 : decode cJ0_init_bb550 41 = .ok (.aload_n 0, 1) := by decide +kernel
theorem dJ0_init_bb550_42 : decode cJ0_init_bb550 42 = .ok (.aload 5, 2) := by decide +kernel
theorem dJ0_init_bb550_44 : decode cJ0_init_bb550 44 = .ok (.iload_n 3, 1) := by decide +kernel
theorem dJ0_init_bb550_45 : decode cJ0_init_bb550 45 = .ok (.invokestatic 47, 3) := by decide +kernel
theorem dJ0_init_bb550_48 : decode cJ0_init_bb550 48 = .ok (.putfield 15, 3) := by decide +kernel
theorem dJ0_init_bb550_51 : decode cJ0_init_bb550 51 = .ok (.aload_n 0, 1) := by decide +kernel
theorem dJ0_init_bb550_52 : decode cJ0_init_bb550 52 = .ok (.aload 5, 2) := by decide +kernel
theorem dJ0_init_bb550_54 : decode cJ0_init_bb550 54 = .ok (.putfield 9, 3) := by decide +kernel
theorem dJ0_init_bb550_57 : decode cJ0_init_bb550 57 = .ok (.return_, 1) := by decide +kernel
theorem dJ0_init_bb550_58 : decode cJ0_init_bb550 58 = .ok (.aload_n 0, 1) := by decide +kernel
theorem dJ0_init_bb550_59 : decode cJ0_init_bb550 59 = .ok (.iconst 1, 1) := by decide +kernel
theorem dJ0_init_bb550_60 : decode cJ0_init_bb550 60 = .ok (.putfield 15, 3) := by decide +kernel
theorem dJ0_init_bb550_63 : decode cJ0_init_bb550 63 = .ok (.aload_n 0, 1) := by decide +kernel
theorem dJ0_init_bb550_64 : decode cJ0_init_bb550 64 = .ok (.aload_n 1, 1) := by decide +kernel
theorem dJ0_init_bb550_65 : decode cJ0_init_bb550 65 = .ok (.iload_n 2, 1) := by decide +kernel
theorem dJ0_init_bb550_66 : decode cJ0_init_bb550 66 = .ok (.iload_n 3, 1) := by decide +kernel
theorem dJ0_init_bb550_67 : decode cJ0_init_bb550 67 = .ok (.invokestatic 180, 3) := by decide +kernel
theorem dJ0_init_bb550_70 : decode cJ0_init_bb550 70 = .ok (.putfield 9, 3) := by decide +kernel
theorem dJ0_init_bb550_73 : decode cJ0_init_bb550 73 = .ok (.return_, 1) := by decide +kernel
theorem dJ2_coderFromArrayLen_85cad_0 : decode cJ2_coderFromArrayLen_85cad 0 = .ok (.iload_n 1, 1) := by decide +kernel
theorem dJ2_coderFromArrayLen_85cad_1 : decode cJ2_coderFromArrayLen_85cad 1 = .ok (.aload_n 0, 1) := by decide +kernel
theorem dJ2_coderFromArrayLen_85cad_2 : decode cJ2_coderFromArrayLen_85cad 2 = .ok (.arraylength, 1) := by decide +kernel
theorem dJ2_coderFromArrayLen_85cad_3 : decode cJ2_coderFromArrayLen_85cad 3 = .ok (.isub, 1) := by decide +kernel
theorem dJ2_coderFromArrayLen_85cad_4 : decode cJ2_coderFromArrayLen_85cad 4 = .ok (.bipush 31, 2) := by decide +kernel
theorem dJ2_coderFromArrayLen_85cad_6 : decode cJ2_coderFromArrayLen_85cad 6 = .ok (.iushr, 1) := by decide +kernel
theorem dJ2_coderFromArrayLen_85cad_7 : decode cJ2_coderFromArrayLen_85cad 7 = .ok (.i2b, 1) := by decide +kernel
theorem dJ2_coderFromArrayLen_85cad_8 : decode cJ2_coderFromArrayLen_85cad 8 = .ok (.ireturn, 1) := by decide +kernel
theorem dJ2_compress_dfd3c_0 : decode cJ2_compress_dfd3c 0 = .ok (.iload_n 2, 1) := by decide +kernel
theorem dJ2_compress_dfd3c_1 : decode cJ2_compress_dfd3c 1 = .ok (.newarray .byte, 2) := by decide +kernel
theorem dJ2_compress_dfd3c_3 : decode cJ2_compress_dfd3c 3 = .ok (.astore_n 3, 1) := by decide +kernel
theorem dJ2_compress_dfd3c_4 : decode cJ2_compress_dfd3c 4 = .ok (.aload_n 0, 1) := by decide +kernel
theorem dJ2_compress_dfd3c_5 : decode cJ2_compress_dfd3c 5 = .ok (.iload_n 1, 1) := by decide +kernel
theorem dJ2_compress_dfd3c_6 : decode cJ2_compress_dfd3c 6 = .ok (.aload_n 3, 1) := by decide +kernel
theorem dJ2_compress_dfd3c_7 : decode cJ2_compress_dfd3c 7 = .ok (.iconst 0, 1) := by decide +kernel
theorem dJ2_compress_dfd3c_8 : decode cJ2_compress_dfd3c 8 = .ok (.iload_n 2, 1) := by decide +kernel
theorem dJ2_compress_dfd3c_9 : decode cJ2_compress_dfd3c 9 = .ok (.invokestatic 115, 3) := by decide +kernel
theorem dJ2_compress_dfd3c_12 : decode cJ2_compress_dfd3c 12 = .ok (.istore 4, 2) := by decide +kernel
theorem dJ2_compress_dfd3c_14 : decode cJ2_compress_dfd3c 14 = .ok (.iload 4, 2) := by decide +kernel
theorem dJ2_compress_dfd3c_16 : decode cJ2_compress_dfd3c 16 = .ok (.iload_n 2, 1) := by decide +kernel
theorem dJ2_compress_dfd3c_17 : decode cJ2_compress_dfd3c 17 = .ok (.if_icmp .eq 40, 3) := by decide +kernel
theorem dJ2_compress_dfd3c_20 : decode cJ2_compress_dfd3c 20 = .ok (.aload_n 0, 1) := by decide +kernel
theorem dJ2_compress_dfd3c_21 : decode cJ2_compress_dfd3c 21 = .ok (.iload_n 1, 1) := by decide +kernel
theorem dJ2_compress_dfd3c_22 : decode cJ2_compress_dfd3c 22 = .ok (.iload_n 2, 1) := by decide +kernel
theorem dJ2_compress_dfd3c_23 : decode cJ2_compress_dfd3c 23 = .ok (.invokestatic 119, 3) := by decide +kernel
theorem dJ2_compress_dfd3c_26 : decode cJ2_compress_dfd3c 26 = .ok (.astore 5, 2) := by decide +kernel
theorem dJ2_compress_dfd3c_28 : decode cJ2_compress_dfd3c 28 = .ok (.aload 5, 2) := by decide +kernel
theorem dJ2_compress_dfd3c_30 : decode cJ2_compress_dfd3c 30 = .ok (.iload 4, 2) := by decide +kernel
theorem dJ2_compress_dfd3c_32 : decode cJ2_compress_dfd3c 32 = .ok (.invokestatic 71, 3) := by decide +kernel
theorem dJ2_compress_dfd3c_35 : decode cJ2_compress_dfd3c 35 = .ok (.sipush 255, 3) := by decide +kernel
theorem dJ2_compress_dfd3c_38 : decode cJ2_compress_dfd3c 38 = .ok (.if_icmp .gt 16, 3) := by decide +kernel
theorem dJ2_compress_dfd3c_41 : decode cJ2_compress_dfd3c 41 = .ok (.aload 5, 2) := by decide +kernel
theorem dJ2_compress_dfd3c_43 : decode cJ2_compress_dfd3c 43 = .ok (.iconst 0, 1) := by decide +kernel
theorem dJ2_compress_dfd3c_44 : decode cJ2_compress_dfd3c 44 = .ok (.aload_n 3, 1) := by decide +kernel
theorem dJ2_compress_dfd3c_45 : decode cJ2_compress_dfd3c 45 = .ok (.iconst 0, 1) := by decide +kernel
theorem dJ2_compress_dfd3c_46 : decode cJ2_compress_dfd3c 46 = .ok (.iload_n 2, 1) := by decide +kernel
theorem dJ2_compress_dfd3c_47 : decode cJ2_compress_dfd3c 47 = .ok (.invokestatic 123, 3) := by decide +kernel
theorem dJ2_compress_dfd3c_50 : decode cJ2_compress_dfd3c 50 = .ok (.iload_n 2, 1) := by decide +kernel
theorem dJ2_compress_dfd3c_51 : decode cJ2_compress_dfd3c 51 = .ok (.if_icmp .eq 6, 3) := by decide +kernel
theorem dJ2_compress_dfd3c_54 : decode cJ2_compress_dfd3c 54 = .ok (.aload 5, 2) := by decide +kernel
theorem dJ2_compress_dfd3c_56 : decode cJ2_compress_dfd3c 56 = .ok (.areturn, 1) := by decide +kernel
theorem dJ2_compress_dfd3c_57 : decode cJ2_compress_dfd3c 57 = .ok (.aload_n 3, 1) := by decide +kernel
theorem dJ2_compress_dfd3c_58 : decode cJ2_compress_dfd3c 58 = .ok (.areturn, 1) := by decide +kernel
theorem dJ2_compress_fe38e_0 : decode cJ2_compress_fe38e 0 = .ok (.iconst 0, 1) := by decide +kernel
theorem dJ2_compress_fe38e_1 : decode cJ2_compress_fe38e 1 = .ok (.istore 5, 2) := by decide +kernel
theorem dJ2_compress_fe38e_3 : decode cJ2_compress_fe38e 3 = .ok (.iload 5, 2) := by decide +kernel
theorem dJ2_compress_fe38e_5 : decode cJ2_compress_fe38e 5 = .ok (.iload 4, 2) := by decide +kernel
theorem dJ2_compress_fe38e_7 : decode cJ2_compress_fe38e 7 = .ok (.if_icmp .ge 37, 3) := by decide +kernel
theorem dJ2_compress_fe38e_10 : decode cJ2_compress_fe38e 10 = .ok (.aload_n 0, 1) := by decide +kernel
theorem dJ2_compress_fe38e_11 : decode cJ2_compress_fe38e 11 = .ok (.iload_n 1, 1) := by decide +kernel
theorem dJ2_compress_fe38e_12 : decode cJ2_compress_fe38e 12 = .ok (.caload, 1) := by decide +kernel
theorem dJ2_compress_fe38e_13 : decode cJ2_compress_fe38e 13 = .ok (.istore 6, 2) := by decide +kernel
theorem dJ2_compress_fe38e_15 : decode cJ2_compress_fe38e 15 = .ok (.iload 6, 2) := by decide +kernel
theorem dJ2_compress_fe38e_17 : decode cJ2_compress_fe38e 17 = .ok (.sipush 255, 3) := by decide +kernel
theorem dJ2_compress_fe38e_20 : decode cJ2_compress_fe38e 20 = .ok (.if_icmp .le 6, 3) := by decide +kernel
theorem dJ2_compress_fe38e_23 : decode cJ2_compress_fe38e 23 = .ok (.iload 5, 2) := by decide +kernel
theorem dJ2_compress_fe38e_25 : decode cJ2_compress_fe38e 25 = .ok (.ireturn, 1) := by decide +kernel
theorem dJ2_compress_fe38e_26 : decode cJ2_compress_fe38e 26 = .ok (.aload_n 2, 1) := by decide +kernel
theorem dJ2_compress_fe38e_27 : decode cJ2_compress_fe38e 27 = .ok (.iload_n 3, 1) := by decide +kernel
theorem dJ2_compress_fe38e_28 : decode cJ2_compress_fe38e 28 = .ok (.iload 6, 2) := by decide +kernel
theorem dJ2_compress_fe38e_30 : decode cJ2_compress_fe38e 30 = .ok (.i2b, 1) := by decide +kernel
theorem dJ2_compress_fe38e_31 : decode cJ2_compress_fe38e 31 = .ok (.bastore, 1) := by decide +kernel
theorem dJ2_compress_fe38e_32 : decode cJ2_compress_fe38e 32 = .ok (.iinc 1 1, 3) := by decide +kernel
theorem dJ2_compress_fe38e_35 : decode cJ2_compress_fe38e 35 = .ok (.iinc 3 1, 3) := by decide +kernel
theorem dJ2_compress_fe38e_38 : decode cJ2_compress_fe38e 38 = .ok (.iinc 5 1, 3) := by decide +kernel
theorem dJ2_compress_fe38e_41 : decode cJ2_compress_fe38e 41 = .ok (.goto (-38), 3) := by decide +kernel
theorem dJ2_compress_fe38e_44 : decode cJ2_compress_fe38e 44 = .ok (.iload 4, 2) := by decide +kernel
theorem dJ2_compress_fe38e_46 : decode cJ2_compress_fe38e 46 = .ok (.ireturn, 1) := by decide +kernel
abbrev rmJ2_compress_fe38e : Room := { frames := 1, cells := 0, slots := 0, locals := 20 }
theorem mJ2_compress_fe38e {l : Launch} {G : Cx} {A : Nat → Prop} {na nb n : Nat} {f g : Nat → Int32} (hn : n ≤ 60) (hAb : A nb) (hne : na ≠ nb) (hf : ∀ j : Nat, j < n → ∃ k0 : Nat, k0 < 256 ∧ f j = nI k0) : Met l yJ2_compress_fe38e (.code yJ2_compress_fe38e cJ2_compress_fe38e 7 (some .int) :: GW) rmJ2_compress_fe38e (PC G A [.ref na, .int (nI 0), .ref nb, .int (nI 0), .int (nI n)] (fun H => va_at G.1 vwCl (na, .inl (G.2.1 1, n, .inl f)) H ∧ va_at G.1 vwCl (nb, .inl (G.2.1 2, n, .inl g)) H)) (qI A (fun r H => r = nI n ∧ ∃ g : Nat → Int32, va_at G.1 vwCl (nb, .inl (G.2.1 2, n, .inl g)) H)) 0 0 (A) := by
  refine mstart "java/lang/StringUTF16" (by decide +kernel) rfl (Nat.le_of_ble_eq_true rfl) ?_
  intro p e s m below meth c ls hx hb hr hts hown hml hlocks hname hC hA hW hl
  have hl : lv_has ls 7 [(0, .ref na), (1, .int (nI 0)), (2, .ref nb), (3, .int (nI 0)), (4, .int (nI n))] := hl
  have hK := hC.1
  have hS : va_S A s.heap s.heap [] := va_S.rf
  obtain ⟨hF, hB⟩ := hW
  refine lv_iconst (v := nI 0) hx hb dJ2_compress_fe38e_0 (by decide) ?_
  refine lv_istore (lv' := [(5, .int (nI 0)), (0, .ref na), (1, .int (nI 0)), (2, .ref nb), (3, .int (nI 0)), (4, .int (nI n))]) hx hb dJ2_compress_fe38e_1 hl (by decide) rfl (fun ls hl => ?_)
  refine nloop (P := fun j => ∀ (ls : Array Slot) (H : Heap) (L : List Loc) (g : Nat → Int32), lv_has ls 7 [(5, .int (nI j)), (0, .ref na), (1, .int (nI j)), (2, .ref nb), (3, .int (nI j)), (4, .int (nI n))] → va_S A s.heap H L → va_at G.1 vwCl (na, .inl (G.2.1 1, n, .inl f)) H → va_at G.1 vwCl (nb, .inl (G.2.1 2, n, .inl g)) H → W p l e rmJ2_compress_fe38e s m [.ref na, .int (nI 0), .ref nb, .int (nI 0), .int (nI n)].toArray below meth c H L 0 0 (MQ below (qI A (fun r H => r = nI n ∧ ∃ g : Nat → Int32, va_at G.1 vwCl (nb, .inl (G.2.1 2, n, .inl g)) H)) [.ref na, .int (nI 0), .ref nb, .int (nI 0), .int (nI n)].toArray s 0 0 (A)) (F0 m 3 ls [])) n ?_ 0 (Nat.zero_le _) ls s.heap [] g hl hS hF hB
  clear hl
  intro j hj ih ls H L g hl
  clear hS hF hB
  intro hS hF hB
  refine lv_iload hx hb dJ2_compress_fe38e_3 (lv_at hl 0 rfl) ?_
  refine lv_iload hx hb dJ2_compress_fe38e_5 (lv_at hl 5 rfl) ?_
  refine b_ge (tgt := 44) hx hb dJ2_compress_fe38e_7 (by decide) (by omega) (by omega) (fun c_1 => ?_) (fun c_1 => ?_)
  · refine lv_iload hx hb dJ2_compress_fe38e_44 (lv_at hl 5 rfl) ?_
    exact q_i hx hb hr hlocks dJ2_compress_fe38e_46 hS (Nat.le_refl _) (Nat.le_refl _) ⟨rfl, _, hB⟩
  · obtain ⟨k0, hk0, hfk⟩ := hf j (by omega)
    refine lv_aload_n hx hb dJ2_compress_fe38e_10 rfl (lv_at hl 1 rfl) ?_
    refine lv_iload_n hx hb dJ2_compress_fe38e_11 rfl (lv_at hl 2 rfl) ?_
    refine va_cald hx hb hK (at_P hF) 0 1 rfl rfl (vp_in_nI (n := j) (N := n) (by omega) (by omega)) dJ2_compress_fe38e_12 ?_
    refine lv_cv (show _ = f j from by rw [nI_clamp (by omega)]) ?_
    refine lv_cv hfk ?_
    refine lv_istore (lv' := [(6, .int (nI k0)), (5, .int (nI j)), (0, .ref na), (1, .int (nI j)), (2, .ref nb), (3, .int (nI j)), (4, .int (nI n))]) hx hb dJ2_compress_fe38e_13 hl (by decide) rfl (fun ls hl => ?_)
    refine lv_iload hx hb dJ2_compress_fe38e_15 (lv_at hl 0 rfl) ?_
    refine lv_sipush (v := nI 255) hx hb dJ2_compress_fe38e_17 (by decide) ?_
    refine b_le (tgt := 26) hx hb dJ2_compress_fe38e_20 (by decide) (by omega) (by omega) (fun c_2 => ?_) (fun c_2 => ?_)
    · refine lv_aload_n hx hb dJ2_compress_fe38e_26 rfl (lv_at hl 4 rfl) ?_
      refine lv_iload_n hx hb dJ2_compress_fe38e_27 rfl (lv_at hl 5 rfl) ?_
      refine lv_iload hx hb dJ2_compress_fe38e_28 (lv_at hl 0 rfl) ?_
      refine lv_i2b hx hb dJ2_compress_fe38e_30 rfl ?_
      refine h_bst (D := G.1) hx hb hK 2 hB rfl hS hAb (vp_in_nI (n := j) (N := n) (by omega) (by omega)) dJ2_compress_fe38e_31 (fun H3 L3 hB z3 o3 hS => ?_)
      rw [nI_clamp (n := j) (by omega)] at hB
      have hF := at_o hF o3 hne
      have hZ3 := hS.1
      refine lv_iinc (v := nI (j + 1)) (lv' := [(1, .int (nI (j + 1))), (6, .int (nI k0)), (5, .int (nI j)), (0, .ref na), (2, .ref nb), (3, .int (nI j)), (4, .int (nI n))]) hx hb dJ2_compress_fe38e_32 hl (k := 3) rfl (nI_add j 1) (by decide) rfl (fun ls hl => ?_)
      refine lv_iinc (v := nI (j + 1)) (lv' := [(3, .int (nI (j + 1))), (1, .int (nI (j + 1))), (6, .int (nI k0)), (5, .int (nI j)), (0, .ref na), (2, .ref nb), (4, .int (nI n))]) hx hb dJ2_compress_fe38e_35 hl (k := 5) rfl (nI_add j 1) (by decide) rfl (fun ls hl => ?_)
      refine lv_iinc (v := nI (j + 1)) (lv' := [(5, .int (nI (j + 1))), (3, .int (nI (j + 1))), (1, .int (nI (j + 1))), (6, .int (nI k0)), (0, .ref na), (2, .ref nb), (4, .int (nI n))]) hx hb dJ2_compress_fe38e_38 hl (k := 3) rfl (nI_add j 1) (by decide) rfl (fun ls hl => ?_)
      refine lv_goto (tgt := 3) hx hb dJ2_compress_fe38e_41 (by decide) ?_
      exact ih (j + 1) (by omega) (by omega) ls H3 L3 _ (lv_sub hl [0, 4, 2, 5, 1, 6] rfl) hS hF hB
    · exact absurd c_2 (by omega)

abbrev rmJ2_compress_dfd3c : Room := { frames := 2, cells := 1, slots := 60, locals := 46 }
theorem mJ2_compress_dfd3c {l : Launch} {G : Cx} {A : Nat → Prop} {na n sz : Nat} {f : Nat → Int32} (hn : n ≤ 60) (hf : ∀ j : Nat, j < n → ∃ k0 : Nat, k0 < 256 ∧ f j = nI k0) : Met l yJ2_compress_dfd3c (.code yJ2_compress_dfd3c cJ2_compress_dfd3c 6 (some (.array .byte)) :: GW) rmJ2_compress_dfd3c (PC G A [.ref na, .int (nI 0), .int (nI n)] (fun H => H.size = sz ∧ va_at G.1 vwCl (na, .inl (G.2.1 1, n, .inl f)) H)) (qR A (fun b H => sz ≤ b ∧ ∃ g : Nat → Int32, va_at G.1 vwCl (b, .inl (G.2.1 2, n, .inl g)) H)) 1 60 (A) := by
  refine mstart "java/lang/StringUTF16" (by decide +kernel) rfl (Nat.le_of_ble_eq_true rfl) ?_
  intro p e s m below meth c ls hx hb hr hts hown hml hlocks hname hC hA hW hl
  have hl : lv_has ls 6 [(0, .ref na), (1, .int (nI 0)), (2, .int (nI n))] := hl
  have hK := hC.1
  have hS : va_S A s.heap s.heap [] := va_S.rf
  obtain ⟨hsz, hF⟩ := hW
  refine lv_iload_n hx hb dJ2_compress_dfd3c_0 rfl (lv_at hl 2 rfl) ?_
  refine h_newa (D := G.1) (atype := .byte) (N := n) (z := (n, .inl (fun _ => 0))) hx hb (hts _ tw_1_162) rfl (fun h => h) hK 2 rfl hS rfl (nI_pos (by omega)) (nI_clamp (by omega)) (show n * _ ≤ _ from by show n * 1 ≤ 536870912; omega) (Nat.le_trans (show 0 + 1 ≤ 1 by omega) (Nat.le_of_ble_eq_true rfl)) (Nat.le_trans (show 0 + n ≤ 60 by omega) (Nat.le_of_ble_eq_true rfl)) dJ2_compress_dfd3c_1 (fun nb H4 hnb hFnb z4 o4 hS => ?_)
  have n4hF : na ≠ nb := fun q => absurd hF.lt (by rw [q, hnb]; exact Nat.lt_irrefl _)
  have hF := at_n hF o4
  have hZ4 := hS.1
  have hMnb : A nb := hA nb (by omega)
  refine lv_astore_n (lv' := [(3, .ref nb), (0, .ref na), (1, .int (nI 0)), (2, .int (nI n))]) hx hb dJ2_compress_dfd3c_3 rfl hl (by decide) rfl (fun ls hl => ?_)
  refine lv_aload_n hx hb dJ2_compress_dfd3c_4 rfl (lv_at hl 1 rfl) ?_
  refine lv_iload_n hx hb dJ2_compress_dfd3c_5 rfl (lv_at hl 2 rfl) ?_
  refine lv_aload_n hx hb dJ2_compress_dfd3c_6 rfl (lv_at hl 0 rfl) ?_
  refine lv_iconst (v := nI 0) hx hb dJ2_compress_dfd3c_7 (by decide) ?_
  refine lv_iload_n hx hb dJ2_compress_dfd3c_8 rfl (lv_at hl 3 rfl) ?_
  refine qI_S (A := A) (A1 := ow nb nb H4.size)  (As := [.ref na, .int (nI 0), .ref nb, .int (nI 0), .int (nI n)]) (rest := []) ⟨hx, hb, hml, hown, hts⟩ (mJ2_compress_fe38e (A := ow nb nb H4.size) (na := na) (nb := nb) (n := n) hn (Or.inl rfl) n4hF hf) (va_cwS 5 hts (gS tw_1_188 tw_1_189 tw_1_7 tw_1_190) rfl rfl rfl (by decide +kernel) ⟨Nat.le_of_ble_eq_true rfl, Nat.le_of_ble_eq_true rfl⟩) hC hS (ow_in hMnb hMnb hA hZ4) ow_n  ⟨hF, hFnb⟩ rfl rfl hl.1 (Nat.le_of_ble_eq_true rfl) ⟨Nat.le_trans (show (0 + 1) ≤ 1 by omega) (Nat.le_of_ble_eq_true rfl), Nat.le_trans (show (0 + n) ≤ 60 by omega) (Nat.le_of_ble_eq_true rfl)⟩ dJ2_compress_dfd3c_9 (fun rv5 H5 L5 hP5 hk5 hS => ?_)
  have hZ5 := hS.1
  obtain ⟨hr9, g, hB⟩ := hP5
  subst hr9
  refine lv_istore (lv' := [(4, .int (nI n)), (3, .ref nb), (0, .ref na), (1, .int (nI 0)), (2, .int (nI n))]) hx hb dJ2_compress_dfd3c_12 hl (by decide) rfl (fun ls hl => ?_)
  refine lv_iload hx hb dJ2_compress_dfd3c_14 (lv_at hl 0 rfl) ?_
  refine lv_iload_n hx hb dJ2_compress_dfd3c_16 rfl (lv_at hl 4 rfl) ?_
  refine b_eq (tgt := 57) hx hb dJ2_compress_dfd3c_17 (by decide) (by omega) (by omega) (fun c_6 => ?_) (fun c_6 => ?_)
  · refine lv_aload_n hx hb dJ2_compress_dfd3c_57 rfl (lv_at hl 1 rfl) ?_
    exact q_a hx hb hr (Or.inr ⟨_, rfl⟩) hlocks dJ2_compress_dfd3c_58 hS (by omega) (by omega) ⟨by rw [hnb, hsz]; exact Nat.le_refl _, g, hB⟩
  · exact absurd rfl c_6

abbrev rmJ2_coderFromArrayLen_85cad : Room := { frames := 1, cells := 0, slots := 0, locals := 20 }
theorem mJ2_coderFromArrayLen_85cad {l : Launch} {G : Cx} {A : Nat → Prop} {b n : Nat} {g : Nat → Int32} : Met l yJ2_coderFromArrayLen_85cad (.code yJ2_coderFromArrayLen_85cad cJ2_coderFromArrayLen_85cad 2 (some .byte) :: GW) rmJ2_coderFromArrayLen_85cad (PC G A [.ref b, .int (nI n)] (fun H => va_at G.1 vwCl (b, .inl (G.2.1 2, n, .inl g)) H)) (vp_Si (fun r => r = 0)) 0 0 (fun _ => False) := by
  refine mstart "java/lang/StringUTF16" (by decide +kernel) rfl (Nat.le_of_ble_eq_true rfl) ?_
  intro p e s m below meth c ls hx hb hr hts hown hml hlocks hname hC hA hW hl
  have hl : lv_has ls 2 [(0, .ref b), (1, .int (nI n))] := hl
  have hK := hC.1
  have hS : va_S A s.heap s.heap [] := va_S.rf
  refine lv_iload_n hx hb dJ2_coderFromArrayLen_85cad_0 rfl (lv_at hl 1 rfl) ?_
  refine lv_aload_n hx hb dJ2_coderFromArrayLen_85cad_1 rfl (lv_at hl 0 rfl) ?_
  refine va_alen hx hb hK (at_P hW) 0 2 (v := nI n) rfl rfl rfl dJ2_coderFromArrayLen_85cad_2 ?_
  refine lv_isub hx hb dJ2_coderFromArrayLen_85cad_3 ?_
  refine lv_bipush (v := nI 31) hx hb dJ2_coderFromArrayLen_85cad_4 (by decide) ?_
  refine lv_iushr (v := 0) hx hb dJ2_coderFromArrayLen_85cad_6 (ush0 n) ?_
  refine lv_i2b (v := 0) hx hb dJ2_coderFromArrayLen_85cad_7 rfl ?_
  exact p_g hx hb hr rfl hlocks dJ2_coderFromArrayLen_85cad_8 rfl

abbrev rmJ0_init_bb550 : Room := { frames := 3, cells := 1, slots := 60, locals := 71 }
theorem mJ0_init_bb550 {l : Launch} {G : Cx} {A : Nat → Prop} {a na n : Nat} {f : Nat → Int32} (hAa : A a) (hne : a ≠ na) (hn : n ≤ 60) (hf : ∀ j : Nat, j < n → ∃ k0 : Nat, k0 < 256 ∧ f j = nI k0) : Met l yJ0_init_bb550 (.code yJ0_init_bb550 cJ0_init_bb550 6 (none : Option Jvm.ClassFile.FieldType) :: GW) rmJ0_init_bb550 (PC G A [.ref a, .ref na, .int (nI 0), .int (nI n), .null] (fun H => va_at G.1 vwCl (a, .inr (0, [.null, .int 0, .int 0, .int 0])) H ∧ va_at G.1 vwCl (na, .inl (G.2.1 1, n, .inl f)) H)) (qV A (fun _ => True)) 1 60 (A) := by
  refine mstart "java/lang/String" (by decide +kernel) rfl (Nat.le_of_ble_eq_true rfl) ?_
  intro p e s m below meth c ls hx hb hr hts hown hml hlocks hname hC hA hW hl
  have hl : lv_has ls 6 [(0, .ref a), (1, .ref na), (2, .int (nI 0)), (3, .int (nI n)), (4, .null)] := hl
  have hK := hC.1
  have hS : va_S A s.heap s.heap [] := va_S.rf
  obtain ⟨hO, hF⟩ := hW
  have hi : 6 < 9 := by decide
  obtain ⟨z1, z2, z3, z4, z5, z6, z7, z8, z9, z10, z11, z12, z13⟩ := hC.2.2.1
  obtain ⟨c1, c2, c3, c4⟩ := hC.2.2.2.1 6 hi
  refine lv_aload_n hx hb dJ0_init_bb550_0 rfl (lv_at hl 0 rfl) ?_
  refine W.objInit hx hb hown (hts _ tw_1_183) (hts _ tw_1_35) (hts _ tw_1_36) rfl (by rw [hml]; exact hl.1) rfl dJ0_init_bb550_1 (Nat.le_of_ble_eq_true rfl) (Nat.le_of_ble_eq_true rfl) ?_
  refine W.eq (g2 := F0 m 4 ls []) rfl ?_
  refine lv_iload_n hx hb dJ0_init_bb550_4 rfl (lv_at hl 3 rfl) ?_
  refine z_ne (tgt := 27) hx hb dJ0_init_bb550_5 (by decide) (by omega) (fun c_7 => ?_) (fun c_7 => ?_)
  · refine va_gets (v := .int 1) hx hb z8 hS hown (hts _ tw_1_93) (fun _ h9 => h9) dJ0_init_bb550_27 ?_
    refine lv_if_eq (tgt := 58) hx hb dJ0_init_bb550_30 (by decide) (fun c_8 => ?_) (fun c_8 => ?_)
    · exact absurd c_8 (by decide)
    · refine lv_aload_n hx hb dJ0_init_bb550_33 rfl (lv_at hl 1 rfl) ?_
      refine lv_iload_n hx hb dJ0_init_bb550_34 rfl (lv_at hl 2 rfl) ?_
      refine lv_iload_n hx hb dJ0_init_bb550_35 rfl (lv_at hl 3 rfl) ?_
      refine qR_S (A := A) (A1 := nw s.heap.size)  (As := [.ref na, .int (nI 0), .int (nI n)]) (rest := []) ⟨hx, hb, hml, hown, hts⟩ (mJ2_compress_dfd3c (A := nw s.heap.size) (na := na) (n := n) (sz := s.heap.size) hn hf) (va_cwS 3 hts (gS tw_1_185 tw_1_186 tw_1_7 tw_1_187) rfl rfl rfl (by decide +kernel) ⟨Nat.le_of_ble_eq_true rfl, Nat.le_of_ble_eq_true rfl⟩) hC hS (nw_in hA (Nat.le_refl _)) nw_n  ⟨rfl, hF⟩ rfl rfl hl.1 (Nat.le_of_ble_eq_true rfl) ⟨Nat.le_trans (show 0 + 1 ≤ 1 by omega) (Nat.le_of_ble_eq_true rfl), Nat.le_trans (show 0 + 60 ≤ 60 by omega) (Nat.le_of_ble_eq_true rfl)⟩ dJ0_init_bb550_36 (fun rv9 H9 L9 hP9 hk9 hS => ?_)
      have hZ9 := hS.1
      obtain ⟨hq1, g, hB⟩ := hP9
      have haz := hO.lt
      have hO := at_kp hO hk9 (Nat.not_le_of_lt hO.lt)
      have nab : a ≠ rv9 := fun q => by rw [← q] at hq1; exact absurd haz (Nat.not_lt_of_le hq1)
      refine lv_astore (lv' := [(5, .ref rv9), (0, .ref a), (1, .ref na), (2, .int (nI 0)), (3, .int (nI n)), (4, .null)]) hx hb dJ0_init_bb550_39 hl (by decide) rfl (fun ls hl => ?_)
      refine lv_aload_n hx hb dJ0_init_bb550_41 rfl (lv_at hl 1 rfl) ?_
      refine lv_aload hx hb dJ0_init_bb550_42 (lv_at hl 0 rfl) ?_
      refine lv_iload_n hx hb dJ0_init_bb550_44 rfl (lv_at hl 4 rfl) ?_
      refine kS_i (A := A) (As := [.ref rv9, .int (nI n)]) (rest := .ref a :: []) ⟨hx, hb, hml, hown, hts⟩ (mJ2_coderFromArrayLen_85cad (A := A) ) (va_cwS 2 hts (gS tw_1_216 tw_1_217 tw_1_7 tw_1_218) rfl rfl rfl (by decide +kernel) ⟨Nat.le_of_ble_eq_true rfl, Nat.le_of_ble_eq_true rfl⟩) hC hS hA  hB rfl rfl hl.1 (Nat.le_of_ble_eq_true rfl) ⟨Nat.le_trans (show (0 + 1) ≤ 1 by omega) (Nat.le_of_ble_eq_true rfl), Nat.le_trans (show (0 + 60) ≤ 60 by omega) (Nat.le_of_ble_eq_true rfl)⟩ dJ0_init_bb550_45 (fun r9 h9 => lv_cv h9 ?_)
      refine h_putF (D := G.1) (ci := 0) (C := RJ0) (T := TJ0) (N := 4) hx hb hts inJ0 tyJ0 tyJ0_ok nmJ0 hown hK hO hS hAa rfl 1 (by decide) (hts _ tw_1_221) (fun _ h9 => h9) rfl hname rfl (tyJ0_ok 1 (by decide)) rfl rfl (Nat.le_of_ble_eq_true rfl) dJ0_init_bb550_48 (fun H10 L10 hO z10 o10 hS => ?_)
      have hO : va_at G.1 vwCl (a, .inr (0, [.null, .int 0, .int 0, .int 0])) H10 := hO
      have hB := at_o hB o10 (Ne.symm nab)
      have hZ10 := hS.1
      refine lv_aload_n hx hb dJ0_init_bb550_51 rfl (lv_at hl 1 rfl) ?_
      refine lv_aload hx hb dJ0_init_bb550_52 (lv_at hl 0 rfl) ?_
      refine h_putF (D := G.1) (ci := 0) (C := RJ0) (T := TJ0) (N := 4) hx hb hts inJ0 tyJ0 tyJ0_ok nmJ0 hown hK hO hS hAa rfl 0 (by decide) (hts _ tw_1_220) (fun _ h9 => h9) rfl hname rfl (tyJ0_ok 0 (by decide)) rfl rfl (Nat.le_of_ble_eq_true rfl) dJ0_init_bb550_54 (fun H11 L11 hO z11 o11 hS => ?_)
      have hO : va_at G.1 vwCl (a, .inr (0, [.ref rv9, .int 0, .int 0, .int 0])) H11 := hO
      have hB := at_o hB o11 (Ne.symm nab)
      have hZ11 := hS.1
      exact q_v hx hb hr hlocks dJ0_init_bb550_57 hS (by omega) (by omega) trivial
  · refine lv_aload_n hx hb dJ0_init_bb550_8 rfl (lv_at hl 0 rfl) ?_
    refine va_ldcS hx hb hown (hC.2.2.2.2.1 ("java/lang/String", 7, "", 6) (by unfold sRl; simp)) dJ0_init_bb550_9 ?_
    refine vk_getf hx hb c3 hS hown (hts _ tw_1_220) (fun _ h9 => h9) dJ0_init_bb550_11 ?_
    refine h_putF (D := G.1) (ci := 0) (C := RJ0) (T := TJ0) (N := 4) hx hb hts inJ0 tyJ0 tyJ0_ok nmJ0 hown hK hO hS hAa rfl 0 (by decide) (hts _ tw_1_220) (fun _ h9 => h9) rfl hname rfl (tyJ0_ok 0 (by decide)) rfl rfl (Nat.le_of_ble_eq_true rfl) dJ0_init_bb550_14 (fun H12 L12 hO z12 o12 hS => ?_)
    have hO : va_at G.1 vwCl (a, .inr (0, [.ref (G.2.2 (40 + 6)), .int 0, .int 0, .int 0])) H12 := hO
    have hF := at_o hF o12 (Ne.symm hne)
    have hZ12 := hS.1
    refine lv_aload_n hx hb dJ0_init_bb550_17 rfl (lv_at hl 0 rfl) ?_
    refine va_ldcS hx hb hown (hC.2.2.2.2.1 ("java/lang/String", 7, "", 6) (by unfold sRl; simp)) dJ0_init_bb550_18 ?_
    refine vk_getf hx hb c2 hS hown (hts _ tw_1_221) (fun _ h9 => h9) dJ0_init_bb550_20 ?_
    refine h_putF (D := G.1) (ci := 0) (C := RJ0) (T := TJ0) (N := 4) hx hb hts inJ0 tyJ0 tyJ0_ok nmJ0 hown hK hO hS hAa rfl 1 (by decide) (hts _ tw_1_221) (fun _ h9 => h9) rfl hname rfl (tyJ0_ok 1 (by decide)) rfl rfl (Nat.le_of_ble_eq_true rfl) dJ0_init_bb550_23 (fun H13 L13 hO z13 o13 hS => ?_)
    have hO : va_at G.1 vwCl (a, .inr (0, [.ref (G.2.2 (40 + 6)), .int 0, .int 0, .int 0])) H13 := hO
    have hF := at_o hF o13 (Ne.symm hne)
    have hZ13 := hS.1
    exact q_v hx hb hr hlocks dJ0_init_bb550_26 hS (by omega) (by omega) trivial

abbrev rmJ0_init_905df : Room := { frames := 4, cells := 1, slots := 60, locals := 96 }
theorem mJ0_init_905df {l : Launch} {G : Cx} {A : Nat → Prop} {a na n : Nat} {f : Nat → Int32} (hAa : A a) (hne : a ≠ na) (hn : n ≤ 60) (hf : ∀ j : Nat, j < n → ∃ k0 : Nat, k0 < 256 ∧ f j = nI k0) : Met l yJ0_init_905df (.code yJ0_init_905df cJ0_init_905df 2 (none : Option Jvm.ClassFile.FieldType) :: GW) rmJ0_init_905df (PC G A [.ref a, .ref na] (fun H => va_at G.1 vwCl (a, .inr (0, [.null, .int 0, .int 0, .int 0])) H ∧ va_at G.1 vwCl (na, .inl (G.2.1 1, n, .inl f)) H)) (qV A (fun _ => True)) 1 60 (A) := by
  refine mstart "java/lang/String" (by decide +kernel) rfl (Nat.le_of_ble_eq_true rfl) ?_
  intro p e s m below meth c ls hx hb hr hts hown hml hlocks hname hC hA hW hl
  have hl : lv_has ls 2 [(0, .ref a), (1, .ref na)] := hl
  have hK := hC.1
  have hS : va_S A s.heap s.heap [] := va_S.rf
  obtain ⟨hO, hF⟩ := hW
  refine lv_aload_n hx hb dJ0_init_905df_0 rfl (lv_at hl 0 rfl) ?_
  refine lv_aload_n hx hb dJ0_init_905df_1 rfl (lv_at hl 1 rfl) ?_
  refine lv_iconst (v := nI 0) hx hb dJ0_init_905df_2 (by decide) ?_
  refine lv_aload_n hx hb dJ0_init_905df_3 rfl (lv_at hl 1 rfl) ?_
  refine va_alen hx hb hK (at_P hF) 0 1 (v := nI n) rfl rfl rfl dJ0_init_905df_4 ?_
  refine lv_null hx hb dJ0_init_905df_5 ?_
  refine qV_I (A := A) (A1 := A) (b := a) (As := [.ref na, .int (nI 0), .int (nI n), .null]) (rest := []) ⟨hx, hb, hml, hown, hts⟩ (mJ0_init_bb550 (A := A) (a := a) (na := na) (n := n) hAa hne hn hf) (cwI 4 hts (gI tw_1_182) rfl rfl rfl (hts _ tw_1_4) (hts _ tw_1_180) (hts _ tw_1_181) rfl (by decide +kernel) ⟨Nat.le_of_ble_eq_true rfl, Nat.le_of_ble_eq_true rfl⟩) hC hS (fun _ h => h) hA  ⟨hO, hF⟩ rfl rfl hl.1 (Nat.le_of_ble_eq_true rfl) ⟨Nat.le_trans (show 0 + 1 ≤ 1 by omega) (Nat.le_of_ble_eq_true rfl), Nat.le_trans (show 0 + 60 ≤ 60 by omega) (Nat.le_of_ble_eq_true rfl)⟩ dJ0_init_905df_6 (fun H14 L14 hP14 hk14 hS => ?_)
  have hZ14 := hS.1
  exact q_v hx hb hr hlocks dJ0_init_905df_9 hS (by omega) (by omega) trivial
end
/-! 15.line5 -/
section
/-! Line, 5: words and strings -/
theorem take_succ_getD {t : List Nat} {j : Nat} (h : j < t.length) : t.take (j + 1) = t.take j ++ [t.getD j 0] := by
  rw [List.take_add_one, List.getElem?_eq_getElem h, List.getD_eq_getElem?_getD, List.getElem?_eq_getElem h]; rfl
theorem dX0_addWord_0 : decode cX0_addWord 0 = .ok (.iconst 0, 1) := by decide +kernel
theorem dX0_addWord_1 : decode cX0_addWord 1 = .ok (.istore_n 2, 1) := by decide +kernel
theorem dX0_addWord_2 : decode cX0_addWord 2 = .ok (.iload_n 2, 1) := by decide +kernel
theorem dX0_addWord_3 : decode cX0_addWord 3 = .ok (.aload_n 1, 1) := by decide +kernel
theorem dX0_addWord_4 : decode cX0_addWord 4 = .ok (.invokevirtual 35, 3) := by decide +kernel
theorem dX0_addWord_7 : decode cX0_addWord 7 = .ok (.if_icmp .ge 18, 3) := by decide +kernel
theorem dX0_addWord_10 : decode cX0_addWord 10 = .ok (.aload_n 0, 1) := by decide +kernel
theorem dX0_addWord_11 : decode cX0_addWord 11 = .ok (.aload_n 1, 1) := by decide +kernel
theorem dX0_addWord_12 : decode cX0_addWord 12 = .ok (.iload_n 2, 1) := by decide +kernel
theorem dX0_addWord_13 : decode cX0_addWord 13 = .ok (.invokevirtual 40, 3) := by decide +kernel
theorem dX0_addWord_16 : decode cX0_addWord 16 = .ok (.invokevirtual 23, 3) := by decide +kernel
theorem dX0_addWord_19 : decode cX0_addWord 19 = .ok (.iinc 2 1, 3) := by decide +kernel
theorem dX0_addWord_22 : decode cX0_addWord 22 = .ok (.goto (-20), 3) := by decide +kernel
theorem dX0_addWord_25 : decode cX0_addWord 25 = .ok (.return_, 1) := by decide +kernel
theorem dX0_asString_0 : decode cX0_asString 0 = .ok (.aload_n 0, 1) := by decide +kernel
theorem dX0_asString_1 : decode cX0_asString 1 = .ok (.getfield 15, 3) := by decide +kernel
theorem dX0_asString_4 : decode cX0_asString 4 = .ok (.newarray .char, 2) := by decide +kernel
theorem dX0_asString_6 : decode cX0_asString 6 = .ok (.astore_n 1, 1) := by decide +kernel
theorem dX0_asString_7 : decode cX0_asString 7 = .ok (.iconst 0, 1) := by decide +kernel
theorem dX0_asString_8 : decode cX0_asString 8 = .ok (.istore_n 2, 1) := by decide +kernel
theorem dX0_asString_9 : decode cX0_asString 9 = .ok (.iload_n 2, 1) := by decide +kernel
theorem dX0_asString_10 : decode cX0_asString 10 = .ok (.aload_n 0, 1) := by decide +kernel
theorem dX0_asString_11 : decode cX0_asString 11 = .ok (.getfield 15, 3) := by decide +kernel
theorem dX0_asString_14 : decode cX0_asString 14 = .ok (.if_icmp .ge 18, 3) := by decide +kernel
theorem dX0_asString_17 : decode cX0_asString 17 = .ok (.aload_n 1, 1) := by decide +kernel
theorem dX0_asString_18 : decode cX0_asString 18 = .ok (.iload_n 2, 1) := by decide +kernel
theorem dX0_asString_19 : decode cX0_asString 19 = .ok (.aload_n 0, 1) := by decide +kernel
theorem dX0_asString_20 : decode cX0_asString 20 = .ok (.getfield 9, 3) := by decide +kernel
theorem dX0_asString_23 : decode cX0_asString 23 = .ok (.iload_n 2, 1) := by decide +kernel
theorem dX0_asString_24 : decode cX0_asString 24 = .ok (.caload, 1) := by decide +kernel
theorem dX0_asString_25 : decode cX0_asString 25 = .ok (.castore, 1) := by decide +kernel
theorem dX0_asString_26 : decode cX0_asString 26 = .ok (.iinc 2 1, 3) := by decide +kernel
theorem dX0_asString_29 : decode cX0_asString 29 = .ok (.goto (-20), 3) := by decide +kernel
theorem dX0_asString_32 : decode cX0_asString 32 = .ok (.new 36, 3) := by decide +kernel
theorem dX0_asString_35 : decode cX0_asString 35 = .ok (.dup, 1) := by decide +kernel
theorem dX0_asString_36 : decode cX0_asString 36 = .ok (.aload_n 1, 1) := by decide +kernel
theorem dX0_asString_37 : decode cX0_asString 37 = .ok (.invokespecial 53, 3) := by decide +kernel
theorem dX0_asString_40 : decode cX0_asString 40 = .ok (.areturn, 1) := by decide +kernel
abbrev rmX0_addWord : Room := { frames := 4, cells := 0, slots := 0, locals := 85 }
theorem mX0_addWord {l : Launch} {G : Cx} {A : Nat → Prop} {a ca i : Nat} {t : List Nat} (hi : i < 9) (hAa : A a) (hAca : A ca) : Met l yX0_addWord (.code yX0_addWord cX0_addWord 3 (none : Option Jvm.ClassFile.FieldType) :: GW) rmX0_addWord (PC G A [.ref a, .ref (G.2.2 (20 + i))] (LA G a ca t)) (qV A (LA G a ca ((t ++ stx i).take 60))) 0 0 (A) := by
  refine mstart "Signtext$Line" (by decide +kernel) rfl (Nat.le_of_ble_eq_true rfl) ?_
  intro p e s m below meth c ls hx hb hr hts hown hml hlocks hname hC hA hW hl
  have hl : lv_has ls 3 [(0, .ref a), (1, .ref (G.2.2 (20 + i)))] := hl
  have hK := hC.1
  have hS : va_S A s.heap s.heap [] := va_S.rf
  obtain ⟨c1, c2, c3, c4⟩ := hC.2.2.2.1 i hi
  have t60 := hW.1
  have hi5 := stx_len hi
  refine lv_iconst (v := nI 0) hx hb dX0_addWord_0 (by decide) ?_
  refine lv_istore_n (lv' := [(2, .int (nI 0)), (0, .ref a), (1, .ref (G.2.2 (20 + i)))]) hx hb dX0_addWord_1 rfl hl (by decide) rfl (fun ls hl => ?_)
  refine nloop (P := fun j => ∀ (ls : Array Slot) (H : Heap) (L : List Loc), lv_has ls 3 [(2, .int (nI j)), (0, .ref a), (1, .ref (G.2.2 (20 + i)))] → va_S A s.heap H L → LA G a ca ((t ++ (stx i).take j).take 60) H → W p l e rmX0_addWord s m [.ref a, .ref (G.2.2 (20 + i))].toArray below meth c H L 0 0 (MQ below (qV A (LA G a ca ((t ++ stx i).take 60))) [.ref a, .ref (G.2.2 (20 + i))].toArray s 0 0 (A)) (F0 m 2 ls [])) ((stx i).length) ?_ 0 (Nat.zero_le _) ls s.heap [] hl hS (by rw [List.take_zero, List.append_nil, List.take_of_length_le t60]; exact hW)
  clear hl
  intro j hj ih ls H L hl
  clear hS hW
  intro hS hW
  have hZ0 := hS.1
  refine lv_iload_n hx hb dX0_addWord_2 rfl (lv_at hl 0 rfl) ?_
  refine lv_aload_n hx hb dX0_addWord_3 rfl (lv_at hl 2 rfl) ?_
  refine kV_i (A := A) (b := (G.2.2 (20 + i))) (As := []) (rest := .int (nI j) :: []) ⟨hx, hb, hml, hown, hts⟩ (mJ0_length_8abf5 (A := A) hi) (cwV 0 hts (gV tw_1_85 tw_1_86 tw_1_87 tw_1_4 tw_1_88) rfl rfl rfl (by decide +kernel) ⟨Nat.le_of_ble_eq_true rfl, Nat.le_of_ble_eq_true rfl⟩) hC hS hA (va_Orecv c1 hS) trivial rfl rfl hl.1 (Nat.le_of_ble_eq_true rfl) ⟨Nat.zero_le _, Nat.zero_le _⟩ dX0_addWord_4 (fun r9 h9 => lv_cv h9 ?_)
  refine b_ge (tgt := 25) hx hb dX0_addWord_7 (by decide) (by omega) (by omega) (fun c_1 => ?_) (fun c_1 => ?_)
  · obtain rfl : j = (stx i).length := by omega
    rw [List.take_length] at hW
    exact q_v hx hb hr hlocks dX0_addWord_25 hS (Nat.le_refl _) (Nat.le_refl _) hW
  · refine lv_aload_n hx hb dX0_addWord_10 rfl (lv_at hl 1 rfl) ?_
    refine lv_aload_n hx hb dX0_addWord_11 rfl (lv_at hl 2 rfl) ?_
    refine lv_iload_n hx hb dX0_addWord_12 rfl (lv_at hl 0 rfl) ?_
    refine kV_i (A := A) (b := (G.2.2 (20 + i))) (As := [.int (nI j)]) (rest := .ref a :: []) ⟨hx, hb, hml, hown, hts⟩ (mJ0_charAt_5068e (A := A) hi (j := j) (by omega)) (cwV 1 hts (gV tw_1_95 tw_1_96 tw_1_97 tw_1_4 tw_1_98) rfl rfl rfl (by decide +kernel) ⟨Nat.le_of_ble_eq_true rfl, Nat.le_of_ble_eq_true rfl⟩) hC hS hA (va_Orecv c1 hS) trivial rfl rfl hl.1 (Nat.le_of_ble_eq_true rfl) ⟨Nat.zero_le _, Nat.zero_le _⟩ dX0_addWord_13 (fun r9 h9 => lv_cv h9 ?_)
    refine qV_V (A := A) (A1 := ow a ca H.size) (b := a) (As := [.int (nI ((stx i).getD j 0))]) (rest := []) ⟨hx, hb, hml, hown, hts⟩ (mX0_addCode (A := ow a ca H.size) (ca := ca) (k0 := (stx i).getD j 0) (Or.inl rfl) (Or.inr (Or.inl rfl)) (stx_lt hi j)) (cwV 1 hts (gV tw_1_133 tw_1_134 tw_1_135 tw_1_2 tw_1_136) rfl rfl rfl (by decide +kernel) ⟨Nat.le_of_ble_eq_true rfl, Nat.le_of_ble_eq_true rfl⟩) hC hS (ow_in hAa hAca hA hZ0) ow_n (hW.recv hK) hW rfl rfl hl.1 (Nat.le_of_ble_eq_true rfl) ⟨Nat.zero_le _, Nat.zero_le _⟩ dX0_addWord_16 (fun H2 L2 hP2 hk2 hS => ?_)
    have hZ2 := hS.1
    refine lv_iinc (v := nI (j + 1)) (lv' := [(2, .int (nI (j + 1))), (0, .ref a), (1, .ref (G.2.2 (20 + i)))]) hx hb dX0_addWord_19 hl (k := 0) rfl (nI_add j 1) (by decide) rfl (fun ls hl => ?_)
    refine lv_goto (tgt := 2) hx hb dX0_addWord_22 (by decide) ?_
    exact ih (j + 1) (by omega) (by omega) ls H2 L2 (lv_sub hl [0, 1, 2] rfl) hS (by rw [take_succ_getD (t := stx i) (j := j) (by omega), ← List.append_assoc, ← take_take60]; exact hP2)

abbrev rmX0_asString : Room := { frames := 5, cells := 3, slots := 124, locals := 117 }
theorem mX0_asString {l : Launch} {G : Cx} {A : Nat → Prop} {a ca : Nat} {t : List Nat} : Met l yX0_asString (.code yX0_asString cX0_asString 3 (some (.object "java/lang/String")) :: GW) rmX0_asString (PC G A [.ref a] (LA G a ca t)) (qR A (fun _ _ => True)) 3 124 (A) := by
  refine mstart "Signtext$Line" (by decide +kernel) rfl (Nat.le_of_ble_eq_true rfl) ?_
  intro p e s m below meth c ls hx hb hr hts hown hml hlocks hname hC hA hW hl
  have hl : lv_has ls 3 [(0, .ref a)] := hl
  have hK := hC.1
  have hS : va_S A s.heap s.heap [] := va_S.rf
  have hq9 := hW
  obtain ⟨t60, tok, tne, hO, f, hF, hf⟩ := hq9
  refine lv_aload_n hx hb dX0_asString_0 rfl (lv_at hl 0 rfl) ?_
  refine va_get (D := G.1) (ci := 4) (C := RX0) (T := TX0) (N := 2) hx hb hts inX0 hown hK (at_P hO) 0 rfl rfl 1 (by decide) (hts _ tw_1_45) (fun _ h9 => h9) rfl dX0_asString_1 ?_
  refine h_newa (D := G.1) (atype := .char) (N := t.length) (z := (t.length, .inl (fun _ => 0))) hx hb (hts _ tw_1_51) rfl (fun h => h) hK 1 rfl hS rfl (nI_pos (by omega)) (nI_clamp (by omega)) (show t.length * _ ≤ _ from by show t.length * 2 ≤ 536870912; omega) (Nat.le_trans (show 0 + 1 ≤ 3 by omega) (Nat.le_of_ble_eq_true rfl)) (Nat.le_trans (show 0 + t.length ≤ 124 by omega) (Nat.le_of_ble_eq_true rfl)) dX0_asString_4 (fun na H3 hna hFna z3 o3 hS => ?_)
  have n3hO : a ≠ na := fun q => absurd hO.lt (by rw [q, hna]; exact Nat.lt_irrefl _)
  have n3hF : ca ≠ na := fun q => absurd hF.lt (by rw [q, hna]; exact Nat.lt_irrefl _)
  have hO := at_n hO o3
  have hF := at_n hF o3
  have hZ3 := hS.1
  have hMna : A na := hA na (by omega)
  refine lv_astore_n (lv' := [(1, .ref na), (0, .ref a)]) hx hb dX0_asString_6 rfl hl (by decide) rfl (fun ls hl => ?_)
  refine lv_iconst (v := nI 0) hx hb dX0_asString_7 (by decide) ?_
  refine lv_istore_n (lv' := [(2, .int (nI 0)), (1, .ref na), (0, .ref a)]) hx hb dX0_asString_8 rfl hl (by decide) rfl (fun ls hl => ?_)
  refine nloop (P := fun j => ∀ (ls : Array Slot) (H : Heap) (L : List Loc) (g : Nat → Int32), lv_has ls 3 [(2, .int (nI j)), (1, .ref na), (0, .ref a)] → va_S A s.heap H L → va_at G.1 vwCl (a, .inr (4, [.ref ca, .int (nI t.length)])) H → va_at G.1 vwCl (ca, .inl (G.2.1 1, 60, .inl f)) H → va_at G.1 vwCl (na, .inl (G.2.1 1, t.length, .inl g)) H → (∀ k : Nat, k < j → g k = nI (t.getD k 0)) → W p l e rmX0_asString s m [.ref a].toArray below meth c H L (0 + 1) (0 + t.length) (MQ below (qR A (fun _ _ => True)) [.ref a].toArray s 3 124 (A)) (F0 m 9 ls [])) t.length ?_ 0 (Nat.zero_le _) ls H3 [] (fun _ => 0) hl hS hO hF hFna (fun k hk => absurd hk (Nat.not_lt_zero k))
  clear hl
  intro j hj ih ls H L g hl
  clear hS hO hF hFna
  intro hS hO hF hFna hg
  have hZ0 := hS.1
  refine lv_iload_n hx hb dX0_asString_9 rfl (lv_at hl 0 rfl) ?_
  refine lv_aload_n hx hb dX0_asString_10 rfl (lv_at hl 2 rfl) ?_
  refine va_get (D := G.1) (ci := 4) (C := RX0) (T := TX0) (N := 2) hx hb hts inX0 hown hK (at_P hO) 0 rfl rfl 1 (by decide) (hts _ tw_1_45) (fun _ h9 => h9) rfl dX0_asString_11 ?_
  refine b_ge (tgt := 32) hx hb dX0_asString_14 (by decide) (by omega) (by omega) (fun c_4 => ?_) (fun c_4 => ?_)
  · refine h_new (D := G.1) (C := RJ0) (T := TJ0) (N := 4) (ci := 0) (fs := [.null, .int 0, .int 0, .int 0]) hx hb hts inJ0 tyJ0 tyJ0_ok hown (hts _ tw_1_175) (hts _ tw_1_176) (hts _ tw_1_4) hK hS rfl (fun j hj => match j, hj with | 0, _ => rfl | 1, _ => rfl | 2, _ => rfl | 3, _ => rfl) (Nat.le_trans (show (0 + 1) + 1 ≤ 3 by omega) (Nat.le_of_ble_eq_true rfl)) (Nat.le_trans (show (0 + t.length) + 4 ≤ 124 by omega) (Nat.le_of_ble_eq_true rfl)) dX0_asString_32 (fun sa H5 hsa hOsa z5 o5 hS => ?_)
    have n5hO : a ≠ sa := fun q => absurd hO.lt (by rw [q, hsa]; exact Nat.lt_irrefl _)
    have n5hF : ca ≠ sa := fun q => absurd hF.lt (by rw [q, hsa]; exact Nat.lt_irrefl _)
    have n5hFna : na ≠ sa := fun q => absurd hFna.lt (by rw [q, hsa]; exact Nat.lt_irrefl _)
    have hO := at_n hO o5
    have hF := at_n hF o5
    have hFna := at_n hFna o5
    have hZ5 := hS.1
    have hMsa : A sa := hA sa (by omega)
    refine lv_dup hx hb dX0_asString_35 rfl ?_
    refine lv_aload_n hx hb dX0_asString_36 rfl (lv_at hl 1 rfl) ?_
    refine qV_I (A := A) (A1 := A) (b := sa) (As := [.ref na]) (rest := .ref sa :: []) ⟨hx, hb, hml, hown, hts⟩ (mJ0_init_905df (A := A) (a := sa) (na := na) (n := t.length) hMsa (Ne.symm n5hFna) t60 (fun k hk => ⟨t.getD k 0, tok k, hg k (by omega)⟩)) (cwI 1 hts (gI tw_1_179) rfl rfl rfl (hts _ tw_1_4) (hts _ tw_1_177) (hts _ tw_1_178) rfl (by decide +kernel) ⟨Nat.le_of_ble_eq_true rfl, Nat.le_of_ble_eq_true rfl⟩) hC hS (fun _ h => h) (fun q h => hA q (by omega))  ⟨hOsa, hFna⟩ rfl rfl hl.1 (Nat.le_of_ble_eq_true rfl) ⟨Nat.le_trans (show ((0 + 1) + 1) + 1 ≤ 3 by omega) (Nat.le_of_ble_eq_true rfl), Nat.le_trans (show ((0 + t.length) + 4) + 60 ≤ 124 by omega) (Nat.le_of_ble_eq_true rfl)⟩ dX0_asString_37 (fun H6 L6 hP6 hk6 hS => ?_)
    have hZ6 := hS.1
    exact q_a hx hb hr (Or.inl ⟨_, rfl⟩) hlocks dX0_asString_40 hS (by omega) (by omega) trivial
  · refine lv_aload_n hx hb dX0_asString_17 rfl (lv_at hl 1 rfl) ?_
    refine lv_iload_n hx hb dX0_asString_18 rfl (lv_at hl 0 rfl) ?_
    refine lv_aload_n hx hb dX0_asString_19 rfl (lv_at hl 2 rfl) ?_
    refine va_get (D := G.1) (ci := 4) (C := RX0) (T := TX0) (N := 2) hx hb hts inX0 hown hK (at_P hO) 0 rfl rfl 0 (by decide) (hts _ tw_1_44) (fun _ h9 => h9) rfl dX0_asString_20 ?_
    refine lv_iload_n hx hb dX0_asString_23 rfl (lv_at hl 0 rfl) ?_
    refine va_cald hx hb hK (at_P hF) 0 1 rfl rfl (vp_in_nI (n := j) (N := 60) (by omega) (by omega)) dX0_asString_24 ?_
    refine lv_cv (show _ = nI (t.getD j 0) from by rw [nI_clamp (by omega)]; exact hf _ (by omega)) ?_
    have tokj := tok j
    refine h_cst (D := G.1) hx hb hK 1 hFna rfl hS hMna (vp_in_nI (n := j) (N := t.length) (by omega) (by omega)) dX0_asString_25 (fun H7 L7 hFna z7 o7 hS => ?_)
    rw [nI_clamp (n := j) (by omega)] at hFna
    have hO := at_o hO o7 n3hO
    have hF := at_o hF o7 n3hF
    have hZ7 := hS.1
    refine lv_iinc (v := nI (j + 1)) (lv' := [(2, .int (nI (j + 1))), (1, .ref na), (0, .ref a)]) hx hb dX0_asString_26 hl (k := 0) rfl (nI_add j 1) (by decide) rfl (fun ls hl => ?_)
    refine lv_goto (tgt := 9) hx hb dX0_asString_29 (by decide) ?_
    exact ih (j + 1) (by omega) (by omega) ls H7 L7 _ (lv_sub hl [0, 1, 2] rfl) hS hO hF hFna (fun k hk => by rcases Nat.lt_succ_iff_lt_or_eq.mp hk with q | q; rw [pk_un (by omega)]; exact hg k q; rw [q, pk_us, nar_char (by omega)])
end
/-! 16.line6 -/
section
/-! numbers as texts -/
def digs : Nat → Nat → Bool → List Nat
  | 0, _, _ => []
  | k + 1, v, b => (if (b || decide (v / 10 ^ k % 10 ≠ 0) || decide (k = 0)) = true then [48 + v / 10 ^ k % 10] else []) ++ digs k v (b || decide (v / 10 ^ k % 10 ≠ 0) || decide (k = 0))
def numL (x : Int64) : List Nat := (if x < 0 then [45] else []) ++ digs 19 x.toInt.natAbs false
def tnL (k : Nat) : Int64 := if k = 0 then 0 else lN (10 ^ (k - 1))
theorem digs_t {k v d : Nat} {b : Bool} (hd : v / 10 ^ k % 10 = d) (h : (b || decide (d ≠ 0) || decide (k = 0)) = true) : digs (k + 1) v b = [48 + d] ++ digs k v true := by
  subst hd
  show (if (b || decide (v / 10 ^ k % 10 ≠ 0) || decide (k = 0)) = true then [48 + v / 10 ^ k % 10] else []) ++ digs k v (b || decide (v / 10 ^ k % 10 ≠ 0) || decide (k = 0)) = _
  rw [h, if_pos rfl]
theorem digs_f {k v d : Nat} {b : Bool} (hd : v / 10 ^ k % 10 = d) (h : (b || decide (d ≠ 0) || decide (k = 0)) = false) : digs (k + 1) v b = digs k v false := by
  subst hd
  show (if (b || decide (v / 10 ^ k % 10 ≠ 0) || decide (k = 0)) = true then [48 + v / 10 ^ k % 10] else []) ++ digs k v (b || decide (v / 10 ^ k % 10 ≠ 0) || decide (k = 0)) = _
  rw [h, if_neg (by decide)]; rfl
theorem tnL_div {k : Nat} (h : k < 19) : tnL (k + 1) / 10 = tnL k := by
  have q : ∀ x : Fin 19, tnL (x.1 + 1) / 10 = tnL x.1 := by decide +kernel
  exact q ⟨k, h⟩
theorem tnL_cmp0 {k : Nat} (h : k < 19) : lg_cmp (tnL (k + 1)) 0 = 1 := by
  have q : ∀ x : Fin 19, lg_cmp (tnL (x.1 + 1)) 0 = 1 := by decide +kernel
  exact q ⟨k, h⟩
theorem tnL_cmp1 {k : Nat} (h : k < 19) : lg_cmp (tnL (k + 1)) 1 = if k = 0 then 0 else 1 := by
  have q : ∀ x : Fin 19, lg_cmp (tnL (x.1 + 1)) 1 = if x.1 = 0 then 0 else 1 := by decide +kernel
  exact q ⟨k, h⟩
theorem tnL_ne {k : Nat} (h : k < 19) : ¬ tnL (k + 1) = 0 := by
  have q : ∀ x : Fin 19, ¬ tnL (x.1 + 1) = 0 := by decide +kernel
  exact q ⟨k, h⟩
theorem tnL_int {k : Nat} (h : k < 19) : (tnL (k + 1)).toInt = (10 ^ k : Nat) := by
  have q : ∀ x : Fin 19, (tnL (x.1 + 1)).toInt = (10 ^ x.1 : Nat) := by decide +kernel
  exact q ⟨k, h⟩
theorem tdiv_abs (X : Int) (T : Nat) : (X.tdiv T).natAbs ≤ X.natAbs := by
  rw [Int.natAbs_tdiv]; exact Nat.div_le_self _ _
theorem bmod_id {z : Int} (h1 : -9223372036854775808 ≤ z) (h2 : z < 9223372036854775808) : z.bmod (2 ^ 64) = z := by
  apply Int.bmod_eq_of_le <;> omega
theorem bmod_id32 {z : Int} (h1 : -2147483648 ≤ z) (h2 : z < 2147483648) : z.bmod (2 ^ 32) = z := by
  apply Int.bmod_eq_of_le <;> omega
theorem div_int (x y : Int64) (hy : 0 < y.toInt) : (x / y).toInt = x.toInt.tdiv y.toInt :=
  Int64.toInt_div_of_ne_right x y (by rintro rfl; revert hy; decide)
theorem rem_int (x y : Int64) (hy : 0 < y.toInt) : (x - x / y * y).toInt = x.toInt.tmod y.toInt := by
  have hq := div_int x y hy
  have h1 := Int64.le_toInt x
  have h2 := Int64.toInt_lt x
  have e : y.toInt * x.toInt.tdiv y.toInt = x.toInt - x.toInt.tmod y.toInt := by
    have := Int.mul_tdiv_add_tmod x.toInt y.toInt; omega
  have a1 : (x.toInt.tmod y.toInt).natAbs ≤ x.toInt.natAbs := by rw [Int.natAbs_tmod]; exact Nat.mod_le _ _
  have a2 : (y.toInt * x.toInt.tdiv y.toInt).natAbs ≤ x.toInt.natAbs := by
    rw [Int.natAbs_mul, Int.natAbs_tdiv]; exact Nat.mul_div_le _ _
  have e2 : (x / y * y).toInt = y.toInt * x.toInt.tdiv y.toInt := by
    rw [Int64.toInt_mul, hq, Int.mul_comm]
    rcases Int.lt_or_le x.toInt 0 with h | h
    · have h3 : x.toInt.tdiv y.toInt ≤ 0 := by
        have : x.toInt.tdiv y.toInt = -((-x.toInt).tdiv y.toInt) := by rw [Int.neg_tdiv, Int.neg_neg]
        have h5 : 0 ≤ (-x.toInt).tdiv y.toInt := Int.tdiv_nonneg (by omega) (by omega)
        omega
      have h4 : y.toInt * x.toInt.tdiv y.toInt ≤ 0 := Int.mul_nonpos_of_nonneg_of_nonpos (by omega) h3
      exact bmod_id (by omega) (by omega)
    · have h4 : 0 ≤ y.toInt * x.toInt.tdiv y.toInt := Int.mul_nonneg (by omega) (Int.tdiv_nonneg h (by omega))
      exact bmod_id (by omega) (by omega)
  rw [Int64.toInt_sub, e2, e]
  rcases Int.lt_or_le x.toInt 0 with h | h
  · have h3 : x.toInt.tmod y.toInt ≤ 0 := by
      have : x.toInt.tmod y.toInt = -((-x.toInt).tmod y.toInt) := by rw [Int.neg_tmod, Int.neg_neg]
      have h5 : 0 ≤ (-x.toInt).tmod y.toInt := Int.tmod_nonneg _ (by omega)
      omega
    rw [bmod_id (by omega) (by omega)]; omega
  · have h3 : 0 ≤ x.toInt.tmod y.toInt := Int.tmod_nonneg _ h
    rw [bmod_id (by omega) (by omega)]; omega
theorem dig_eq (x : Int64) {k : Nat} (hk : k < 19) : (if 0 ≤ (x / tnL (k + 1) - x / tnL (k + 1) / 10 * 10).toInt32 then (x / tnL (k + 1) - x / tnL (k + 1) / 10 * 10).toInt32 else 0 - (x / tnL (k + 1) - x / tnL (k + 1) / 10 * 10).toInt32) = nI (x.toInt.natAbs / 10 ^ k % 10) := by
  have h0 := tnL_int hk
  have hp : 0 < 10 ^ k := Nat.pow_pos (by decide)
  have h1 := div_int x (tnL (k + 1)) (by rw [h0]; exact_mod_cast hp)
  have h2 := rem_int (x / tnL (k + 1)) 10 (by decide)
  have h3 : (x / tnL (k + 1)).toInt.natAbs = x.toInt.natAbs / 10 ^ k := by rw [h1, h0, Int.natAbs_tdiv]; rfl
  have h4 : ((x / tnL (k + 1)).toInt.tmod 10).natAbs = x.toInt.natAbs / 10 ^ k % 10 := by rw [Int.natAbs_tmod, h3]; rfl
  generalize hr : x / tnL (k + 1) - x / tnL (k + 1) / 10 * 10 = r at *
  have h5 : r.toInt = (x / tnL (k + 1)).toInt.tmod 10 := h2
  rw [← h5] at h4
  have h6 : x.toInt.natAbs / 10 ^ k % 10 < 10 := Nat.mod_lt _ (by decide)
  have h7 : r.toInt32.toInt = r.toInt := by rw [Int64.toInt_toInt32]; exact bmod_id32 (by omega) (by omega)
  rw [← h4]
  split
  · next h =>
    rw [Int32.le_iff_toInt_le, h7] at h
    have h8 : (0 : Int) ≤ r.toInt := h
    rw [← Int32.toInt_inj, h7, nI_toInt (by omega)]; omega
  · next h =>
    rw [Int32.le_iff_toInt_le, h7] at h
    have h8 : ¬ (0 : Int) ≤ r.toInt := h
    rw [Int32.zero_sub, ← Int32.toInt_inj, Int32.toInt_neg, h7, nI_toInt (by omega)]
    rw [bmod_id32 (by omega) (by omega)]; omega
theorem lt0_cmp (x : Int64) : 0 ≤ lg_cmp x 0 ↔ ¬ x < 0 := by
  have z : (0 : Int64).toInt = 0 := rfl
  have e1 : x > 0 ↔ 0 < x.toInt := by rw [gt_iff_lt, Int64.lt_iff_toInt_lt, z]
  have e2 : x < 0 ↔ x.toInt < 0 := by rw [Int64.lt_iff_toInt_lt, z]
  have e3 : x = 0 ↔ x.toInt = 0 := by rw [← Int64.toInt_inj, z]
  unfold lg_cmp
  rw [e2]
  by_cases h : x > 0
  · rw [if_pos h]; rw [e1] at h; exact ⟨fun _ => by omega, fun _ => by decide⟩
  · rw [if_neg h]
    by_cases h2 : x = 0
    · rw [if_pos h2]; rw [e3] at h2; exact ⟨fun _ => by omega, fun _ => by decide⟩
    · rw [if_neg h2]; rw [e1] at h; rw [e3] at h2; exact ⟨fun q => absurd q (by decide), fun q => absurd (show x.toInt < 0 by omega) q⟩
theorem dX0_addNumber_0 : decode cX0_addNumber 0 = .ok (.lload_n 1, 1) := by decide +kernel
theorem dX0_addNumber_1 : decode cX0_addNumber 1 = .ok (.lconst 0, 1) := by decide +kernel
theorem dX0_addNumber_2 : decode cX0_addNumber 2 = .ok (.lcmp, 1) := by decide +kernel
theorem dX0_addNumber_3 : decode cX0_addNumber 3 = .ok (.ifCond .ge 9, 3) := by decide +kernel
theorem dX0_addNumber_6 : decode cX0_addNumber 6 = .ok (.aload_n 0, 1) := by decide +kernel
theorem dX0_addNumber_7 : decode cX0_addNumber 7 = .ok (.bipush 45, 2) := by decide +kernel
theorem dX0_addNumber_9 : decode cX0_addNumber 9 = .ok (.invokevirtual 23, 3) := by decide +kernel
theorem dX0_addNumber_12 : decode cX0_addNumber 12 = .ok (.iconst 0, 1) := by decide +kernel
theorem dX0_addNumber_13 : decode cX0_addNumber 13 = .ok (.istore_n 3, 1) := by decide +kernel
theorem dX0_addNumber_14 : decode cX0_addNumber 14 = .ok (.ldc2_w 44, 3) := by decide +kernel
theorem dX0_addNumber_17 : decode cX0_addNumber 17 = .ok (.lstore 4, 2) := by decide +kernel
theorem dX0_addNumber_19 : decode cX0_addNumber 19 = .ok (.lload 4, 2) := by decide +kernel
theorem dX0_addNumber_21 : decode cX0_addNumber 21 = .ok (.lconst 0, 1) := by decide +kernel
theorem dX0_addNumber_22 : decode cX0_addNumber 22 = .ok (.lcmp, 1) := by decide +kernel
theorem dX0_addNumber_23 : decode cX0_addNumber 23 = .ok (.ifCond .le 63, 3) := by decide +kernel
theorem dX0_addNumber_26 : decode cX0_addNumber 26 = .ok (.lload_n 1, 1) := by decide +kernel
theorem dX0_addNumber_27 : decode cX0_addNumber 27 = .ok (.lload 4, 2) := by decide +kernel
theorem dX0_addNumber_29 : decode cX0_addNumber 29 = .ok (.ldiv, 1) := by decide +kernel
theorem dX0_addNumber_30 : decode cX0_addNumber 30 = .ok (.ldc2_w 46, 3) := by decide +kernel
theorem dX0_addNumber_33 : decode cX0_addNumber 33 = .ok (.lrem, 1) := by decide +kernel
theorem dX0_addNumber_34 : decode cX0_addNumber 34 = .ok (.l2i, 1) := by decide +kernel
theorem dX0_addNumber_35 : decode cX0_addNumber 35 = .ok (.invokestatic 48, 3) := by decide +kernel
theorem dX0_addNumber_38 : decode cX0_addNumber 38 = .ok (.istore 6, 2) := by decide +kernel
theorem dX0_addNumber_40 : decode cX0_addNumber 40 = .ok (.iload_n 3, 1) := by decide +kernel
theorem dX0_addNumber_41 : decode cX0_addNumber 41 = .ok (.ifCond .ne 15, 3) := by decide +kernel
theorem dX0_addNumber_44 : decode cX0_addNumber 44 = .ok (.iload 6, 2) := by decide +kernel
theorem dX0_addNumber_46 : decode cX0_addNumber 46 = .ok (.ifCond .ne 10, 3) := by decide +kernel
theorem dX0_addNumber_49 : decode cX0_addNumber 49 = .ok (.lload 4, 2) := by decide +kernel
theorem dX0_addNumber_51 : decode cX0_addNumber 51 = .ok (.lconst 1, 1) := by decide +kernel
theorem dX0_addNumber_52 : decode cX0_addNumber 52 = .ok (.lcmp, 1) := by decide +kernel
theorem dX0_addNumber_53 : decode cX0_addNumber 53 = .ok (.ifCond .ne 7, 3) := by decide +kernel
theorem dX0_addNumber_56 : decode cX0_addNumber 56 = .ok (.iconst 1, 1) := by decide +kernel
theorem dX0_addNumber_57 : decode cX0_addNumber 57 = .ok (.goto 4, 3) := by decide +kernel
theorem dX0_addNumber_60 : decode cX0_addNumber 60 = .ok (.iconst 0, 1) := by decide +kernel
theorem dX0_addNumber_61 : decode cX0_addNumber 61 = .ok (.istore_n 3, 1) := by decide +kernel
theorem dX0_addNumber_62 : decode cX0_addNumber 62 = .ok (.iload_n 3, 1) := by decide +kernel
theorem dX0_addNumber_63 : decode cX0_addNumber 63 = .ok (.ifCond .eq 12, 3) := by decide +kernel
theorem dX0_addNumber_66 : decode cX0_addNumber 66 = .ok (.aload_n 0, 1) := by decide +kernel
theorem dX0_addNumber_67 : decode cX0_addNumber 67 = .ok (.bipush 48, 2) := by decide +kernel
theorem dX0_addNumber_69 : decode cX0_addNumber 69 = .ok (.iload 6, 2) := by decide +kernel
theorem dX0_addNumber_71 : decode cX0_addNumber 71 = .ok (.iadd, 1) := by decide +kernel
theorem dX0_addNumber_72 : decode cX0_addNumber 72 = .ok (.invokevirtual 23, 3) := by decide +kernel
theorem dX0_addNumber_75 : decode cX0_addNumber 75 = .ok (.lload 4, 2) := by decide +kernel
theorem dX0_addNumber_77 : decode cX0_addNumber 77 = .ok (.ldc2_w 46, 3) := by decide +kernel
theorem dX0_addNumber_80 : decode cX0_addNumber 80 = .ok (.ldiv, 1) := by decide +kernel
theorem dX0_addNumber_81 : decode cX0_addNumber 81 = .ok (.lstore 4, 2) := by decide +kernel
theorem dX0_addNumber_83 : decode cX0_addNumber 83 = .ok (.goto (-64), 3) := by decide +kernel
theorem dX0_addNumber_86 : decode cX0_addNumber 86 = .ok (.return_, 1) := by decide +kernel
abbrev rmX0_addNumber : Room := { frames := 2, cells := 0, slots := 0, locals := 41 }
theorem mX0_addNumber {l : Launch} {G : Cx} {A : Nat → Prop} {a ca : Nat} {t : List Nat} {x : Int64} (hAa : A a) (hAca : A ca) : Met l yX0_addNumber (.code yX0_addNumber cX0_addNumber 7 (none : Option Jvm.ClassFile.FieldType) :: GW) rmX0_addNumber (PC G A [.ref a, .long x] (LA G a ca t)) (qV A (LA G a ca ((t ++ numL x).take 60))) 0 0 (A) := by
  refine mstart "Signtext$Line" (by decide +kernel) rfl (Nat.le_of_ble_eq_true rfl) ?_
  intro p e s m below meth c ls hx hb hr hts hown hml hlocks hname hC hA hW hl
  have hl : lv_has ls 7 [(0, .ref a), (1, .long x)] := hl
  have hK := hC.1
  have hS : va_S A s.heap s.heap [] := va_S.rf
  have t60 := hW.1
  refine lv_lload_n hx hb dX0_addNumber_0 rfl (lv_at hl 1 rfl) ?_
  refine lv_lconst (v := 0) hx hb dX0_addNumber_1 (by decide) ?_
  refine W.lcmp hx hb dX0_addNumber_2 ?_
  have rest : ∀ j : Nat, ∀ (ls : Array Slot) (b : Bool) (w : List Nat) (H : Heap) (L : List Loc), lv_has ls 7 [(4, .long (tnL j)), (3, .int (bI b)), (0, .ref a), (1, .long x)] → j ≤ 19 → va_S A s.heap H L → LA G a ca w H → (w ++ digs j x.toInt.natAbs b).take 60 = ((t ++ (if x < 0 then [45] else [])).take 60 ++ digs 19 x.toInt.natAbs false).take 60 → W p l e rmX0_addNumber s m [.ref a, .long x].toArray below meth c H L 0 0 (MQ below (qV A (LA G a ca ((t ++ numL x).take 60))) [.ref a, .long x].toArray s 0 0 (A)) (F0 m 19 ls []) := by
    refine dloop ?_
    clear hS hl hW
    intro j ih ls b w H L hl hj hS hW hF
    have hZ0 := hS.1
    cases j with
    | zero =>
      have hl : lv_has ls 7 [(4, .long 0), (3, .int (bI b)), (0, .ref a), (1, .long x)] := hl
      refine lv_lload hx hb dX0_addNumber_19 (lv_at hl 0 rfl) ?_
      refine lv_lconst (v := 0) hx hb dX0_addNumber_21 (by decide) ?_
      refine W.lcmp hx hb dX0_addNumber_22 ?_
      refine lv_if_le (tgt := 86) hx hb dX0_addNumber_23 (by decide) (fun _ => ?_) (fun q => absurd (by decide) q)
      exact q_v hx hb hr hlocks dX0_addNumber_86 hS (Nat.le_refl _) (Nat.le_refl _) (by have h8 : (w ++ digs 0 x.toInt.natAbs b).take 60 = w := (show (w ++ []).take 60 = w by rw [List.append_nil, List.take_of_length_le hW.1]); rw [h8] at hF; rw [numL, ← List.append_assoc, ← take_take60, ← hF]; exact hW)
    | succ k =>
      refine lv_lload hx hb dX0_addNumber_19 (lv_at hl 0 rfl) ?_
      refine lv_lconst (v := 0) hx hb dX0_addNumber_21 (by decide) ?_
      refine W.lcmp hx hb dX0_addNumber_22 ?_
      rw [tnL_cmp0 (by omega)]
      refine lv_if_le (tgt := 86) hx hb dX0_addNumber_23 (by decide) (fun q => absurd q (by decide)) (fun _ => ?_)
      refine lv_lload_n hx hb dX0_addNumber_26 rfl (lv_at hl 3 rfl) ?_
      refine lv_lload hx hb dX0_addNumber_27 (lv_at hl 0 rfl) ?_
      refine lv_ldiv hx hb dX0_addNumber_29 (tnL_ne (by omega)) ?_
      refine lv_ldc2 (v := 10) hx hb hown (hts _ tw_3_123) dX0_addNumber_30 ?_
      refine lv_lrem hx hb dX0_addNumber_33 (by decide) ?_
      refine lv_l2i hx hb dX0_addNumber_34 rfl ?_
      refine va_mabs hx hb (hml.trans hl.1.symm) hown (hts _ tw_3_124) (hts _ tw_3_125) (hts _ tw_1_19) (hts _ tw_3_126) (Nat.le_of_ble_eq_true rfl) (Nat.le_of_ble_eq_true rfl) (Nat.zero_le _) (Nat.zero_le _) dX0_addNumber_35 ?_
      refine lv_cv (dig_eq x (by omega)) ?_
      have d10 : x.toInt.natAbs / 10 ^ k % 10 < 10 := Nat.mod_lt _ (by decide)
      generalize hd9 : x.toInt.natAbs / 10 ^ k % 10 = d9 at d10 ⊢
      refine lv_istore (lv' := [(6, .int (nI d9)), (4, .long (tnL (k + 1))), (3, .int (bI b)), (0, .ref a), (1, .long x)]) hx hb dX0_addNumber_38 hl (by decide) rfl (fun ls hl => ?_)
      refine lv_iload_n hx hb dX0_addNumber_40 rfl (lv_at hl 2 rfl) ?_
      refine f_ne (tgt := 56) hx hb dX0_addNumber_41 (by decide) (fun c_1 => ?_) (fun c_1 => ?_)
      · refine lv_iconst (v := nI 1) hx hb dX0_addNumber_56 (by decide) ?_
        refine lv_goto (tgt := 61) hx hb dX0_addNumber_57 (by decide) ?_
        refine lv_istore_n (lv' := [(3, .int (bI true)), (6, .int (nI d9)), (4, .long (tnL (k + 1))), (0, .ref a), (1, .long x)]) hx hb dX0_addNumber_61 rfl hl (by decide) rfl (fun ls hl => ?_)
        refine lv_iload_n hx hb dX0_addNumber_62 rfl (lv_at hl 0 rfl) ?_
        refine f_eq (tgt := 75) hx hb dX0_addNumber_63 (by decide) (fun c_2 => ?_) (fun c_2 => ?_)
        · exact absurd c_2 (by decide)
        · refine lv_aload_n hx hb dX0_addNumber_66 rfl (lv_at hl 3 rfl) ?_
          refine lv_bipush (v := nI 48) hx hb dX0_addNumber_67 (by decide) ?_
          refine lv_iload hx hb dX0_addNumber_69 (lv_at hl 1 rfl) ?_
          refine lv_iadd hx hb dX0_addNumber_71 ?_
          refine lv_cv (nI_add 48 d9) ?_
          refine qV_V (A := A) (A1 := ow a ca H.size) (b := a) (As := [.int (nI (48 + d9))]) (rest := []) ⟨hx, hb, hml, hown, hts⟩ (mX0_addCode (A := ow a ca H.size) (ca := ca) (k0 := 48 + d9) (Or.inl rfl) (Or.inr (Or.inl rfl)) (by omega)) (cwV 1 hts (gV tw_1_133 tw_1_134 tw_1_135 tw_1_2 tw_1_136) rfl rfl rfl (by decide +kernel) ⟨Nat.le_of_ble_eq_true rfl, Nat.le_of_ble_eq_true rfl⟩) hC hS (ow_in hAa hAca hA hZ0) ow_n (hW.recv hK) hW rfl rfl hl.1 (Nat.le_of_ble_eq_true rfl) ⟨Nat.zero_le _, Nat.zero_le _⟩ dX0_addNumber_72 (fun H3 L3 hP3 hk3 hS => ?_)
          have hZ3 := hS.1
          refine lv_lload hx hb dX0_addNumber_75 (lv_at hl 2 rfl) ?_
          refine lv_ldc2 (v := 10) hx hb hown (hts _ tw_3_123) dX0_addNumber_77 ?_
          refine lv_ldiv hx hb dX0_addNumber_80 (by decide) ?_
          refine lv_cvl (tnL_div (by omega)) ?_
          refine lv_lstore (lv' := [(4, .long (tnL k)), (3, .int (bI true)), (6, .int (nI d9)), (0, .ref a), (1, .long x)]) hx hb dX0_addNumber_81 hl (by decide) rfl (fun ls hl => ?_)
          refine lv_goto (tgt := 19) hx hb dX0_addNumber_83 (by decide) ?_
          exact ih k (Nat.lt_succ_self k) ls true _ H3 L3 (lv_sub hl [0, 1, 3, 4] rfl) (by omega) hS hP3 (by rw [← hF, take_take60, List.append_assoc, digs_t hd9 (by rw [c_1]; rfl)])
      · refine lv_iload hx hb dX0_addNumber_44 (lv_at hl 0 rfl) ?_
        refine z_ne (tgt := 56) hx hb dX0_addNumber_46 (by decide) (by omega) (fun c_4 => ?_) (fun c_4 => ?_)
        · refine lv_iconst (v := nI 1) hx hb dX0_addNumber_56 (by decide) ?_
          refine lv_goto (tgt := 61) hx hb dX0_addNumber_57 (by decide) ?_
          refine lv_istore_n (lv' := [(3, .int (bI true)), (6, .int (nI d9)), (4, .long (tnL (k + 1))), (0, .ref a), (1, .long x)]) hx hb dX0_addNumber_61 rfl hl (by decide) rfl (fun ls hl => ?_)
          refine lv_iload_n hx hb dX0_addNumber_62 rfl (lv_at hl 0 rfl) ?_
          refine f_eq (tgt := 75) hx hb dX0_addNumber_63 (by decide) (fun c_5 => ?_) (fun c_5 => ?_)
          · exact absurd c_5 (by decide)
          · refine lv_aload_n hx hb dX0_addNumber_66 rfl (lv_at hl 3 rfl) ?_
            refine lv_bipush (v := nI 48) hx hb dX0_addNumber_67 (by decide) ?_
            refine lv_iload hx hb dX0_addNumber_69 (lv_at hl 1 rfl) ?_
            refine lv_iadd hx hb dX0_addNumber_71 ?_
            refine lv_cv (nI_add 48 d9) ?_
            refine qV_V (A := A) (A1 := ow a ca H.size) (b := a) (As := [.int (nI (48 + d9))]) (rest := []) ⟨hx, hb, hml, hown, hts⟩ (mX0_addCode (A := ow a ca H.size) (ca := ca) (k0 := 48 + d9) (Or.inl rfl) (Or.inr (Or.inl rfl)) (by omega)) (cwV 1 hts (gV tw_1_133 tw_1_134 tw_1_135 tw_1_2 tw_1_136) rfl rfl rfl (by decide +kernel) ⟨Nat.le_of_ble_eq_true rfl, Nat.le_of_ble_eq_true rfl⟩) hC hS (ow_in hAa hAca hA hZ0) ow_n (hW.recv hK) hW rfl rfl hl.1 (Nat.le_of_ble_eq_true rfl) ⟨Nat.zero_le _, Nat.zero_le _⟩ dX0_addNumber_72 (fun H6 L6 hP6 hk6 hS => ?_)
            have hZ6 := hS.1
            refine lv_lload hx hb dX0_addNumber_75 (lv_at hl 2 rfl) ?_
            refine lv_ldc2 (v := 10) hx hb hown (hts _ tw_3_123) dX0_addNumber_77 ?_
            refine lv_ldiv hx hb dX0_addNumber_80 (by decide) ?_
            refine lv_cvl (tnL_div (by omega)) ?_
            refine lv_lstore (lv' := [(4, .long (tnL k)), (3, .int (bI true)), (6, .int (nI d9)), (0, .ref a), (1, .long x)]) hx hb dX0_addNumber_81 hl (by decide) rfl (fun ls hl => ?_)
            refine lv_goto (tgt := 19) hx hb dX0_addNumber_83 (by decide) ?_
            exact ih k (Nat.lt_succ_self k) ls true _ H6 L6 (lv_sub hl [0, 1, 3, 4] rfl) (by omega) hS hP6 (by rw [← hF, take_take60, List.append_assoc, digs_t hd9 (by simp [c_4])])
        · refine lv_lload hx hb dX0_addNumber_49 (lv_at hl 1 rfl) ?_
          refine lv_lconst (v := 1) hx hb dX0_addNumber_51 (by decide) ?_
          refine W.lcmp hx hb dX0_addNumber_52 ?_
          rw [tnL_cmp1 (by omega)]
          refine lv_if_ne (tgt := 60) hx hb dX0_addNumber_53 (by decide) (fun c_7 => ?_) (fun c_7 => ?_)
          · refine lv_iconst (v := nI 0) hx hb dX0_addNumber_60 (by decide) ?_
            refine lv_istore_n (lv' := [(3, .int (bI false)), (6, .int (nI d9)), (4, .long (tnL (k + 1))), (0, .ref a), (1, .long x)]) hx hb dX0_addNumber_61 rfl hl (by decide) rfl (fun ls hl => ?_)
            refine lv_iload_n hx hb dX0_addNumber_62 rfl (lv_at hl 0 rfl) ?_
            refine f_eq (tgt := 75) hx hb dX0_addNumber_63 (by decide) (fun c_8 => ?_) (fun c_8 => ?_)
            · refine lv_lload hx hb dX0_addNumber_75 (lv_at hl 2 rfl) ?_
              refine lv_ldc2 (v := 10) hx hb hown (hts _ tw_3_123) dX0_addNumber_77 ?_
              refine lv_ldiv hx hb dX0_addNumber_80 (by decide) ?_
              refine lv_cvl (tnL_div (by omega)) ?_
              refine lv_lstore (lv' := [(4, .long (tnL k)), (3, .int (bI false)), (6, .int (nI d9)), (0, .ref a), (1, .long x)]) hx hb dX0_addNumber_81 hl (by decide) rfl (fun ls hl => ?_)
              refine lv_goto (tgt := 19) hx hb dX0_addNumber_83 (by decide) ?_
              exact ih k (Nat.lt_succ_self k) ls false _ H L (lv_sub hl [0, 1, 3, 4] rfl) (by omega) hS hW (by rw [← hF, digs_f hd9 (by have k0 : k ≠ 0 := fun q => c_7 (if_pos q); rw [c_1, c_4]; simp [k0])])
            · exact absurd c_8 (by decide)
          · refine lv_iconst (v := nI 1) hx hb dX0_addNumber_56 (by decide) ?_
            refine lv_goto (tgt := 61) hx hb dX0_addNumber_57 (by decide) ?_
            refine lv_istore_n (lv' := [(3, .int (bI true)), (6, .int (nI d9)), (4, .long (tnL (k + 1))), (0, .ref a), (1, .long x)]) hx hb dX0_addNumber_61 rfl hl (by decide) rfl (fun ls hl => ?_)
            refine lv_iload_n hx hb dX0_addNumber_62 rfl (lv_at hl 0 rfl) ?_
            refine f_eq (tgt := 75) hx hb dX0_addNumber_63 (by decide) (fun c_9 => ?_) (fun c_9 => ?_)
            · exact absurd c_9 (by decide)
            · refine lv_aload_n hx hb dX0_addNumber_66 rfl (lv_at hl 3 rfl) ?_
              refine lv_bipush (v := nI 48) hx hb dX0_addNumber_67 (by decide) ?_
              refine lv_iload hx hb dX0_addNumber_69 (lv_at hl 1 rfl) ?_
              refine lv_iadd hx hb dX0_addNumber_71 ?_
              refine lv_cv (nI_add 48 d9) ?_
              refine qV_V (A := A) (A1 := ow a ca H.size) (b := a) (As := [.int (nI (48 + d9))]) (rest := []) ⟨hx, hb, hml, hown, hts⟩ (mX0_addCode (A := ow a ca H.size) (ca := ca) (k0 := 48 + d9) (Or.inl rfl) (Or.inr (Or.inl rfl)) (by omega)) (cwV 1 hts (gV tw_1_133 tw_1_134 tw_1_135 tw_1_2 tw_1_136) rfl rfl rfl (by decide +kernel) ⟨Nat.le_of_ble_eq_true rfl, Nat.le_of_ble_eq_true rfl⟩) hC hS (ow_in hAa hAca hA hZ0) ow_n (hW.recv hK) hW rfl rfl hl.1 (Nat.le_of_ble_eq_true rfl) ⟨Nat.zero_le _, Nat.zero_le _⟩ dX0_addNumber_72 (fun H10 L10 hP10 hk10 hS => ?_)
              have hZ10 := hS.1
              refine lv_lload hx hb dX0_addNumber_75 (lv_at hl 2 rfl) ?_
              refine lv_ldc2 (v := 10) hx hb hown (hts _ tw_3_123) dX0_addNumber_77 ?_
              refine lv_ldiv hx hb dX0_addNumber_80 (by decide) ?_
              refine lv_cvl (tnL_div (by omega)) ?_
              refine lv_lstore (lv' := [(4, .long (tnL k)), (3, .int (bI true)), (6, .int (nI d9)), (0, .ref a), (1, .long x)]) hx hb dX0_addNumber_81 hl (by decide) rfl (fun ls hl => ?_)
              refine lv_goto (tgt := 19) hx hb dX0_addNumber_83 (by decide) ?_
              exact ih k (Nat.lt_succ_self k) ls true _ H10 L10 (lv_sub hl [0, 1, 3, 4] rfl) (by omega) hS hP10 (by rw [← hF, take_take60, List.append_assoc, digs_t hd9 (by have k0 : k = 0 := Decidable.byContradiction (fun q => absurd ((if_neg q).symm.trans c_7) (by decide)); rw [k0]; simp)])
  refine lv_if_ge (tgt := 12) hx hb dX0_addNumber_3 (by decide) (fun c_11 => ?_) (fun c_11 => ?_)
  · have c9 : ¬ x < 0 := (lt0_cmp x).mp c_11
    refine lv_iconst (v := nI 0) hx hb dX0_addNumber_12 (by decide) ?_
    refine lv_istore_n (lv' := [(3, .int (nI 0)), (0, .ref a), (1, .long x)]) hx hb dX0_addNumber_13 rfl hl (by decide) rfl (fun ls hl => ?_)
    refine lv_ldc2 (v := 1000000000000000000) hx hb hown (hts _ tw_3_122) dX0_addNumber_14 ?_
    refine lv_lstore (lv' := [(4, .long 1000000000000000000), (3, .int (nI 0)), (0, .ref a), (1, .long x)]) hx hb dX0_addNumber_17 hl (by decide) rfl (fun ls hl => ?_)
    exact rest 19 ls false (t) s.heap [] hl (Nat.le_refl _) hS hW (by rw [if_neg c9, List.append_nil, List.take_of_length_le t60])
  · have c9 : x < 0 := Decidable.byContradiction (fun q => c_11 ((lt0_cmp x).mpr q))
    refine lv_aload_n hx hb dX0_addNumber_6 rfl (lv_at hl 0 rfl) ?_
    refine lv_bipush (v := nI 45) hx hb dX0_addNumber_7 (by decide) ?_
    refine qV_V (A := A) (A1 := ow a ca s.heap.size) (b := a) (As := [.int (nI 45)]) (rest := []) ⟨hx, hb, hml, hown, hts⟩ (mX0_addCode (A := ow a ca s.heap.size) (ca := ca) (k0 := 45) (Or.inl rfl) (Or.inr (Or.inl rfl)) (by decide)) (cwV 1 hts (gV tw_1_133 tw_1_134 tw_1_135 tw_1_2 tw_1_136) rfl rfl rfl (by decide +kernel) ⟨Nat.le_of_ble_eq_true rfl, Nat.le_of_ble_eq_true rfl⟩) hC hS (ow_in hAa hAca hA (Nat.le_refl _)) ow_n (hW.recv hK) hW rfl rfl hl.1 (Nat.le_of_ble_eq_true rfl) ⟨Nat.zero_le _, Nat.zero_le _⟩ dX0_addNumber_9 (fun H12 L12 hP12 hk12 hS => ?_)
    have hZ12 := hS.1
    refine lv_iconst (v := nI 0) hx hb dX0_addNumber_12 (by decide) ?_
    refine lv_istore_n (lv' := [(3, .int (nI 0)), (0, .ref a), (1, .long x)]) hx hb dX0_addNumber_13 rfl hl (by decide) rfl (fun ls hl => ?_)
    refine lv_ldc2 (v := 1000000000000000000) hx hb hown (hts _ tw_3_122) dX0_addNumber_14 ?_
    refine lv_lstore (lv' := [(4, .long 1000000000000000000), (3, .int (nI 0)), (0, .ref a), (1, .long x)]) hx hb dX0_addNumber_17 hl (by decide) rfl (fun ls hl => ?_)
    exact rest 19 ls false ((t ++ [45]).take 60) H12 L12 hl (Nat.le_refl _) hS hP12 (by rw [if_pos c9])
end
/-! 17.pieces -/
section
/-! Pieces -/
theorem sel_X2_isSoundAlone : Cond.selects "Signtext" yX2_isSoundAlone yX2_isSoundAlone ∈ GW := gw_of (List.mem_append_left _ (List.mem_of_getElem? (i := 0) rfl)) rfl
theorem sel_X2_isSameTakenAgain : Cond.selects "Signtext" yX2_isSameTakenAgain yX2_isSameTakenAgain ∈ GW := gw_of (List.mem_append_left _ (List.mem_of_getElem? (i := 1) rfl)) rfl
theorem sel_X2_isSameInTwoParts : Cond.selects "Signtext" yX2_isSameInTwoParts yX2_isSameInTwoParts ∈ GW := gw_of (List.mem_append_left _ (List.mem_of_getElem? (i := 2) rfl)) rfl
theorem sel_X2_isSameTrimmedAgain : Cond.selects "Signtext" yX2_isSameTrimmedAgain yX2_isSameTrimmedAgain ∈ GW := gw_of (List.mem_append_left _ (List.mem_of_getElem? (i := 3) rfl)) rfl
theorem sel_X2_partInto : Cond.selects "Signtext" yX2_partInto yX2_partInto ∈ GW := gw_of (List.mem_append_left _ (List.mem_of_getElem? (i := 4) rfl)) rfl
theorem sel_X2_isSameOfPieces : Cond.selects "Signtext" yX2_isSameOfPieces yX2_isSameOfPieces ∈ GW := gw_of (List.mem_append_left _ (List.mem_of_getElem? (i := 5) rfl)) rfl
theorem sel_X1_addEnd : Cond.selects "Signtext$Pieces" yX1_addEnd yX1_addEnd ∈ GW := gw_of (List.mem_append_left _ (List.mem_of_getElem? (i := 6) rfl)) rfl
theorem sel_X2_signsOfAll : Cond.selects "Signtext" yX2_signsOfAll yX2_signsOfAll ∈ GW := gw_of (List.mem_append_left _ (List.mem_of_getElem? (i := 7) rfl)) rfl
theorem sel_X2_emptyOnes : Cond.selects "Signtext" yX2_emptyOnes yX2_emptyOnes ∈ GW := gw_of (List.mem_append_left _ (List.mem_of_getElem? (i := 8) rfl)) rfl
theorem sel_X2_textOf : Cond.selects "Signtext" yX2_textOf yX2_textOf ∈ GW := gw_of (List.mem_append_left _ (List.mem_of_getElem? (i := 10) rfl)) rfl
theorem sel_X2_addSignOrNone : Cond.selects "Signtext" yX2_addSignOrNone yX2_addSignOrNone ∈ GW := gw_of (List.mem_append_left _ (List.mem_of_getElem? (i := 11) rfl)) rfl
theorem sel_X2_joinInto : Cond.selects "Signtext" yX2_joinInto yX2_joinInto ∈ GW := gw_of (List.mem_append_left _ (List.mem_of_getElem? (i := 12) rfl)) rfl
theorem sel_X2_addMade : Cond.selects "Signtext" yX2_addMade yX2_addMade ∈ GW := gw_of (List.mem_append_left _ (List.mem_of_getElem? (i := 13) rfl)) rfl
theorem sel_X2_knownOf : Cond.selects "Signtext" yX2_knownOf yX2_knownOf ∈ GW := gw_of (List.mem_append_left _ (List.mem_of_getElem? (i := 14) rfl)) rfl
theorem sel_X2_needPiece : Cond.selects "Signtext" yX2_needPiece yX2_needPiece ∈ GW := gw_of (List.mem_append_left _ (List.mem_of_getElem? (i := 15) rfl)) rfl
theorem sel_X2_pieceInto : Cond.selects "Signtext" yX2_pieceInto yX2_pieceInto ∈ GW := gw_of (List.mem_append_left _ (List.mem_of_getElem? (i := 16) rfl)) rfl
theorem sel_X4_start : Cond.selects "SigntextModel" yX4_start yX4_start ∈ GW := gw_of (List.mem_append_left _ (List.mem_of_getElem? (i := 17) rfl)) rfl
theorem sel_X4_refuse : Cond.selects "SigntextModel" yX4_refuse yX4_refuse ∈ GW := gw_of (List.mem_append_left _ (List.mem_of_getElem? (i := 18) rfl)) rfl
theorem sel_X4_become : Cond.selects "SigntextModel" yX4_become yX4_become ∈ GW := gw_of (List.mem_append_left _ (List.mem_of_getElem? (i := 19) rfl)) rfl
theorem sel_X4_beside : Cond.selects "SigntextModel" yX4_beside yX4_beside ∈ GW := gw_of (List.mem_append_left _ (List.mem_of_getElem? (i := 20) rfl)) rfl
theorem sel_X4_isNoPlace : Cond.selects "SigntextModel" yX4_isNoPlace yX4_isNoPlace ∈ GW := gw_of (List.mem_append_left _ (List.mem_of_getElem? (i := 21) rfl)) rfl
theorem sel_Jx4a65c_add_72be8 : Cond.selects "java/util/ArrayList" yJx4a65c_add_72be8 yJx4a65c_add_72be8 ∈ GW := gw_of (List.mem_append_left _ (List.mem_of_getElem? (i := 22) rfl)) rfl
theorem sel_Jx4a65c_grow_d5877 : Cond.selects "java/util/ArrayList" yJx4a65c_grow_d5877 yJx4a65c_grow_d5877 ∈ GW := gw_of (List.mem_append_left _ (List.mem_of_getElem? (i := 23) rfl)) rfl
theorem sel_Jx4a65c_grow_92f84 : Cond.selects "java/util/ArrayList" yJx4a65c_grow_92f84 yJx4a65c_grow_92f84 ∈ GW := gw_of (List.mem_append_left _ (List.mem_of_getElem? (i := 24) rfl)) rfl
theorem sel_Jx4a65c_fastRemove_b59b0 : Cond.selects "java/util/ArrayList" yJx4a65c_fastRemove_b59b0 yJx4a65c_fastRemove_b59b0 ∈ GW := gw_of (List.mem_append_left _ (List.mem_of_getElem? (i := 25) rfl)) rfl
theorem sel_X4_isNoPiece : Cond.selects "SigntextModel" yX4_isNoPiece yX4_isNoPiece ∈ GW := gw_of (List.mem_append_left _ (List.mem_of_getElem? (i := 26) rfl)) rfl
theorem sel_X4_areNone : Cond.selects "SigntextModel" yX4_areNone yX4_areNone ∈ GW := gw_of (List.mem_append_left _ (List.mem_of_getElem? (i := 27) rfl)) rfl
theorem sel_X4_houseTold : Cond.selects "SigntextModel" yX4_houseTold yX4_houseTold ∈ GW := gw_of (List.mem_append_left _ (List.mem_of_getElem? (i := 28) rfl)) rfl
theorem sel_X4_isTrue : Cond.selects "SigntextModel" yX4_isTrue yX4_isTrue ∈ GW := gw_of (List.mem_append_left _ (List.mem_of_getElem? (i := 29) rfl)) rfl
/-- where a piece begins -/
def bgE (es : List Nat) : Nat → Nat
  | 0 => 0
  | k + 1 => es.getD k 0 + 1
def okE (t es : List Nat) : Prop := ∀ k : Nat, k < es.length → bgE es k ≤ es.getD k 0 ∧ es.getD k 0 ≤ t.length
theorem getD_take {E : List Nat} {n k : Nat} (h : k < n) : (E.take n).getD k 0 = E.getD k 0 := by
  rw [List.getD_eq_getElem?_getD, List.getElem?_take, if_pos h, ← List.getD_eq_getElem?_getD]
theorem bgE_take {E : List Nat} {n k : Nat} (h : k < n) : bgE (E.take n) k = bgE E k := by
  cases k with
  | zero => rfl
  | succ k => show (E.take n).getD k 0 + 1 = E.getD k 0 + 1; rw [getD_take (by omega)]
theorem okE_take {t E : List Nat} (h : okE t E) (n : Nat) : okE t (E.take n) := fun k hk => by
  rw [List.length_take] at hk
  rw [bgE_take (by omega), getD_take (by omega)]
  exact h k (by omega)
/-- the ends of the pieces of a text that begins at i -/
def comE : List Nat → Nat → List Nat
  | [], i => [i]
  | c :: t, i => if c = 44 then i :: comE t (i + 1) else comE t (i + 1)
theorem comE_len (t : List Nat) (i : Nat) : 1 ≤ (comE t i).length ∧ (comE t i).length ≤ t.length + 1 := by
  induction t generalizing i with
  | nil => exact ⟨Nat.le_refl _, Nat.le_refl _⟩
  | cons c t ih =>
    have := ih (i + 1)
    unfold comE
    split <;> simp only [List.length_cons] <;> omega
theorem comE_ne {u : List Nat} {j : Nat} (h : j < u.length) (hc : u.getD j 0 ≠ 44) : comE (u.drop j) j = comE (u.drop (j + 1)) (j + 1) := by
  rw [List.drop_eq_getElem_cons h]
  rw [List.getD_eq_getElem?_getD, List.getElem?_eq_getElem h] at hc
  show (if u[j] = 44 then _ else _) = _
  exact if_neg hc
theorem comE_eq {u : List Nat} {j : Nat} (h : j < u.length) (hc : u.getD j 0 = 44) : comE (u.drop j) j = j :: comE (u.drop (j + 1)) (j + 1) := by
  rw [List.drop_eq_getElem_cons h]
  rw [List.getD_eq_getElem?_getD, List.getElem?_eq_getElem h] at hc
  show (if u[j] = 44 then _ else _) = _
  exact if_pos hc
theorem comE_room {u e9 : List Nat} {j : Nat} (h : e9 ++ comE (u.drop j) j = comE u 0) : e9.length ≤ u.length := by
  have h1 := congrArg List.length h
  rw [List.length_append] at h1
  have h2 := comE_len (u.drop j) j
  have h3 := comE_len u 0
  omega
theorem comE_bd (t : List Nat) (i : Nat) : ∀ k : Nat, k < (comE t i).length → i + k ≤ (comE t i).getD k 0 ∧ (comE t i).getD k 0 ≤ i + t.length ∧ bgE (comE t i) k ≤ (comE t i).getD k 0 := by
  induction t generalizing i with
  | nil =>
    intro k hk
    have : k = 0 := by have : k < 1 := hk; omega
    subst this
    exact ⟨Nat.le_refl _, Nat.le_refl _, Nat.zero_le _⟩
  | cons c t ih =>
    intro k hk
    have ih := ih (i + 1)
    have hl := comE_len t (i + 1)
    unfold comE at hk ⊢
    split at hk
    · next h =>
      rw [if_pos h]
      cases k with
      | zero => exact ⟨Nat.le_refl _, by show i ≤ _; omega, Nat.zero_le _⟩
      | succ k =>
        have h1 := ih k (by simpa using hk)
        rw [List.getD_cons_succ]
        refine ⟨by omega, by simp only [List.length_cons]; omega, ?_⟩
        cases k with
        | zero => show (i :: comE t (i + 1)).getD 0 0 + 1 ≤ _; rw [List.getD_cons_zero]; omega
        | succ k => show (i :: comE t (i + 1)).getD (k + 1) 0 + 1 ≤ _; rw [List.getD_cons_succ]; exact h1.2.2
    · next h =>
      rw [if_neg h]
      have h1 := ih k hk
      exact ⟨by omega, by simp only [List.length_cons]; omega, h1.2.2⟩
theorem comE_ok (u : List Nat) : okE u (comE u 0) := fun k hk => by
  have := comE_bd u 0 k hk
  exact ⟨this.2.2, by omega⟩
/-- what is left when the empty ones at the end have gone -/
def isCut (u es : List Nat) : Prop := ∃ n : Nat, n ≤ (comE u 0).length ∧ es = (comE u 0).take n ∧ (((comE u 0).length ≤ 1 ∧ n = (comE u 0).length) ∨ (1 < (comE u 0).length ∧ (∀ k : Nat, n ≤ k → k < (comE u 0).length → bgE (comE u 0) k = (comE u 0).getD k 0) ∧ (0 < n → bgE (comE u 0) (n - 1) ≠ (comE u 0).getD (n - 1) 0)))
/-- the object and its ends -/
def PB (G : Cx) (a la ea : Nat) (es : List Nat) (H : Heap) : Prop := es.length ≤ 61 ∧ va_at G.1 vwCl (a, .inr (5, [.ref la, .ref ea, .int (nI es.length)])) H ∧ ∃ f : Nat → Int32, va_at G.1 vwCl (ea, .inl (G.2.1 0, 61, .inl f)) H ∧ ∀ j : Nat, j < es.length → f j = nI (es.getD j 0)
def PA (G : Cx) (a la lca ea : Nat) (t es : List Nat) (H : Heap) : Prop := PB G a la ea es H ∧ LA G la lca t H ∧ okE t es ∧ a ≠ la ∧ a ≠ lca ∧ a ≠ ea ∧ ea ≠ la ∧ ea ≠ lca
theorem PB.recv {G : Cx} {a la ea : Nat} {es : List Nat} {H : Heap} {s : State} (h : PB G a la ea es H) (hK : va_K G.1 vwCl (tyL G.2.1) s) : ∃ cell : Cell, H[a]? = some cell ∧ cell.vm.isStatics = false ∧ s.vm.findClass "Signtext$Pieces" = some cell.cls := at_recv hK h.2.1 (q := (RX1, TX1, 3)) rfl
theorem PB.lt {G : Cx} {a la ea : Nat} {es : List Nat} {H : Heap} (h : PB G a la ea es H) : a < H.size ∧ ea < H.size := ⟨h.2.1.lt, by obtain ⟨-, -, f, q, -⟩ := h; exact q.lt⟩
theorem PB.kp {G : Cx} {a la ea : Nat} {es : List Nat} {X : Nat → Prop} {H H1 : Heap} (h : PB G a la ea es H) (hk : kp X H H1) (h1 : ¬ X a) (h2 : ¬ X ea) : PB G a la ea es H1 := by
  obtain ⟨q1, q2, f, q3, q4⟩ := h
  exact ⟨q1, at_kp q2 hk h1, f, at_kp q3 hk h2, q4⟩
theorem PA.kp {G : Cx} {a la lca ea : Nat} {t es : List Nat} {X : Nat → Prop} {H H1 : Heap} (h : PA G a la lca ea t es H) (hk : kp X H H1) (h1 : ¬ X a) (h2 : ¬ X ea) (h3 : ¬ X la) (h4 : ¬ X lca) : PA G a la lca ea t es H1 := ⟨h.1.kp hk h1 h2, h.2.1.kp hk h3 h4, h.2.2⟩
theorem PB.push {G : Cx} {a la ea j : Nat} {es : List Nat} {f : Nat → Int32} {H : Heap} (h : es.length ≤ 60) (hO : va_at G.1 vwCl (a, .inr (5, [.ref la, .ref ea, .int (nI (es.length + 1))])) H) (hE : va_at G.1 vwCl (ea, .inl (G.2.1 0, 61, .inl (upd f es.length (nI j)))) H) (hf : ∀ j : Nat, j < es.length → f j = nI (es.getD j 0)) : PB G a la ea (es ++ [j]) H := by
  have hl : (es ++ [j]).length = es.length + 1 := by rw [List.length_append]; rfl
  refine ⟨by rw [hl]; omega, by rw [hl]; exact hO, _, hE, fun k hk => ?_⟩
  rw [hl] at hk
  by_cases q : k = es.length
  · subst q; rw [pk_us, getD_last]
  · rw [pk_un q, hf k (by omega), getD_app1 (by omega)]
theorem dX1_size_0 : decode cX1_size 0 = .ok (.aload_n 0, 1) := by decide +kernel
theorem dX1_size_1 : decode cX1_size 1 = .ok (.getfield 22, 3) := by decide +kernel
theorem dX1_size_4 : decode cX1_size 4 = .ok (.ireturn, 1) := by decide +kernel
theorem dX1_line_0 : decode cX1_line 0 = .ok (.aload_n 0, 1) := by decide +kernel
theorem dX1_line_1 : decode cX1_line 1 = .ok (.getfield 12, 3) := by decide +kernel
theorem dX1_line_4 : decode cX1_line 4 = .ok (.areturn, 1) := by decide +kernel
theorem dX1_endOf_0 : decode cX1_endOf 0 = .ok (.iload_n 1, 1) := by decide +kernel
theorem dX1_endOf_1 : decode cX1_endOf 1 = .ok (.ifCond .lt 20, 3) := by decide +kernel
theorem dX1_endOf_4 : decode cX1_endOf 4 = .ok (.iload_n 1, 1) := by decide +kernel
theorem dX1_endOf_5 : decode cX1_endOf 5 = .ok (.aload_n 0, 1) := by decide +kernel
theorem dX1_endOf_6 : decode cX1_endOf 6 = .ok (.getfield 22, 3) := by decide +kernel
theorem dX1_endOf_9 : decode cX1_endOf 9 = .ok (.if_icmp .ge 12, 3) := by decide +kernel
theorem dX1_endOf_12 : decode cX1_endOf 12 = .ok (.aload_n 0, 1) := by decide +kernel
theorem dX1_endOf_13 : decode cX1_endOf 13 = .ok (.getfield 18, 3) := by decide +kernel
theorem dX1_endOf_16 : decode cX1_endOf 16 = .ok (.iload_n 1, 1) := by decide +kernel
theorem dX1_endOf_17 : decode cX1_endOf 17 = .ok (.iaload, 1) := by decide +kernel
theorem dX1_endOf_18 : decode cX1_endOf 18 = .ok (.goto 4, 3) := by decide +kernel
theorem dX1_endOf_21 : decode cX1_endOf 21 = .ok (.iconst 0, 1) := by decide +kernel
theorem dX1_endOf_22 : decode cX1_endOf 22 = .ok (.ireturn, 1) := by decide +kernel
theorem dX1_beginOf_0 : decode cX1_beginOf 0 = .ok (.iload_n 1, 1) := by decide +kernel
theorem dX1_beginOf_1 : decode cX1_beginOf 1 = .ok (.ifCond .le 15, 3) := by decide +kernel
theorem dX1_beginOf_4 : decode cX1_beginOf 4 = .ok (.aload_n 0, 1) := by decide +kernel
theorem dX1_beginOf_5 : decode cX1_beginOf 5 = .ok (.iload_n 1, 1) := by decide +kernel
theorem dX1_beginOf_6 : decode cX1_beginOf 6 = .ok (.iconst 1, 1) := by decide +kernel
theorem dX1_beginOf_7 : decode cX1_beginOf 7 = .ok (.isub, 1) := by decide +kernel
theorem dX1_beginOf_8 : decode cX1_beginOf 8 = .ok (.invokevirtual 26, 3) := by decide +kernel
theorem dX1_beginOf_11 : decode cX1_beginOf 11 = .ok (.iconst 1, 1) := by decide +kernel
theorem dX1_beginOf_12 : decode cX1_beginOf 12 = .ok (.iadd, 1) := by decide +kernel
theorem dX1_beginOf_13 : decode cX1_beginOf 13 = .ok (.goto 4, 3) := by decide +kernel
theorem dX1_beginOf_16 : decode cX1_beginOf 16 = .ok (.iconst 0, 1) := by decide +kernel
theorem dX1_beginOf_17 : decode cX1_beginOf 17 = .ok (.ireturn, 1) := by decide +kernel
theorem dX1_cutOf_0 : decode cX1_cutOf 0 = .ok (.aload_n 0, 1) := by decide +kernel
theorem dX1_cutOf_1 : decode cX1_cutOf 1 = .ok (.getfield 12, 3) := by decide +kernel
theorem dX1_cutOf_4 : decode cX1_cutOf 4 = .ok (.aload_n 1, 1) := by decide +kernel
theorem dX1_cutOf_5 : decode cX1_cutOf 5 = .ok (.invokevirtual 30, 3) := by decide +kernel
theorem dX1_cutOf_8 : decode cX1_cutOf 8 = .ok (.aload_n 0, 1) := by decide +kernel
theorem dX1_cutOf_9 : decode cX1_cutOf 9 = .ok (.iconst 0, 1) := by decide +kernel
theorem dX1_cutOf_10 : decode cX1_cutOf 10 = .ok (.putfield 22, 3) := by decide +kernel
theorem dX1_cutOf_13 : decode cX1_cutOf 13 = .ok (.iconst 0, 1) := by decide +kernel
theorem dX1_cutOf_14 : decode cX1_cutOf 14 = .ok (.istore_n 2, 1) := by decide +kernel
theorem dX1_cutOf_15 : decode cX1_cutOf 15 = .ok (.iload_n 2, 1) := by decide +kernel
theorem dX1_cutOf_16 : decode cX1_cutOf 16 = .ok (.aload_n 0, 1) := by decide +kernel
theorem dX1_cutOf_17 : decode cX1_cutOf 17 = .ok (.getfield 12, 3) := by decide +kernel
theorem dX1_cutOf_20 : decode cX1_cutOf 20 = .ok (.invokevirtual 34, 3) := by decide +kernel
theorem dX1_cutOf_23 : decode cX1_cutOf 23 = .ok (.if_icmp .ge 27, 3) := by decide +kernel
theorem dX1_cutOf_26 : decode cX1_cutOf 26 = .ok (.aload_n 0, 1) := by decide +kernel
theorem dX1_cutOf_27 : decode cX1_cutOf 27 = .ok (.getfield 12, 3) := by decide +kernel
theorem dX1_cutOf_30 : decode cX1_cutOf 30 = .ok (.iload_n 2, 1) := by decide +kernel
theorem dX1_cutOf_31 : decode cX1_cutOf 31 = .ok (.invokevirtual 38, 3) := by decide +kernel
theorem dX1_cutOf_34 : decode cX1_cutOf 34 = .ok (.bipush 44, 2) := by decide +kernel
theorem dX1_cutOf_36 : decode cX1_cutOf 36 = .ok (.if_icmp .ne 8, 3) := by decide +kernel
theorem dX1_cutOf_39 : decode cX1_cutOf 39 = .ok (.aload_n 0, 1) := by decide +kernel
theorem dX1_cutOf_40 : decode cX1_cutOf 40 = .ok (.iload_n 2, 1) := by decide +kernel
theorem dX1_cutOf_41 : decode cX1_cutOf 41 = .ok (.invokevirtual 41, 3) := by decide +kernel
theorem dX1_cutOf_44 : decode cX1_cutOf 44 = .ok (.iinc 2 1, 3) := by decide +kernel
theorem dX1_cutOf_47 : decode cX1_cutOf 47 = .ok (.goto (-32), 3) := by decide +kernel
theorem dX1_cutOf_50 : decode cX1_cutOf 50 = .ok (.aload_n 0, 1) := by decide +kernel
theorem dX1_cutOf_51 : decode cX1_cutOf 51 = .ok (.aload_n 0, 1) := by decide +kernel
theorem dX1_cutOf_52 : decode cX1_cutOf 52 = .ok (.getfield 12, 3) := by decide +kernel
theorem dX1_cutOf_55 : decode cX1_cutOf 55 = .ok (.invokevirtual 34, 3) := by decide +kernel
theorem dX1_cutOf_58 : decode cX1_cutOf 58 = .ok (.invokevirtual 41, 3) := by decide +kernel
theorem dX1_cutOf_61 : decode cX1_cutOf 61 = .ok (.aload_n 0, 1) := by decide +kernel
theorem dX1_cutOf_62 : decode cX1_cutOf 62 = .ok (.getfield 22, 3) := by decide +kernel
theorem dX1_cutOf_65 : decode cX1_cutOf 65 = .ok (.iconst 1, 1) := by decide +kernel
theorem dX1_cutOf_66 : decode cX1_cutOf 66 = .ok (.if_icmp .le 7, 3) := by decide +kernel
theorem dX1_cutOf_69 : decode cX1_cutOf 69 = .ok (.iconst 1, 1) := by decide +kernel
theorem dX1_cutOf_70 : decode cX1_cutOf 70 = .ok (.goto 4, 3) := by decide +kernel
theorem dX1_cutOf_73 : decode cX1_cutOf 73 = .ok (.iconst 0, 1) := by decide +kernel
theorem dX1_cutOf_74 : decode cX1_cutOf 74 = .ok (.istore_n 2, 1) := by decide +kernel
theorem dX1_cutOf_75 : decode cX1_cutOf 75 = .ok (.iload_n 2, 1) := by decide +kernel
theorem dX1_cutOf_76 : decode cX1_cutOf 76 = .ok (.ifCond .eq 46, 3) := by decide +kernel
theorem dX1_cutOf_79 : decode cX1_cutOf 79 = .ok (.aload_n 0, 1) := by decide +kernel
theorem dX1_cutOf_80 : decode cX1_cutOf 80 = .ok (.getfield 22, 3) := by decide +kernel
theorem dX1_cutOf_83 : decode cX1_cutOf 83 = .ok (.ifCond .le 39, 3) := by decide +kernel
theorem dX1_cutOf_86 : decode cX1_cutOf 86 = .ok (.aload_n 0, 1) := by decide +kernel
theorem dX1_cutOf_87 : decode cX1_cutOf 87 = .ok (.aload_n 0, 1) := by decide +kernel
theorem dX1_cutOf_88 : decode cX1_cutOf 88 = .ok (.getfield 22, 3) := by decide +kernel
theorem dX1_cutOf_91 : decode cX1_cutOf 91 = .ok (.iconst 1, 1) := by decide +kernel
theorem dX1_cutOf_92 : decode cX1_cutOf 92 = .ok (.isub, 1) := by decide +kernel
theorem dX1_cutOf_93 : decode cX1_cutOf 93 = .ok (.invokevirtual 45, 3) := by decide +kernel
theorem dX1_cutOf_96 : decode cX1_cutOf 96 = .ok (.aload_n 0, 1) := by decide +kernel
theorem dX1_cutOf_97 : decode cX1_cutOf 97 = .ok (.aload_n 0, 1) := by decide +kernel
theorem dX1_cutOf_98 : decode cX1_cutOf 98 = .ok (.getfield 22, 3) := by decide +kernel
theorem dX1_cutOf_101 : decode cX1_cutOf 101 = .ok (.iconst 1, 1) := by decide +kernel
theorem dX1_cutOf_102 : decode cX1_cutOf 102 = .ok (.isub, 1) := by decide +kernel
theorem dX1_cutOf_103 : decode cX1_cutOf 103 = .ok (.invokevirtual 26, 3) := by decide +kernel
theorem dX1_cutOf_106 : decode cX1_cutOf 106 = .ok (.if_icmp .ne 16, 3) := by decide +kernel
theorem dX1_cutOf_109 : decode cX1_cutOf 109 = .ok (.aload_n 0, 1) := by decide +kernel
theorem dX1_cutOf_110 : decode cX1_cutOf 110 = .ok (.dup, 1) := by decide +kernel
theorem dX1_cutOf_111 : decode cX1_cutOf 111 = .ok (.getfield 22, 3) := by decide +kernel
theorem dX1_cutOf_114 : decode cX1_cutOf 114 = .ok (.iconst 1, 1) := by decide +kernel
theorem dX1_cutOf_115 : decode cX1_cutOf 115 = .ok (.isub, 1) := by decide +kernel
theorem dX1_cutOf_116 : decode cX1_cutOf 116 = .ok (.putfield 22, 3) := by decide +kernel
theorem dX1_cutOf_119 : decode cX1_cutOf 119 = .ok (.goto (-44), 3) := by decide +kernel
theorem dX1_cutOf_122 : decode cX1_cutOf 122 = .ok (.return_, 1) := by decide +kernel
theorem dX1_addEnd_0 : decode cX1_addEnd 0 = .ok (.aload_n 0, 1) := by decide +kernel
theorem dX1_addEnd_1 : decode cX1_addEnd 1 = .ok (.getfield 22, 3) := by decide +kernel
theorem dX1_addEnd_4 : decode cX1_addEnd 4 = .ok (.bipush 60, 2) := by decide +kernel
theorem dX1_addEnd_6 : decode cX1_addEnd 6 = .ok (.if_icmp .gt 23, 3) := by decide +kernel
theorem dX1_addEnd_9 : decode cX1_addEnd 9 = .ok (.aload_n 0, 1) := by decide +kernel
theorem dX1_addEnd_10 : decode cX1_addEnd 10 = .ok (.getfield 18, 3) := by decide +kernel
theorem dX1_addEnd_13 : decode cX1_addEnd 13 = .ok (.aload_n 0, 1) := by decide +kernel
theorem dX1_addEnd_14 : decode cX1_addEnd 14 = .ok (.getfield 22, 3) := by decide +kernel
theorem dX1_addEnd_17 : decode cX1_addEnd 17 = .ok (.iload_n 1, 1) := by decide +kernel
theorem dX1_addEnd_18 : decode cX1_addEnd 18 = .ok (.iastore, 1) := by decide +kernel
theorem dX1_addEnd_19 : decode cX1_addEnd 19 = .ok (.aload_n 0, 1) := by decide +kernel
theorem dX1_addEnd_20 : decode cX1_addEnd 20 = .ok (.dup, 1) := by decide +kernel
theorem dX1_addEnd_21 : decode cX1_addEnd 21 = .ok (.getfield 22, 3) := by decide +kernel
theorem dX1_addEnd_24 : decode cX1_addEnd 24 = .ok (.iconst 1, 1) := by decide +kernel
theorem dX1_addEnd_25 : decode cX1_addEnd 25 = .ok (.iadd, 1) := by decide +kernel
theorem dX1_addEnd_26 : decode cX1_addEnd 26 = .ok (.putfield 22, 3) := by decide +kernel
theorem dX1_addEnd_29 : decode cX1_addEnd 29 = .ok (.return_, 1) := by decide +kernel
abbrev rmX1_size : Room := { frames := 1, cells := 0, slots := 0, locals := 20 }
theorem mX1_size {l : Launch} {G : Cx} {A : Nat → Prop} {a la ea : Nat} {es : List Nat} : Met l yX1_size (.code yX1_size cX1_size 1 (some .int) :: GW) rmX1_size (PC G A [.ref a] (PB G a la ea es)) (vp_Si (fun r => r = nI es.length)) 0 0 (fun _ => False) := by
  refine mstart "Signtext$Pieces" (by decide +kernel) rfl (Nat.le_of_ble_eq_true rfl) ?_
  intro p e s m below meth c ls hx hb hr hts hown hml hlocks hname hC hA hW hl
  have hl : lv_has ls 1 [(0, .ref a)] := hl
  have hK := hC.1
  have hS : va_S A s.heap s.heap [] := va_S.rf
  have hq9 := hW
  obtain ⟨e61, hO, f, hE, hf⟩ := hq9
  refine lv_aload_n hx hb dX1_size_0 rfl (lv_at hl 0 rfl) ?_
  refine va_get (D := G.1) (ci := 5) (C := RX1) (T := TX1) (N := 3) hx hb hts inX1 hown hK (at_P hO) 0 rfl rfl 2 (by decide) (hts _ tw_1_62) (fun _ h9 => h9) rfl dX1_size_1 ?_
  exact p_i hx hb hr hlocks dX1_size_4 rfl

abbrev rmX1_line : Room := { frames := 1, cells := 0, slots := 0, locals := 20 }
theorem mX1_line {l : Launch} {G : Cx} {A : Nat → Prop} {a la ea : Nat} {es : List Nat} : Met l yX1_line (.code yX1_line cX1_line 1 (some (.object "Signtext$Line")) :: GW) rmX1_line (PC G A [.ref a] (PB G a la ea es)) (pR (fun r => r = la)) 0 0 (fun _ => False) := by
  refine mstart "Signtext$Pieces" (by decide +kernel) rfl (Nat.le_of_ble_eq_true rfl) ?_
  intro p e s m below meth c ls hx hb hr hts hown hml hlocks hname hC hA hW hl
  have hl : lv_has ls 1 [(0, .ref a)] := hl
  have hK := hC.1
  have hS : va_S A s.heap s.heap [] := va_S.rf
  have hq9 := hW
  obtain ⟨e61, hO, f, hE, hf⟩ := hq9
  refine lv_aload_n hx hb dX1_line_0 rfl (lv_at hl 0 rfl) ?_
  refine va_get (D := G.1) (ci := 5) (C := RX1) (T := TX1) (N := 3) hx hb hts inX1 hown hK (at_P hO) 0 rfl rfl 0 (by decide) (hts _ tw_1_60) (fun _ h9 => h9) rfl dX1_line_1 ?_
  exact p_a hx hb hr (Or.inl ⟨_, rfl⟩) hlocks dX1_line_4 rfl

abbrev rmX1_endOf : Room := { frames := 1, cells := 0, slots := 0, locals := 20 }
theorem mX1_endOf {l : Launch} {G : Cx} {A : Nat → Prop} {a la ea : Nat} {es : List Nat} {k : Nat} (hk : k < es.length) : Met l yX1_endOf (.code yX1_endOf cX1_endOf 2 (some .int) :: GW) rmX1_endOf (PC G A [.ref a, .int (nI k)] (PB G a la ea es)) (vp_Si (fun r => r = nI (es.getD k 0))) 0 0 (fun _ => False) := by
  refine mstart "Signtext$Pieces" (by decide +kernel) rfl (Nat.le_of_ble_eq_true rfl) ?_
  intro p e s m below meth c ls hx hb hr hts hown hml hlocks hname hC hA hW hl
  have hl : lv_has ls 2 [(0, .ref a), (1, .int (nI k))] := hl
  have hK := hC.1
  have hS : va_S A s.heap s.heap [] := va_S.rf
  have hq9 := hW
  obtain ⟨e61, hO, f, hE, hf⟩ := hq9
  refine lv_iload_n hx hb dX1_endOf_0 rfl (lv_at hl 1 rfl) ?_
  refine z_lt (tgt := 21) hx hb dX1_endOf_1 (by decide) (by omega) ?_
  refine lv_iload_n hx hb dX1_endOf_4 rfl (lv_at hl 1 rfl) ?_
  refine lv_aload_n hx hb dX1_endOf_5 rfl (lv_at hl 0 rfl) ?_
  refine va_get (D := G.1) (ci := 5) (C := RX1) (T := TX1) (N := 3) hx hb hts inX1 hown hK (at_P hO) 0 rfl rfl 2 (by decide) (hts _ tw_1_62) (fun _ h9 => h9) rfl dX1_endOf_6 ?_
  refine b_ge (tgt := 21) hx hb dX1_endOf_9 (by decide) (by omega) (by omega) (fun c_2 => ?_) (fun c_2 => ?_)
  · exact absurd c_2 (by omega)
  · refine lv_aload_n hx hb dX1_endOf_12 rfl (lv_at hl 0 rfl) ?_
    refine va_get (D := G.1) (ci := 5) (C := RX1) (T := TX1) (N := 3) hx hb hts inX1 hown hK (at_P hO) 0 rfl rfl 1 (by decide) (hts _ tw_1_61) (fun _ h9 => h9) rfl dX1_endOf_13 ?_
    refine lv_iload_n hx hb dX1_endOf_16 rfl (lv_at hl 1 rfl) ?_
    refine va_iald hx hb hK (at_P hE) 0 0 rfl rfl (vp_in_nI (n := k) (N := 61) (by omega) (by omega)) dX1_endOf_17 ?_
    refine lv_cv (show _ = nI (es.getD k 0) from by rw [nI_clamp (by omega)]; exact hf _ (by omega)) ?_
    refine lv_goto (tgt := 22) hx hb dX1_endOf_18 (by decide) ?_
    exact p_i hx hb hr hlocks dX1_endOf_22 rfl

abbrev rmX1_beginOf : Room := { frames := 2, cells := 0, slots := 0, locals := 41 }
theorem mX1_beginOf {l : Launch} {G : Cx} {A : Nat → Prop} {a la ea : Nat} {es : List Nat} {k : Nat} (hk : k ≤ es.length) : Met l yX1_beginOf (.code yX1_beginOf cX1_beginOf 2 (some .int) :: GW) rmX1_beginOf (PC G A [.ref a, .int (nI k)] (PB G a la ea es)) (vp_Si (fun r => r = nI (bgE es k))) 0 0 (fun _ => False) := by
  refine mstart "Signtext$Pieces" (by decide +kernel) rfl (Nat.le_of_ble_eq_true rfl) ?_
  intro p e s m below meth c ls hx hb hr hts hown hml hlocks hname hC hA hW hl
  have hl : lv_has ls 2 [(0, .ref a), (1, .int (nI k))] := hl
  have hK := hC.1
  have hS : va_S A s.heap s.heap [] := va_S.rf
  have hW0 := hW
  have hq9 := hW
  obtain ⟨e61, hO, f, hE, hf⟩ := hq9
  cases k with
  | zero =>
    refine lv_iload_n hx hb dX1_beginOf_0 rfl (lv_at hl 1 rfl) ?_
    refine lv_if_le (tgt := 16) hx hb dX1_beginOf_1 (by decide) (fun _ => ?_) (fun q => absurd (by decide) q)
    refine lv_iconst (v := nI 0) hx hb dX1_beginOf_16 (by decide) ?_
    exact p_i hx hb hr hlocks dX1_beginOf_17 rfl
  | succ k =>
    refine lv_iload_n hx hb dX1_beginOf_0 rfl (lv_at hl 1 rfl) ?_
    refine lv_if_le (tgt := 16) hx hb dX1_beginOf_1 (by decide) (fun q => absurd q (nI_nle (Nat.succ_pos k) (by omega))) (fun _ => ?_)
    refine lv_aload_n hx hb dX1_beginOf_4 rfl (lv_at hl 0 rfl) ?_
    refine lv_iload_n hx hb dX1_beginOf_5 rfl (lv_at hl 1 rfl) ?_
    refine lv_iconst (v := nI 1) hx hb dX1_beginOf_6 (by decide) ?_
    refine lv_isub hx hb dX1_beginOf_7 ?_
    refine lv_cv (nI_pred k) ?_
    refine kV_i (A := A) (b := a) (As := [.int (nI k)]) (rest := []) ⟨hx, hb, hml, hown, hts⟩ (mX1_endOf (A := A) (la := la) (ea := ea) (k := k) (by omega)) (cwV 1 hts (gV tw_2_78 tw_2_79 tw_2_80 tw_1_3 tw_2_81) rfl rfl rfl (by decide +kernel) ⟨Nat.le_of_ble_eq_true rfl, Nat.le_of_ble_eq_true rfl⟩) hC hS hA (hW0.recv hK) hW0 rfl rfl hl.1 (Nat.le_of_ble_eq_true rfl) ⟨Nat.zero_le _, Nat.zero_le _⟩ dX1_beginOf_8 (fun r9 h9 => lv_cv h9 ?_)
    refine lv_iconst (v := nI 1) hx hb dX1_beginOf_11 (by decide) ?_
    refine lv_iadd hx hb dX1_beginOf_12 ?_
    refine lv_cv (nI_add (es.getD k 0) 1) ?_
    refine lv_goto (tgt := 17) hx hb dX1_beginOf_13 (by decide) ?_
    exact p_i hx hb hr hlocks dX1_beginOf_17 rfl

abbrev rmX1_addEnd : Room := { frames := 1, cells := 0, slots := 0, locals := 20 }
theorem mX1_addEnd {l : Launch} {G : Cx} {A : Nat → Prop} {a la ea : Nat} {es : List Nat} {j : Nat} (hAa : A a) (hAe : A ea) (hne : a ≠ ea) (h60 : es.length ≤ 60) : Met l yX1_addEnd (.code yX1_addEnd cX1_addEnd 2 (none : Option Jvm.ClassFile.FieldType) :: GW) rmX1_addEnd (PC G A [.ref a, .int (nI j)] (PB G a la ea es)) (qV A (PB G a la ea (es ++ [j]))) 0 0 (A) := by
  refine mstart "Signtext$Pieces" (by decide +kernel) rfl (Nat.le_of_ble_eq_true rfl) ?_
  intro p e s m below meth c ls hx hb hr hts hown hml hlocks hname hC hA hW hl
  have hl : lv_has ls 2 [(0, .ref a), (1, .int (nI j))] := hl
  have hK := hC.1
  have hS : va_S A s.heap s.heap [] := va_S.rf
  have hq9 := hW
  obtain ⟨e61, hO, f, hE, hf⟩ := hq9
  refine lv_aload_n hx hb dX1_addEnd_0 rfl (lv_at hl 0 rfl) ?_
  refine va_get (D := G.1) (ci := 5) (C := RX1) (T := TX1) (N := 3) hx hb hts inX1 hown hK (at_P hO) 0 rfl rfl 2 (by decide) (hts _ tw_1_62) (fun _ h9 => h9) rfl dX1_addEnd_1 ?_
  refine lv_bipush (v := nI 60) hx hb dX1_addEnd_4 (by decide) ?_
  refine b_gt (tgt := 29) hx hb dX1_addEnd_6 (by decide) (by omega) (by omega) (fun c_3 => ?_) (fun c_3 => ?_)
  · exact absurd c_3 (by omega)
  · refine lv_aload_n hx hb dX1_addEnd_9 rfl (lv_at hl 0 rfl) ?_
    refine va_get (D := G.1) (ci := 5) (C := RX1) (T := TX1) (N := 3) hx hb hts inX1 hown hK (at_P hO) 0 rfl rfl 1 (by decide) (hts _ tw_1_61) (fun _ h9 => h9) rfl dX1_addEnd_10 ?_
    refine lv_aload_n hx hb dX1_addEnd_13 rfl (lv_at hl 0 rfl) ?_
    refine va_get (D := G.1) (ci := 5) (C := RX1) (T := TX1) (N := 3) hx hb hts inX1 hown hK (at_P hO) 0 rfl rfl 2 (by decide) (hts _ tw_1_62) (fun _ h9 => h9) rfl dX1_addEnd_14 ?_
    refine lv_iload_n hx hb dX1_addEnd_17 rfl (lv_at hl 1 rfl) ?_
    refine h_ist (D := G.1) hx hb hK 0 hE rfl hS hAe (vp_in_nI (n := es.length) (N := 61) (by omega) (by omega)) dX1_addEnd_18 (fun H4 L4 hE z4 o4 hS => ?_)
    rw [nI_clamp (n := es.length) (by omega)] at hE
    have hO := at_o hO o4 hne
    have hZ4 := hS.1
    refine lv_aload_n hx hb dX1_addEnd_19 rfl (lv_at hl 0 rfl) ?_
    refine lv_dup hx hb dX1_addEnd_20 rfl ?_
    refine va_get (D := G.1) (ci := 5) (C := RX1) (T := TX1) (N := 3) hx hb hts inX1 hown hK (at_P hO) 0 rfl rfl 2 (by decide) (hts _ tw_1_62) (fun _ h9 => h9) rfl dX1_addEnd_21 ?_
    refine lv_iconst (v := nI 1) hx hb dX1_addEnd_24 (by decide) ?_
    refine lv_iadd hx hb dX1_addEnd_25 ?_
    refine lv_cv (nI_add es.length 1) ?_
    refine h_put (D := G.1) (ci := 5) (C := RX1) (T := TX1) (N := 3) hx hb hts inX1 tyX1 tyX1_ok nmX1 hown hK hO hS hAa rfl 2 (by decide) (hts _ tw_1_62) (fun _ h9 => h9) rfl (tyX1_ok 2 (by decide)) rfl rfl (Nat.le_of_ble_eq_true rfl) dX1_addEnd_26 (fun H5 L5 hO z5 o5 hS => ?_)
    have hO : va_at G.1 vwCl (a, .inr (5, [.ref la, .ref ea, .int (nI (es.length + 1))])) H5 := hO
    have hE := at_o hE o5 (Ne.symm hne)
    have hZ5 := hS.1
    exact q_v hx hb hr hlocks dX1_addEnd_29 hS (Nat.le_refl _) (Nat.le_refl _) (PB.push h60 hO hE hf)

abbrev rmX1_cutOf : Room := { frames := 3, cells := 0, slots := 0, locals := 62 }
theorem mX1_cutOf {l : Launch} {G : Cx} {A : Nat → Prop} {a la lca ea b cb : Nat} {t u es : List Nat} (hAa : A a) (hAl : A la) (hAc : A lca) (hAe : A ea) (hd : b ≠ a ∧ b ≠ la ∧ b ≠ lca ∧ b ≠ ea) (hd2 : cb ≠ a ∧ cb ≠ la ∧ cb ≠ lca ∧ cb ≠ ea) : Met l yX1_cutOf (.code yX1_cutOf cX1_cutOf 3 (none : Option Jvm.ClassFile.FieldType) :: GW) rmX1_cutOf (PC G A [.ref a, .ref b] (fun H => PA G a la lca ea t es H ∧ LA G b cb u H)) (qV A (fun H => (∃ es1, isCut u es1 ∧ PA G a la lca ea u es1 H) ∧ LA G b cb u H)) 0 0 (A) := by
  refine mstart "Signtext$Pieces" (by decide +kernel) rfl (Nat.le_of_ble_eq_true rfl) ?_
  intro p e s m below meth c ls hx hb hr hts hown hml hlocks hname hC hA hW hl
  have hl : lv_has ls 3 [(0, .ref a), (1, .ref b)] := hl
  have hK := hC.1
  have hS : va_S A s.heap s.heap [] := va_S.rf
  obtain ⟨⟨hPB, hL, -, nal, nac, nae, nel, nec⟩, hB⟩ := hW
  obtain ⟨d1, d2, d3, d4⟩ := hd
  obtain ⟨d5, d6, d7, d8⟩ := hd2
  obtain ⟨e61, hO, f, hE, hf⟩ := hPB
  refine lv_aload_n hx hb dX1_cutOf_0 rfl (lv_at hl 0 rfl) ?_
  refine va_get (D := G.1) (ci := 5) (C := RX1) (T := TX1) (N := 3) hx hb hts inX1 hown hK (at_P hO) 0 rfl rfl 0 (by decide) (hts _ tw_1_60) (fun _ h9 => h9) rfl dX1_cutOf_1 ?_
  refine lv_aload_n hx hb dX1_cutOf_4 rfl (lv_at hl 1 rfl) ?_
  refine qV_V (A := A) (A1 := ow la lca s.heap.size) (b := la) (As := [.ref b]) (rest := []) ⟨hx, hb, hml, hown, hts⟩ (mX0_become (A := ow la lca s.heap.size) (ca := lca) (cb := cb) (t := t) (u := u) (Or.inl rfl) (Or.inr (Or.inl rfl)) ⟨d2, d3, d6, d7⟩) (cwV 1 hts (gV tw_2_67 tw_2_4 tw_2_5 tw_1_2 tw_2_6) rfl rfl rfl (by decide +kernel) ⟨Nat.le_of_ble_eq_true rfl, Nat.le_of_ble_eq_true rfl⟩) hC hS (ow_in hAl hAc hA (Nat.le_refl _)) ow_n (hL.recv hK) ⟨hL, hB⟩ rfl rfl hl.1 (Nat.le_of_ble_eq_true rfl) ⟨Nat.zero_le _, Nat.zero_le _⟩ dX1_cutOf_5 (fun H6 L6 hP6 hk6 hS => ?_)
  have hZ6 := hS.1
  have hO := at_kp hO hk6 (ow_no nal nac hO.lt)
  have hE := at_kp hE hk6 (ow_no nel nec hE.lt)
  obtain ⟨hL, hB⟩ := hP6
  have u60 := hL.1
  have uok := hL.2.1
  refine lv_aload_n hx hb dX1_cutOf_8 rfl (lv_at hl 0 rfl) ?_
  refine lv_iconst (v := nI 0) hx hb dX1_cutOf_9 (by decide) ?_
  refine h_put (D := G.1) (ci := 5) (C := RX1) (T := TX1) (N := 3) hx hb hts inX1 tyX1 tyX1_ok nmX1 hown hK hO hS hAa rfl 2 (by decide) (hts _ tw_1_62) (fun _ h9 => h9) rfl (tyX1_ok 2 (by decide)) rfl rfl (Nat.le_of_ble_eq_true rfl) dX1_cutOf_10 (fun H7 L7 hO z7 o7 hS => ?_)
  have hO : va_at G.1 vwCl (a, .inr (5, [.ref la, .ref ea, .int (nI 0)])) H7 := hO
  have hE := at_o hE o7 (Ne.symm nae)
  have hL := LA.o hL o7 nal.symm nac.symm
  have hB := LA.o hB o7 d1 d5
  have hZ7 := hS.1
  refine lv_iconst (v := nI 0) hx hb dX1_cutOf_13 (by decide) ?_
  refine lv_istore_n (lv' := [(2, .int (nI 0)), (0, .ref a), (1, .ref b)]) hx hb dX1_cutOf_14 rfl hl (by decide) rfl (fun ls hl => ?_)
  have hPB : PB G a la ea [] H7 := ⟨Nat.zero_le _, hO, f, hE, fun j hj => absurd hj (Nat.not_lt_zero j)⟩
  refine nloop (P := fun j => ∀ (ls : Array Slot) (H : Heap) (L : List Loc) (e9 : List Nat), lv_has ls 3 [(2, .int (nI j)), (0, .ref a), (1, .ref b)] → va_S A s.heap H L → PB G a la ea e9 H → LA G la lca u H → LA G b cb u H → e9 ++ comE (u.drop j) j = comE u 0 → W p l e rmX1_cutOf s m [.ref a, .ref b].toArray below meth c H L 0 0 (MQ below (qV A (fun H => (∃ es1, isCut u es1 ∧ PA G a la lca ea u es1 H) ∧ LA G b cb u H)) [.ref a, .ref b].toArray s 0 0 (A)) (F0 m 15 ls [])) u.length ?_ 0 (Nat.zero_le _) ls H7 L7 [] hl hS hPB hL hB rfl
  clear hl
  intro j hj ih ls H L e9 hl
  clear hS hPB hL hB hO hE hf
  intro hS hPB hL hB hEE
  have hZ0 := hS.1
  have hPB0 := hPB
  obtain ⟨e61, hO, f, hE, hf⟩ := hPB
  refine lv_iload_n hx hb dX1_cutOf_15 rfl (lv_at hl 0 rfl) ?_
  refine lv_aload_n hx hb dX1_cutOf_16 rfl (lv_at hl 1 rfl) ?_
  refine va_get (D := G.1) (ci := 5) (C := RX1) (T := TX1) (N := 3) hx hb hts inX1 hown hK (at_P hO) 0 rfl rfl 0 (by decide) (hts _ tw_1_60) (fun _ h9 => h9) rfl dX1_cutOf_17 ?_
  refine kV_i (A := A) (b := la) (As := []) (rest := .int (nI j) :: []) ⟨hx, hb, hml, hown, hts⟩ (mX0_size (A := A) (ca := lca)) (cwV 0 hts (gV tw_2_68 tw_2_12 tw_2_13 tw_1_2 tw_2_14) rfl rfl rfl (by decide +kernel) ⟨Nat.le_of_ble_eq_true rfl, Nat.le_of_ble_eq_true rfl⟩) hC hS hA (hL.recv hK) hL rfl rfl hl.1 (Nat.le_of_ble_eq_true rfl) ⟨Nat.zero_le _, Nat.zero_le _⟩ dX1_cutOf_20 (fun r9 h9 => lv_cv h9 ?_)
  have h60 := comE_room hEE
  have h60 : e9.length ≤ 60 := by omega
  refine b_ge (tgt := 50) hx hb dX1_cutOf_23 (by decide) (by omega) (by omega) (fun c_8 => ?_) (fun c_8 => ?_)
  · obtain rfl : j = u.length := by omega
    rw [List.drop_length] at hEE
    refine lv_aload_n hx hb dX1_cutOf_50 rfl (lv_at hl 1 rfl) ?_
    refine lv_aload_n hx hb dX1_cutOf_51 rfl (lv_at hl 1 rfl) ?_
    refine va_get (D := G.1) (ci := 5) (C := RX1) (T := TX1) (N := 3) hx hb hts inX1 hown hK (at_P hO) 0 rfl rfl 0 (by decide) (hts _ tw_1_60) (fun _ h9 => h9) rfl dX1_cutOf_52 ?_
    refine kV_i (A := A) (b := la) (As := []) (rest := .ref a :: []) ⟨hx, hb, hml, hown, hts⟩ (mX0_size (A := A) (ca := lca)) (cwV 0 hts (gV tw_2_68 tw_2_12 tw_2_13 tw_1_2 tw_2_14) rfl rfl rfl (by decide +kernel) ⟨Nat.le_of_ble_eq_true rfl, Nat.le_of_ble_eq_true rfl⟩) hC hS hA (hL.recv hK) hL rfl rfl hl.1 (Nat.le_of_ble_eq_true rfl) ⟨Nat.zero_le _, Nat.zero_le _⟩ dX1_cutOf_55 (fun r9 h9 => lv_cv h9 ?_)
    refine qV_V (A := A) (A1 := ow a ea H.size) (b := a) (As := [.int (nI u.length)]) (rest := []) ⟨hx, hb, hml, hown, hts⟩ (mX1_addEnd (A := ow a ea H.size) (la := la) (ea := ea) (es := e9) (j := u.length) (Or.inl rfl) (Or.inr (Or.inl rfl)) nae h60) (cwV 1 hts (gV tw_2_70 tw_2_72 sel_X1_addEnd tw_1_3 tw_2_73) rfl rfl rfl (by decide +kernel) ⟨Nat.le_of_ble_eq_true rfl, Nat.le_of_ble_eq_true rfl⟩) hC hS (ow_in hAa hAe hA hZ0) ow_n (hPB0.recv hK) hPB0 rfl rfl hl.1 (Nat.le_of_ble_eq_true rfl) ⟨Nat.zero_le _, Nat.zero_le _⟩ dX1_cutOf_58 (fun H9 L9 hP9 hk9 hS => ?_)
    have hZ9 := hS.1
    have hL := hL.kp hk9 (ow_no nal.symm nel.symm hL.lt.1) (ow_no nac.symm nec.symm hL.lt.2)
    have hB := hB.kp hk9 (ow_no d1 d4 hB.lt.1) (ow_no d5 d8 hB.lt.2)
    have hEE : e9 ++ [u.length] = comE u 0 := hEE
    rw [hEE] at hP9
    have hPB0 := hP9
    generalize hEg : comE u 0 = E at hPB0 hEE
    have hEl := comE_len u 0
    rw [hEg] at hEl
    have hq9 := hPB0
    obtain ⟨e61, hO, f, hE, hf⟩ := hq9
    refine lv_aload_n hx hb dX1_cutOf_61 rfl (lv_at hl 1 rfl) ?_
    refine va_get (D := G.1) (ci := 5) (C := RX1) (T := TX1) (N := 3) hx hb hts inX1 hown hK (at_P hO) 0 rfl rfl 2 (by decide) (hts _ tw_1_62) (fun _ h9 => h9) rfl dX1_cutOf_62 ?_
    refine lv_iconst (v := nI 1) hx hb dX1_cutOf_65 (by decide) ?_
    refine b_le (tgt := 73) hx hb dX1_cutOf_66 (by decide) (by omega) (by omega) (fun c_10 => ?_) (fun c_10 => ?_)
    · refine lv_iconst (v := nI 0) hx hb dX1_cutOf_73 (by decide) ?_
      refine lv_istore_n (lv' := [(2, .int (bI false)), (0, .ref a), (1, .ref b)]) hx hb dX1_cutOf_74 rfl hl (by decide) rfl (fun ls hl => ?_)
      refine lv_iload_n hx hb dX1_cutOf_75 rfl (lv_at hl 0 rfl) ?_
      refine f_eq (tgt := 122) hx hb dX1_cutOf_76 (by decide) (fun c_11 => ?_) (fun c_11 => ?_)
      · exact q_v hx hb hr hlocks dX1_cutOf_122 hS (Nat.le_refl _) (Nat.le_refl _) ⟨⟨E, ⟨E.length, hEg.symm ▸ Nat.le_refl _, by rw [hEg, List.take_length], Or.inl ⟨by rw [hEg]; omega, by rw [hEg]⟩⟩, hPB0, hL, hEg ▸ comE_ok u, nal, nac, nae, nel, nec⟩, hB⟩
      · exact absurd c_11 (by decide)
    · refine lv_iconst (v := nI 1) hx hb dX1_cutOf_69 (by decide) ?_
      refine lv_goto (tgt := 74) hx hb dX1_cutOf_70 (by decide) ?_
      refine lv_istore_n (lv' := [(2, .int (bI true)), (0, .ref a), (1, .ref b)]) hx hb dX1_cutOf_74 rfl hl (by decide) rfl (fun ls hl => ?_)
      refine dloop (P := fun j => ∀ (ls : Array Slot) (H : Heap) (L : List Loc), lv_has ls 3 [(2, .int (bI true)), (0, .ref a), (1, .ref b)] → va_S A s.heap H L → PB G a la ea (E.take j) H → LA G la lca u H → LA G b cb u H → j ≤ E.length → (∀ k : Nat, j ≤ k → k < E.length → bgE E k = E.getD k 0) → W p l e rmX1_cutOf s m [.ref a, .ref b].toArray below meth c H L 0 0 (MQ below (qV A (fun H => (∃ es1, isCut u es1 ∧ PA G a la lca ea u es1 H) ∧ LA G b cb u H)) [.ref a, .ref b].toArray s 0 0 (A)) (F0 m 75 ls [])) ?_ E.length ls H9 L9 hl hS (by rw [List.take_length]; exact hPB0) hL hB (Nat.le_refl _) (fun k h1 h2 => absurd h2 (by omega))
      clear hl
      intro j ih ls H L hl
      clear hS hPB0 hL hB hO hE hf
      intro hS hPB0 hL hB hj hem
      have hZ0 := hS.1
      have hjl : (E.take j).length = j := by rw [List.length_take]; omega
      have hq9 := hPB0
      obtain ⟨-, hO, f, hE, hf⟩ := hq9
      rw [hjl] at hO
      refine lv_iload_n hx hb dX1_cutOf_75 rfl (lv_at hl 0 rfl) ?_
      refine f_eq (tgt := 122) hx hb dX1_cutOf_76 (by decide) (fun c_12 => ?_) (fun c_12 => ?_)
      · exact absurd c_12 (by decide)
      · refine lv_aload_n hx hb dX1_cutOf_79 rfl (lv_at hl 1 rfl) ?_
        refine va_get (D := G.1) (ci := 5) (C := RX1) (T := TX1) (N := 3) hx hb hts inX1 hown hK (at_P hO) 0 rfl rfl 2 (by decide) (hts _ tw_1_62) (fun _ h9 => h9) rfl dX1_cutOf_80 ?_
        cases j with
        | zero =>
          refine lv_if_le (tgt := 122) hx hb dX1_cutOf_83 (by decide) (fun _ => ?_) (fun q => absurd (by decide) q)
          exact q_v hx hb hr hlocks dX1_cutOf_122 hS (Nat.le_refl _) (Nat.le_refl _) ⟨⟨E.take 0, ⟨0, by rw [hEg]; exact hj, by rw [hEg], Or.inr ⟨by rw [hEg]; omega, by rw [hEg]; exact hem, fun q => absurd q (Nat.lt_irrefl 0)⟩⟩, hPB0, hL, okE_take (hEg ▸ comE_ok u) 0, nal, nac, nae, nel, nec⟩, hB⟩
        | succ j =>
          refine lv_if_le (tgt := 122) hx hb dX1_cutOf_83 (by decide) (fun q => absurd q (nI_nle (Nat.succ_pos j) (by omega))) (fun _ => ?_)
          refine lv_aload_n hx hb dX1_cutOf_86 rfl (lv_at hl 1 rfl) ?_
          refine lv_aload_n hx hb dX1_cutOf_87 rfl (lv_at hl 1 rfl) ?_
          refine va_get (D := G.1) (ci := 5) (C := RX1) (T := TX1) (N := 3) hx hb hts inX1 hown hK (at_P hO) 0 rfl rfl 2 (by decide) (hts _ tw_1_62) (fun _ h9 => h9) rfl dX1_cutOf_88 ?_
          refine lv_iconst (v := nI 1) hx hb dX1_cutOf_91 (by decide) ?_
          refine lv_isub hx hb dX1_cutOf_92 ?_
          refine lv_cv (nI_pred j) ?_
          refine kV_i (A := A) (b := a) (As := [.int (nI j)]) (rest := []) ⟨hx, hb, hml, hown, hts⟩ (mX1_beginOf (A := A) (la := la) (ea := ea) (es := E.take (j + 1)) (k := j) (by omega)) (cwV 1 hts (gV tw_2_74 tw_2_75 tw_2_76 tw_1_3 tw_2_77) rfl rfl rfl (by decide +kernel) ⟨Nat.le_of_ble_eq_true rfl, Nat.le_of_ble_eq_true rfl⟩) hC hS hA (hPB0.recv hK) hPB0 rfl rfl hl.1 (Nat.le_of_ble_eq_true rfl) ⟨Nat.zero_le _, Nat.zero_le _⟩ dX1_cutOf_93 (fun r9 h9 => lv_cv h9 ?_)
          refine lv_aload_n hx hb dX1_cutOf_96 rfl (lv_at hl 1 rfl) ?_
          refine lv_aload_n hx hb dX1_cutOf_97 rfl (lv_at hl 1 rfl) ?_
          refine va_get (D := G.1) (ci := 5) (C := RX1) (T := TX1) (N := 3) hx hb hts inX1 hown hK (at_P hO) 0 rfl rfl 2 (by decide) (hts _ tw_1_62) (fun _ h9 => h9) rfl dX1_cutOf_98 ?_
          refine lv_iconst (v := nI 1) hx hb dX1_cutOf_101 (by decide) ?_
          refine lv_isub hx hb dX1_cutOf_102 ?_
          refine lv_cv (nI_pred j) ?_
          refine kV_i (A := A) (b := a) (As := [.int (nI j)]) (rest := .int (nI (bgE (E.take (j + 1)) j)) :: []) ⟨hx, hb, hml, hown, hts⟩ (mX1_endOf (A := A) (la := la) (ea := ea) (es := E.take (j + 1)) (k := j) (by omega)) (cwV 1 hts (gV tw_2_78 tw_2_79 tw_2_80 tw_1_3 tw_2_81) rfl rfl rfl (by decide +kernel) ⟨Nat.le_of_ble_eq_true rfl, Nat.le_of_ble_eq_true rfl⟩) hC hS hA (hPB0.recv hK) hPB0 rfl rfl hl.1 (Nat.le_of_ble_eq_true rfl) ⟨Nat.zero_le _, Nat.zero_le _⟩ dX1_cutOf_103 (fun r9 h9 => lv_cv h9 ?_)
          have ok9 := (okE_take (hEg ▸ comE_ok u) (j + 1) : okE u (E.take (j + 1))) j (by omega)
          have q1 := bgE_take (E := E) (n := j + 1) (k := j) (by omega)
          have q2 := getD_take (E := E) (n := j + 1) (k := j) (by omega)
          rw [q1, q2] at ok9
          rw [q1, q2]
          refine b_ne (tgt := 122) hx hb dX1_cutOf_106 (by decide) (by omega) (by omega) (fun c_13 => ?_) (fun c_13 => ?_)
          · exact q_v hx hb hr hlocks dX1_cutOf_122 hS (Nat.le_refl _) (Nat.le_refl _) ⟨⟨E.take (j + 1), ⟨j + 1, by rw [hEg]; exact hj, by rw [hEg], Or.inr ⟨by rw [hEg]; omega, by rw [hEg]; exact hem, fun _ => by rw [hEg]; exact c_13⟩⟩, hPB0, hL, okE_take (hEg ▸ comE_ok u) (j + 1), nal, nac, nae, nel, nec⟩, hB⟩
          · refine lv_aload_n hx hb dX1_cutOf_109 rfl (lv_at hl 1 rfl) ?_
            refine lv_dup hx hb dX1_cutOf_110 rfl ?_
            refine va_get (D := G.1) (ci := 5) (C := RX1) (T := TX1) (N := 3) hx hb hts inX1 hown hK (at_P hO) 0 rfl rfl 2 (by decide) (hts _ tw_1_62) (fun _ h9 => h9) rfl dX1_cutOf_111 ?_
            refine lv_iconst (v := nI 1) hx hb dX1_cutOf_114 (by decide) ?_
            refine lv_isub hx hb dX1_cutOf_115 ?_
            refine lv_cv (nI_pred j) ?_
            refine h_put (D := G.1) (ci := 5) (C := RX1) (T := TX1) (N := 3) hx hb hts inX1 tyX1 tyX1_ok nmX1 hown hK hO hS hAa rfl 2 (by decide) (hts _ tw_1_62) (fun _ h9 => h9) rfl (tyX1_ok 2 (by decide)) rfl rfl (Nat.le_of_ble_eq_true rfl) dX1_cutOf_116 (fun H14 L14 hO z14 o14 hS => ?_)
            have hO : va_at G.1 vwCl (a, .inr (5, [.ref la, .ref ea, .int (nI j)])) H14 := hO
            have hE := at_o hE o14 (Ne.symm nae)
            have hL := LA.o hL o14 nal.symm nac.symm
            have hB := LA.o hB o14 d1 d5
            have hZ14 := hS.1
            refine lv_goto (tgt := 75) hx hb dX1_cutOf_119 (by decide) ?_
            exact ih j (Nat.lt_succ_self j) ls H14 L14 (lv_sub hl [0, 1, 2] rfl) hS ⟨by rw [List.length_take]; omega, by rw [List.length_take, Nat.min_eq_left (by omega)]; exact hO, f, hE, fun k hk => by rw [List.length_take] at hk; rw [hf k (by omega), getD_take (by omega), getD_take (by omega)]⟩ hL hB (by omega) (fun k h1 h2 => by rcases Nat.lt_or_ge j k with q | q; exact hem k q h2; rw [show k = j by omega]; exact c_13)
  · refine lv_aload_n hx hb dX1_cutOf_26 rfl (lv_at hl 1 rfl) ?_
    refine va_get (D := G.1) (ci := 5) (C := RX1) (T := TX1) (N := 3) hx hb hts inX1 hown hK (at_P hO) 0 rfl rfl 0 (by decide) (hts _ tw_1_60) (fun _ h9 => h9) rfl dX1_cutOf_27 ?_
    refine lv_iload_n hx hb dX1_cutOf_30 rfl (lv_at hl 0 rfl) ?_
    refine kV_i (A := A) (b := la) (As := [.int (nI j)]) (rest := []) ⟨hx, hb, hml, hown, hts⟩ (mX0_codeAt (A := A) (ca := lca) (i := j) (by omega)) (cwV 1 hts (gV tw_2_69 tw_2_20 tw_2_21 tw_1_2 tw_2_22) rfl rfl rfl (by decide +kernel) ⟨Nat.le_of_ble_eq_true rfl, Nat.le_of_ble_eq_true rfl⟩) hC hS hA (hL.recv hK) hL rfl rfl hl.1 (Nat.le_of_ble_eq_true rfl) ⟨Nat.zero_le _, Nat.zero_le _⟩ dX1_cutOf_31 (fun r9 h9 => lv_cv h9 ?_)
    have tokj := uok j
    refine lv_bipush (v := nI 44) hx hb dX1_cutOf_34 (by decide) ?_
    refine b_ne (tgt := 44) hx hb dX1_cutOf_36 (by decide) (by omega) (by omega) (fun c_15 => ?_) (fun c_15 => ?_)
    · refine lv_iinc (v := nI (j + 1)) (lv' := [(2, .int (nI (j + 1))), (0, .ref a), (1, .ref b)]) hx hb dX1_cutOf_44 hl (k := 0) rfl (nI_add j 1) (by decide) rfl (fun ls hl => ?_)
      refine lv_goto (tgt := 15) hx hb dX1_cutOf_47 (by decide) ?_
      exact ih (j + 1) (by omega) (by omega) ls H L e9 (lv_sub hl [0, 1, 2] rfl) hS hPB0 hL hB (by rw [← hEE, comE_ne (by omega) c_15])
    · refine lv_aload_n hx hb dX1_cutOf_39 rfl (lv_at hl 1 rfl) ?_
      refine lv_iload_n hx hb dX1_cutOf_40 rfl (lv_at hl 0 rfl) ?_
      refine qV_V (A := A) (A1 := ow a ea H.size) (b := a) (As := [.int (nI j)]) (rest := []) ⟨hx, hb, hml, hown, hts⟩ (mX1_addEnd (A := ow a ea H.size) (la := la) (ea := ea) (es := e9) (j := j) (Or.inl rfl) (Or.inr (Or.inl rfl)) nae h60) (cwV 1 hts (gV tw_2_70 tw_2_72 sel_X1_addEnd tw_1_3 tw_2_73) rfl rfl rfl (by decide +kernel) ⟨Nat.le_of_ble_eq_true rfl, Nat.le_of_ble_eq_true rfl⟩) hC hS (ow_in hAa hAe hA hZ0) ow_n (hPB0.recv hK) hPB0 rfl rfl hl.1 (Nat.le_of_ble_eq_true rfl) ⟨Nat.zero_le _, Nat.zero_le _⟩ dX1_cutOf_41 (fun H16 L16 hP16 hk16 hS => ?_)
      have hZ16 := hS.1
      have hL := hL.kp hk16 (ow_no nal.symm nel.symm hL.lt.1) (ow_no nac.symm nec.symm hL.lt.2)
      have hB := hB.kp hk16 (ow_no d1 d4 hB.lt.1) (ow_no d5 d8 hB.lt.2)
      refine lv_iinc (v := nI (j + 1)) (lv' := [(2, .int (nI (j + 1))), (0, .ref a), (1, .ref b)]) hx hb dX1_cutOf_44 hl (k := 0) rfl (nI_add j 1) (by decide) rfl (fun ls hl => ?_)
      refine lv_goto (tgt := 15) hx hb dX1_cutOf_47 (by decide) ?_
      exact ih (j + 1) (by omega) (by omega) ls H16 L16 (e9 ++ [j]) (lv_sub hl [0, 1, 2] rfl) hS hP16 hL hB (by rw [← hEE, comE_eq (by omega) c_15, List.append_assoc]; rfl)
end
/-! 18.nest -/
section
/-! OWN LAYER, 6: constructors of nest mates -/
theorem qV_IN {p : Program} {l : Launch} {e : Env} {R : Room} {s : State} {m : MethodId} {args : Array Value} {below : List Frame} {meth : Method} {c : Code} {H : Heap} {locs : List Loc} {cells slots : Nat} {Q : State → Prop} {cc bytes : ByteArray} {pc nL maxL index n mc ms : Nat} {ls : Array Slot} {rest st0 : List Value} {G : Cx} {A A1 : Nat → Prop} {own host : String} {y : MethodName} {ws : List Cond} {rm : Room} {b : Nat} {As : List Value} {Wd : Heap → Prop}
    {P : Heap → Prop} (S : CallFix p m c cc nL s args GW own) (hM : Met l y ws rm (PC G A1 (.ref b :: As) Wd) (qV A1 P) mc ms A1) (cw : va_CN R s args own index y host bytes maxL none ws rm mc ms n ∧ y.name = "<init>" ∧ (Cond.instanceMethod y).before args s = true) (hC : cx G A s) (hS : va_S A s.heap H locs) (hAA : ∀ q, A1 q → A q) (hA1 : ∀ q : Nat, H.size ≤ q → A1 q)
    (hW : Wd H) (hst : st0 = As.reverse ++ .ref b :: rest) (hn : As.length = n) (hl : ls.size = nL) (hrm : (rest.map fun v => v.category).sum ≤ 8) (hf : cells + mc ≤ R.cells ∧ slots + ms ≤ R.slots) (hdg : decode cc pc = .ok (.invokespecial index, 3))
    (kk : ∀ (H1 : Heap) (locs1 : List Loc), P H1 → kp A1 H H1 → va_S A s.heap H1 locs1 → W p l e R s m args below meth c H1 locs1 (cells + mc) (slots + ms) Q (F0 m (pc + 3) ls rest)) : W p l e R s m args below meth c H locs cells slots Q (F0 m pc ls st0) := by
  subst hst
  exact va_callv (va_runIN (As := As) (rest := rest) (g := F0 m pc ls (As.reverse ++ .ref b :: rest)) S hM cw ⟨PC.blind, PC.go hC hS hAA hA1 hW⟩ rfl hn hl rfl (lv_room hrm) hdg hf) hS (fun q _ h => hAA q h) hAA (fun u t H1 locs1 ht _ _ hB hz hk hS1 => kk H1 locs1 (show P H1 from ht ▸ hB) ⟨hz, hk⟩ hS1)
end
/-! 19.pieces2 -/
section
/-! Pieces, 2: its constructor -/
theorem dX1_init_0 : decode cX1_init 0 = .ok (.aload_n 0, 1) := by decide +kernel
theorem dX1_init_1 : decode cX1_init 1 = .ok (.invokespecial 3, 3) := by decide +kernel
theorem dX1_init_4 : decode cX1_init 4 = .ok (.aload_n 0, 1) := by decide +kernel
theorem dX1_init_5 : decode cX1_init 5 = .ok (.new 9, 3) := by decide +kernel
theorem dX1_init_8 : decode cX1_init 8 = .ok (.dup, 1) := by decide +kernel
theorem dX1_init_9 : decode cX1_init 9 = .ok (.invokespecial 11, 3) := by decide +kernel
theorem dX1_init_12 : decode cX1_init 12 = .ok (.putfield 12, 3) := by decide +kernel
theorem dX1_init_15 : decode cX1_init 15 = .ok (.aload_n 0, 1) := by decide +kernel
theorem dX1_init_16 : decode cX1_init 16 = .ok (.bipush 61, 2) := by decide +kernel
theorem dX1_init_18 : decode cX1_init 18 = .ok (.newarray .int, 2) := by decide +kernel
theorem dX1_init_20 : decode cX1_init 20 = .ok (.putfield 18, 3) := by decide +kernel
theorem dX1_init_23 : decode cX1_init 23 = .ok (.aload_n 0, 1) := by decide +kernel
theorem dX1_init_24 : decode cX1_init 24 = .ok (.iconst 0, 1) := by decide +kernel
theorem dX1_init_25 : decode cX1_init 25 = .ok (.putfield 22, 3) := by decide +kernel
theorem dX1_init_28 : decode cX1_init 28 = .ok (.return_, 1) := by decide +kernel
abbrev rmX1_init : Room := { frames := 2, cells := 3, slots := 123, locals := 40 }
theorem mX1_init {l : Launch} {G : Cx} {A : Nat → Prop} {a sz : Nat} (hAa : A a) : Met l yX1_init (.code yX1_init cX1_init 1 (none : Option Jvm.ClassFile.FieldType) :: GW) rmX1_init (PC G A [.ref a] (fun H => H.size = sz ∧ va_at G.1 vwCl (a, .inr (5, [.null, .null, .int 0])) H)) (qV A (fun H => H.size = sz + 3 ∧ PA G a sz (sz + 1) (sz + 2) [] [] H)) 3 123 (A) := by
  refine mstart "Signtext$Pieces" (by decide +kernel) rfl (Nat.le_of_ble_eq_true rfl) ?_
  intro p e s m below meth c ls hx hb hr hts hown hml hlocks hname hC hA hW hl
  have hl : lv_has ls 1 [(0, .ref a)] := hl
  have hK := hC.1
  have hS : va_S A s.heap s.heap [] := va_S.rf
  obtain ⟨hsz, hO⟩ := hW
  have haz : a < s.heap.size := hO.lt
  refine lv_aload_n hx hb dX1_init_0 rfl (lv_at hl 0 rfl) ?_
  refine W.objInit hx hb hown (hts _ tw_1_57) (hts _ tw_1_35) (hts _ tw_1_36) rfl (by rw [hml]; exact hl.1) rfl dX1_init_1 (Nat.le_of_ble_eq_true rfl) (Nat.le_of_ble_eq_true rfl) ?_
  refine W.eq (g2 := F0 m 4 ls []) rfl ?_
  refine lv_aload_n hx hb dX1_init_4 rfl (lv_at hl 0 rfl) ?_
  refine h_new (D := G.1) (C := RX0) (T := TX0) (N := 2) (ci := 4) (fs := [.null, .int 0]) hx hb hts inX0 tyX0 tyX0_ok hown (hts _ tw_1_58) (hts _ tw_1_39) (hts _ tw_1_2) hK hS rfl (fun j hj => match j, hj with | 0, _ => rfl | 1, _ => rfl) (Nat.le_trans (show 0 + 1 ≤ 3 by omega) (Nat.le_of_ble_eq_true rfl)) (Nat.le_trans (show 0 + 2 ≤ 123 by omega) (Nat.le_of_ble_eq_true rfl)) dX1_init_5 (fun la H1 hla hOla z1 o1 hS => ?_)
  have n1hO : a ≠ la := fun q => absurd hO.lt (by rw [q, hla]; exact Nat.lt_irrefl _)
  have hO := at_n hO o1
  have hZ1 := hS.1
  have hMla : A la := hA la (by omega)
  refine lv_dup hx hb dX1_init_8 rfl ?_
  refine qV_IN (A := A) (A1 := ow la la H1.size) (b := la) (As := []) (rest := .ref la :: .ref a :: []) ⟨hx, hb, hml, hown, hts⟩ (mX0_init (A := ow la la H1.size) (a := la) (sz := H1.size) (Or.inl rfl)) ⟨va_cnB 0 hts (gI tw_1_42) rfl rfl rfl hC.2.2.2.2.2.2.2.1 (hts _ tw_1_2) (by decide +kernel) ⟨Nat.le_of_ble_eq_true rfl, Nat.le_of_ble_eq_true rfl⟩, rfl, hts _ tw_1_41⟩ hC hS (ow_in hMla hMla hA (by omega)) ow_n  ⟨rfl, hOla⟩ rfl rfl hl.1 (Nat.le_of_ble_eq_true rfl) ⟨Nat.le_trans (show (0 + 1) + 1 ≤ 3 by omega) (Nat.le_of_ble_eq_true rfl), Nat.le_trans (show (0 + 2) + 60 ≤ 123 by omega) (Nat.le_of_ble_eq_true rfl)⟩ dX1_init_9 (fun H2 L2 hP2 hk2 hS => ?_)
  have hZ2 := hS.1
  obtain ⟨lca, hlc, hz9, hL⟩ := hP2
  have hO := at_kp hO hk2 (ow_no n1hO n1hO hO.lt)
  have nac : a ≠ lca := by omega
  have nlc : la ≠ lca := hL.2.2.1
  refine h_putF (D := G.1) (ci := 5) (C := RX1) (T := TX1) (N := 3) hx hb hts inX1 tyX1 tyX1_ok nmX1 hown hK hO hS hAa rfl 0 (by decide) (hts _ tw_1_60) (fun _ h9 => h9) rfl hname rfl (tyX1_ok 0 (by decide)) rfl rfl (Nat.le_of_ble_eq_true rfl) dX1_init_12 (fun H3 L3 hO z3 o3 hS => ?_)
  have hO : va_at G.1 vwCl (a, .inr (5, [.ref la, .null, .int 0])) H3 := hO
  have hL := LA.o hL o3 (Ne.symm n1hO) nac.symm
  have hZ3 := hS.1
  refine lv_aload_n hx hb dX1_init_15 rfl (lv_at hl 0 rfl) ?_
  refine lv_bipush (v := nI 61) hx hb dX1_init_16 (by decide) ?_
  have hLl := hL.lt
  refine h_newa (D := G.1) (atype := .int) (N := 61) (z := (61, .inl (fun _ => 0))) hx hb (hts _ tw_1_70) rfl (fun h => h) hK 0 rfl hS rfl (nI_pos (by omega)) (nI_clamp (by omega)) (show 61 * _ ≤ _ from by show 61 * 4 ≤ 536870912; omega) (Nat.le_trans (show ((0 + 1) + 1) + 1 ≤ 3 by omega) (Nat.le_of_ble_eq_true rfl)) (Nat.le_trans (show ((0 + 2) + 60) + 61 ≤ 123 by omega) (Nat.le_of_ble_eq_true rfl)) dX1_init_18 (fun ea H4 hea hFea z4 o4 hS => ?_)
  have n4hO : a ≠ ea := fun q => absurd hO.lt (by rw [q, hea]; exact Nat.lt_irrefl _)
  have hO := at_n hO o4
  have hL := LA.n hL o4
  have hZ4 := hS.1
  have hMea : A ea := hA ea (by omega)
  have nel : ea ≠ la := by omega
  have nec : ea ≠ lca := by omega
  refine h_putF (D := G.1) (ci := 5) (C := RX1) (T := TX1) (N := 3) hx hb hts inX1 tyX1 tyX1_ok nmX1 hown hK hO hS hAa rfl 1 (by decide) (hts _ tw_1_61) (fun _ h9 => h9) rfl hname rfl (tyX1_ok 1 (by decide)) rfl rfl (Nat.le_of_ble_eq_true rfl) dX1_init_20 (fun H5 L5 hO z5 o5 hS => ?_)
  have hO : va_at G.1 vwCl (a, .inr (5, [.ref la, .ref ea, .int 0])) H5 := hO
  have hFea := at_o hFea o5 (Ne.symm n4hO)
  have hL := LA.o hL o5 (Ne.symm n1hO) nac.symm
  have hZ5 := hS.1
  refine lv_aload_n hx hb dX1_init_23 rfl (lv_at hl 0 rfl) ?_
  refine lv_iconst (v := nI 0) hx hb dX1_init_24 (by decide) ?_
  refine h_put (D := G.1) (ci := 5) (C := RX1) (T := TX1) (N := 3) hx hb hts inX1 tyX1 tyX1_ok nmX1 hown hK hO hS hAa rfl 2 (by decide) (hts _ tw_1_62) (fun _ h9 => h9) rfl (tyX1_ok 2 (by decide)) rfl rfl (Nat.le_of_ble_eq_true rfl) dX1_init_25 (fun H6 L6 hO z6 o6 hS => ?_)
  have hO : va_at G.1 vwCl (a, .inr (5, [.ref la, .ref ea, .int (nI 0)])) H6 := hO
  have hFea := at_o hFea o6 (Ne.symm n4hO)
  have hL := LA.o hL o6 (Ne.symm n1hO) nac.symm
  have hZ6 := hS.1
  have e1 : la = sz := by omega
  have hlcz := hLl
  have e2 : lca = sz + 1 := by omega
  have e3 : ea = sz + 2 := by omega
  have e4 : H6.size = sz + 3 := by omega
  rw [e1] at hO hL; rw [e2] at hL; rw [e3] at hO hFea
  exact q_v hx hb hr hlocks dX1_init_28 hS (by omega) (by omega) ⟨e4, ⟨Nat.zero_le _, hO, _, hFea, fun j hj => absurd hj (Nat.not_lt_zero j)⟩, hL, fun k hk => absurd hk (Nat.not_lt_zero k), by omega, by omega, by omega, by omega, by omega⟩
end
/-! 20.exc -/
section
/-! OWN LAYER, 7: methods that throw -/
def exN : List String := ["java/lang/RuntimeException", "java/lang/Exception"]
theorem tA76 : ∀ w ∈ (vx_at0 "Signtext" 76 "java/lang/IndexOutOfBoundsException" exN).filter goodWord, w ∈ GW := by decide +kernel
theorem tB76 : ∀ w ∈ (vx_at0 "Signtext" 76 "java/lang/IndexOutOfBoundsException" exN).filter (fun w => !goodWord w), w ∈ XW := by decide +kernel
theorem tG76 : ∀ w ∈ Cond.classLink "Signtext" 74 "java/lang/IndexOutOfBoundsException" :: Cond.initialized "java/lang/IndexOutOfBoundsException" :: vx_at0 "Signtext" 76 "java/lang/IndexOutOfBoundsException" exN, vx_ot w = true := by decide +kernel
theorem tA83 : ∀ w ∈ (vx_at0 "Signtext" 83 "java/lang/IllegalArgumentException" exN).filter goodWord, w ∈ GW := by decide +kernel
theorem tB83 : ∀ w ∈ (vx_at0 "Signtext" 83 "java/lang/IllegalArgumentException" exN).filter (fun w => !goodWord w), w ∈ XW := by decide +kernel
theorem tG83 : ∀ w ∈ Cond.classLink "Signtext" 81 "java/lang/IllegalArgumentException" :: Cond.initialized "java/lang/IllegalArgumentException" :: vx_at0 "Signtext" 83 "java/lang/IllegalArgumentException" exN, vx_ot w = true := by decide +kernel
theorem tA234 : ∀ w ∈ (vx_at0 "Signtext" 234 "java/lang/IllegalStateException" exN).filter goodWord, w ∈ GW := by decide +kernel
theorem tB234 : ∀ w ∈ (vx_at0 "Signtext" 234 "java/lang/IllegalStateException" exN).filter (fun w => !goodWord w), w ∈ XW := by decide +kernel
theorem tG234 : ∀ w ∈ Cond.classLink "Signtext" 232 "java/lang/IllegalStateException" :: Cond.initialized "java/lang/IllegalStateException" :: vx_at0 "Signtext" 234 "java/lang/IllegalStateException" exN, vx_ot w = true := by decide +kernel
/-- where it throws: the exception's class, and the heap behind it -/
def xE (A : Nat → Prop) (PX : String → Heap → Prop) : String → State → State → Prop := vx_X (fun _ : Unit => True) (fun E _ t => PX E t.heap) A
theorem mstartX {l : Launch} {y : MethodName} {rm : Room} {G : Cx} {A : Nat → Prop} {av : List Value} {Wd : Heap → Prop} {Qc : Array Value → State → Outcome → State → Prop} {XC : String → State → State → Prop} {mc ms : Nat} {free : Addr → Prop} {cc : ByteArray} {maxL : Nat} {ret : Option FieldType} (own : String) (hy : plainName y.cls = true) (hown : y.cls = own) (hn : (lg_sl av).length ≤ maxL)
    (body : ∀ (p : Program) (e : Env) (s : State) (m : MethodId) (below : List Frame) (meth : Method) (c : Code) (ls : Array Slot), p.tables.exec = Jvm.exec → c.code = cc → meth.sig.returnType = ret → (∀ w ∈ GW, w.before av.toArray s = true) → s.vm.findClass own = some m.cls → c.maxLocals = maxL → meth.locks = false → (∀ x ∈ c.exceptionTable.toList, False) → cx G A s → (∀ q : Nat, s.heap.size ≤ q → A q) → Wd s.heap → lv_has ls maxL (lv_args 0 av) →
      W p l e rm s m av.toArray below meth c s.heap [] 0 0 (vx_MQ below Qc XC av.toArray s mc ms free) (F0 m 0 ls [])) : vx_Met l y (.code y cc maxL ret :: GW) rm (PC G A av Wd) Qc XC mc ms free := by
  refine vx_ofW (cc := cc) (maxL := maxL) (ret := ret) hy rfl ?_
  intro p e s m args below meth c s₁ B hml hnx hv
  obtain ⟨rfl, hC, hA, hW⟩ := hv
  have hts := atoms_spec (ws := .code y cc maxL ret :: GW) B.pre
  have hl := lv_entry av (n := maxL) hn
  have hne : entryFrame m av.toArray maxL = F0 m 0 ((lg_sl av ++ List.replicate (maxL - (lg_sl av).length) Slot.unset).toArray) [] := by rw [lg_entry_eq]
  rw [hne]
  exact body p e s m below meth c _ B.exec B.bytes B.returns (fun w h => hts w (List.mem_cons_of_mem _ h)) (by rw [← hown]; exact findClass_of_methodNamed B.named) hml B.notSynchronized hnx hC hA hW hl
theorem xE_wk {A : Nat → Prop} {PX : String → Heap → Prop} {E : String} {s t : State} {H : Heap} {locs : List Loc} (hS : va_S A s.heap H locs) (ht : t.heap = H) (h : PX E H) : xE A PX E s t := ⟨(), trivial, show PX E t.heap from ht ▸ h, hS.F ht⟩
section XR
variable {p : Program} {l : Launch} {e : Env} {R : Room} {s : State} {m : MethodId} {args : Array Value} {below : List Frame} {meth : Method} {c : Code} {H : Heap} {locs : List Loc} {cells slots : Nat}
variable {cc bytes : ByteArray} {pc nL maxL index n mc ms mc1 ms1 : Nat} {ls : Array Slot} {rest st0 : List Value} {G : Cx} {A A1 : Nat → Prop} {own C : String} {y : MethodName} {ret : Option FieldType} {ws : List Cond} {rm : Room} {b : Nat} {As : List Value} {Wd : Heap → Prop} {PX PX1 : String → Heap → Prop} {Qc : Array Value → State → Outcome → State → Prop}
/-- 'throw new E()' -/
theorem t_new {cls : String} {ik ic : Nat} (hx : p.tables.exec = Jvm.exec) (hb : c.code = cc) (hst : l.stackTraces = false) (hown : s.vm.findClass "Signtext" = some m.cls) (hts : ∀ w ∈ GW, w.before args s = true) (hC : cx G A s) (hS : va_S A s.heap H locs) (hls : ls.size = nL) (hml : c.maxLocals = nL) (hcls : Bundle.fit cls = true) (hk : Cond.classLink "Signtext" ik cls ∈ GW) (hi : Cond.initialized cls ∈ GW)
    (tA : ∀ w ∈ (vx_at0 "Signtext" ic cls exN).filter goodWord, w ∈ GW) (tB : ∀ w ∈ (vx_at0 "Signtext" ic cls exN).filter (fun w => !goodWord w), w ∈ XW) (tG : ∀ w ∈ Cond.classLink "Signtext" ik cls :: Cond.initialized cls :: vx_at0 "Signtext" ic cls exN, vx_ot w = true)
    (hnx : ∀ x ∈ c.exceptionTable.toList, False) (hlocks : meth.locks = false) (hRf : 5 < R.frames) (hRl : (rest.map fun v => v.category).sum + 81 ≤ R.locals) (hRc : cells + 1 ≤ R.cells) (hRs : slots + 6 ≤ R.slots) (hc : cells + 1 ≤ mc) (hs : slots + 6 ≤ ms)
    (d0 : decode cc pc = .ok (.new ik, 3)) (d3 : decode cc (pc + 3) = .ok (.dup, 1)) (d4 : decode cc (pc + 4) = .ok (.invokespecial ic, 3)) (d7 : decode cc (pc + 7) = .ok (.athrow, 1)) (hPX : ∀ H1 : Heap, kp (nw H.size) H H1 → PX cls H1) :
    W p l e R s m args below meth c H locs cells slots (vx_MQ below Qc (xE A PX) args s mc ms A) (F0 m pc ls rest) := by
  have hz := hC.2.2.1
  obtain ⟨z1, z2, z3, z4, z5, z6, z7, z8, z9, z10, z11, z12, z13⟩ := hz
  have hxw : xWs s := hC.2.2.2.2.2.2.2.2.2.2.2.1
  refine vx_throw0 (names := exN) hx hb hst hown hcls (by decide +kernel) (hts _ hk) (hts _ hi) (vx_hat (B := XW) (fun w h => hts _ (tA w h)) tB (fun w h => hxw.use h)) tG z12 z13 hS (hls.trans hml.symm) d0 d3 d4 d7 (fun x h => (hnx x h).elim) hRf hRl hRc hRs hlocks (fun t hvm h1 h2 => ⟨(), trivial, hPX _ ⟨h1, fun q a _ => h2 q a⟩, Nat.le_trans hS.1 h1, fun q a b => (h2 q (Nat.lt_of_lt_of_le a hS.1)).trans (hS.2.1 q a b)⟩) hS.2.2 hc hs
/-- calls whose exceptions go on to the caller -/
theorem xV_V {P : Heap → Prop} (S : CallFix p m c cc nL s args GW own) (hM : vx_Met l y ws rm (PC G A1 (.ref b :: As) Wd) (qV A1 P) (xE A1 PX1) mc1 ms1 A1) (cw : CallW R s args own C index y bytes maxL ret ws rm mc1 ms1 n) (hC : cx G A s) (hS : va_S A s.heap H locs) (hAA : ∀ q, A1 q → A q) (hA1 : ∀ q : Nat, H.size ≤ q → A1 q)
    (hr : ∃ cell : Cell, H[b]? = some cell ∧ cell.vm.isStatics = false ∧ s.vm.findClass C = some cell.cls) (hW : Wd H) (hst : st0 = As.reverse ++ .ref b :: rest) (hn : As.length = n) (hl : ls.size = nL) (hrm : (rest.map fun v => v.category).sum ≤ 8) (hf : cells + mc1 ≤ R.cells ∧ slots + ms1 ≤ R.slots) (hdg : decode cc pc = .ok (.invokevirtual index, 3))
    (hnx : ∀ x ∈ c.exceptionTable.toList, False) (hlocks : meth.locks = false) (hc : cells + mc1 ≤ mc) (hs : slots + ms1 ≤ ms) (hPX : ∀ (E : String) (H1 : Heap), PX1 E H1 → kp A1 H H1 → PX E H1)
    (kk : ∀ (H1 : Heap) (locs1 : List Loc), P H1 → kp A1 H H1 → va_S A s.heap H1 locs1 → W p l e R s m args below meth c H1 locs1 (cells + mc1) (slots + ms1) (vx_MQ below Qc (xE A PX) args s mc ms A) (F0 m (pc + 3) ls rest)) : W p l e R s m args below meth c H locs cells slots (vx_MQ below Qc (xE A PX) args s mc ms A) (F0 m pc ls st0) := by
  subst hst
  exact vx_callv (vx_runV (As := As) (rest := rest) (g := F0 m pc ls (As.reverse ++ .ref b :: rest)) S hM cw ⟨PC.blind, hr, PC.go hC hS hAA hA1 hW⟩ rfl hn hl rfl (lv_room hrm) hdg hf) hS (fun q _ h => hAA q h) hAA (fun q _ h => hAA q h)
    (fun E ce q9 u t H1 locs1 ht hvm _ hB hz hk hS1 h1 h2 h3 => vx_out (fun x h => (hnx x h).elim) hlocks h1 h2 h3 (fun t9 ht9 _ => xE_wk hS1 ht9 (hPX E H1 (show PX1 E H1 from ht ▸ hB) ⟨hz, hk⟩)) hS1.2.2 hc hs)
    (fun u t H1 locs1 ht _ _ hB hz hk hS1 => kk H1 locs1 (show P H1 from ht ▸ hB) ⟨hz, hk⟩ hS1)
theorem xI_V {P : Int32 → Heap → Prop} (S : CallFix p m c cc nL s args GW own) (hM : vx_Met l y ws rm (PC G A1 (.ref b :: As) Wd) (qI A1 P) (xE A1 PX1) mc1 ms1 A1) (cw : CallW R s args own C index y bytes maxL ret ws rm mc1 ms1 n) (hC : cx G A s) (hS : va_S A s.heap H locs) (hAA : ∀ q, A1 q → A q) (hA1 : ∀ q : Nat, H.size ≤ q → A1 q)
    (hr : ∃ cell : Cell, H[b]? = some cell ∧ cell.vm.isStatics = false ∧ s.vm.findClass C = some cell.cls) (hW : Wd H) (hst : st0 = As.reverse ++ .ref b :: rest) (hn : As.length = n) (hl : ls.size = nL) (hrm : (rest.map fun v => v.category).sum ≤ 8) (hf : cells + mc1 ≤ R.cells ∧ slots + ms1 ≤ R.slots) (hdg : decode cc pc = .ok (.invokevirtual index, 3))
    (hnx : ∀ x ∈ c.exceptionTable.toList, False) (hlocks : meth.locks = false) (hc : cells + mc1 ≤ mc) (hs : slots + ms1 ≤ ms) (hPX : ∀ (E : String) (H1 : Heap), PX1 E H1 → kp A1 H H1 → PX E H1)
    (kk : ∀ (r : Int32) (H1 : Heap) (locs1 : List Loc), P r H1 → kp A1 H H1 → va_S A s.heap H1 locs1 → W p l e R s m args below meth c H1 locs1 (cells + mc1) (slots + ms1) (vx_MQ below Qc (xE A PX) args s mc ms A) (F0 m (pc + 3) ls (.int r :: rest))) : W p l e R s m args below meth c H locs cells slots (vx_MQ below Qc (xE A PX) args s mc ms A) (F0 m pc ls st0) := by
  subst hst
  exact vx_calli (vx_runV (As := As) (rest := rest) (g := F0 m pc ls (As.reverse ++ .ref b :: rest)) S hM cw ⟨PC.blind, hr, PC.go hC hS hAA hA1 hW⟩ rfl hn hl rfl (lv_room hrm) hdg hf) hS (fun q _ h => hAA q h) hAA (fun q _ h => hAA q h)
    (fun E ce q9 u t H1 locs1 ht hvm _ hB hz hk hS1 h1 h2 h3 => vx_out (fun x h => (hnx x h).elim) hlocks h1 h2 h3 (fun t9 ht9 _ => xE_wk hS1 ht9 (hPX E H1 (show PX1 E H1 from ht ▸ hB) ⟨hz, hk⟩)) hS1.2.2 hc hs)
    (fun r u t H1 locs1 ht _ hp hB hz hk hS1 => by subst hp; exact kk r H1 locs1 (show P r H1 from ht ▸ hB) ⟨hz, hk⟩ hS1)
theorem xV_S {P : Heap → Prop} (S : CallFix p m c cc nL s args GW own) (hM : vx_Met l y ws rm (PC G A1 As Wd) (qV A1 P) (xE A1 PX1) mc1 ms1 A1) (cw : CallB R s args own index y bytes maxL ret ws rm mc1 ms1 n ∧ (Cond.static y).before args s = true) (hC : cx G A s) (hS : va_S A s.heap H locs) (hAA : ∀ q, A1 q → A q) (hA1 : ∀ q : Nat, H.size ≤ q → A1 q)
    (hW : Wd H) (hst : st0 = As.reverse ++ rest) (hn : As.length = n) (hl : ls.size = nL) (hrm : (rest.map fun v => v.category).sum ≤ 8) (hf : cells + mc1 ≤ R.cells ∧ slots + ms1 ≤ R.slots) (hdg : decode cc pc = .ok (.invokestatic index, 3))
    (hnx : ∀ x ∈ c.exceptionTable.toList, False) (hlocks : meth.locks = false) (hc : cells + mc1 ≤ mc) (hs : slots + ms1 ≤ ms) (hPX : ∀ (E : String) (H1 : Heap), PX1 E H1 → kp A1 H H1 → PX E H1)
    (kk : ∀ (H1 : Heap) (locs1 : List Loc), P H1 → kp A1 H H1 → va_S A s.heap H1 locs1 → W p l e R s m args below meth c H1 locs1 (cells + mc1) (slots + ms1) (vx_MQ below Qc (xE A PX) args s mc ms A) (F0 m (pc + 3) ls rest)) : W p l e R s m args below meth c H locs cells slots (vx_MQ below Qc (xE A PX) args s mc ms A) (F0 m pc ls st0) := by
  subst hst
  exact vx_callv (vx_runS (As := As) (rest := rest) (g := F0 m pc ls (As.reverse ++ rest)) S hM cw ⟨PC.blind, PC.go hC hS hAA hA1 hW⟩ rfl hn hl rfl (lv_room hrm) hdg hf) hS (fun q _ h => hAA q h) hAA (fun q _ h => hAA q h)
    (fun E ce q9 u t H1 locs1 ht hvm _ hB hz hk hS1 h1 h2 h3 => vx_out (fun x h => (hnx x h).elim) hlocks h1 h2 h3 (fun t9 ht9 _ => xE_wk hS1 ht9 (hPX E H1 (show PX1 E H1 from ht ▸ hB) ⟨hz, hk⟩)) hS1.2.2 hc hs)
    (fun u t H1 locs1 ht _ _ hB hz hk hS1 => kk H1 locs1 (show P H1 from ht ▸ hB) ⟨hz, hk⟩ hS1)
theorem xI_S {P : Int32 → Heap → Prop} (S : CallFix p m c cc nL s args GW own) (hM : vx_Met l y ws rm (PC G A1 As Wd) (qI A1 P) (xE A1 PX1) mc1 ms1 A1) (cw : CallB R s args own index y bytes maxL ret ws rm mc1 ms1 n ∧ (Cond.static y).before args s = true) (hC : cx G A s) (hS : va_S A s.heap H locs) (hAA : ∀ q, A1 q → A q) (hA1 : ∀ q : Nat, H.size ≤ q → A1 q)
    (hW : Wd H) (hst : st0 = As.reverse ++ rest) (hn : As.length = n) (hl : ls.size = nL) (hrm : (rest.map fun v => v.category).sum ≤ 8) (hf : cells + mc1 ≤ R.cells ∧ slots + ms1 ≤ R.slots) (hdg : decode cc pc = .ok (.invokestatic index, 3))
    (hnx : ∀ x ∈ c.exceptionTable.toList, False) (hlocks : meth.locks = false) (hc : cells + mc1 ≤ mc) (hs : slots + ms1 ≤ ms) (hPX : ∀ (E : String) (H1 : Heap), PX1 E H1 → kp A1 H H1 → PX E H1)
    (kk : ∀ (r : Int32) (H1 : Heap) (locs1 : List Loc), P r H1 → kp A1 H H1 → va_S A s.heap H1 locs1 → W p l e R s m args below meth c H1 locs1 (cells + mc1) (slots + ms1) (vx_MQ below Qc (xE A PX) args s mc ms A) (F0 m (pc + 3) ls (.int r :: rest))) : W p l e R s m args below meth c H locs cells slots (vx_MQ below Qc (xE A PX) args s mc ms A) (F0 m pc ls st0) := by
  subst hst
  exact vx_calli (vx_runS (As := As) (rest := rest) (g := F0 m pc ls (As.reverse ++ rest)) S hM cw ⟨PC.blind, PC.go hC hS hAA hA1 hW⟩ rfl hn hl rfl (lv_room hrm) hdg hf) hS (fun q _ h => hAA q h) hAA (fun q _ h => hAA q h)
    (fun E ce q9 u t H1 locs1 ht hvm _ hB hz hk hS1 h1 h2 h3 => vx_out (fun x h => (hnx x h).elim) hlocks h1 h2 h3 (fun t9 ht9 _ => xE_wk hS1 ht9 (hPX E H1 (show PX1 E H1 from ht ▸ hB) ⟨hz, hk⟩)) hS1.2.2 hc hs)
    (fun r u t H1 locs1 ht _ hp hB hz hk hS1 => by subst hp; exact kk r H1 locs1 (show P r H1 from ht ▸ hB) ⟨hz, hk⟩ hS1)
/-- a reference, or an exception -/
theorem xcallr {S SX : Type} {H0 : Heap} {A0 AX : Nat → Prop} {Q : State → Prop} {free : Addr → Prop} {a : Array Value} {post : S → Prop} {px : SX → Prop} {B : S → Nat → State → Prop} {BX : String → SX → State → Prop} (hr : vx_Run p l e R s m args below meth c H locs cells slots mc ms (F0 m pc ls st0) rest (va_Qr post B A1 a) (vx_X px BX AX) free) (hS : va_S A0 H0 H locs) (hA : ∀ q, q < H.size → A1 q → A0 q) (hf : ∀ q, free q → A0 q) (hAX : ∀ q, q < H.size → AX q → A0 q)
    (kx : ∀ (E : String) (ce : Cell) (q9 : Addr) (u : SX) (t : State) (H1 : Heap) (locs1 : List Loc), t.heap = H1 → s.vm.Alike t.vm → px u → BX E u t → H.size ≤ H1.size → (∀ q : Nat, q < H.size → ¬ AX q → H1[q]? = H[q]?) → va_S A0 H0 H1 locs1 → H1[q9]? = some ce → ce.vm = .none → s.vm.findClass E = some ce.cls → vx_W p l e R s m args below meth c H1 locs1 (cells + mc) (slots + ms) Q (F0 m pc ls rest) q9)
    (kk : ∀ (u : S) (r : Nat) (t : State) (H1 : Heap) (locs1 : List Loc), t.heap = H1 → s.vm.Alike t.vm → post u → B u r t → H.size ≤ H1.size → (∀ q : Nat, q < H.size → ¬ A1 q → H1[q]? = H[q]?) → va_S A0 H0 H1 locs1 → W p l e R s m args below meth c H1 locs1 (cells + mc) (slots + ms) Q (F0 m (pc + 3) ls (.ref r :: rest))) : W p l e R s m args below meth c H locs cells slots Q (F0 m pc ls st0) := by
  intro T hT X
  rcases hr T hT X with ⟨v, st₀, t, T', L, h0, X', hL, e1, e2, ⟨⟨u, r, hv, hp, hb⟩, hF⟩, st⟩ | ⟨q, st₀, t, T', L, E, ce, h0, X', hL, e1, e2, ⟨u, hp, hb, hF⟩, hce, hcv, hcl, st⟩
  · cases hv
    obtain ⟨k1, k2, k3⟩ := vx_keep h0 e1 hS hA hf hL hF
    obtain ⟨t2, a1, b1⟩ := kk u r t T'.heap (locs ++ L) e1.symm (by rw [← e2]; exact X'.warmed.alike) hp hb k1 k2 k3 T' rfl X'
    exact ⟨t2, st t2 a1, b1⟩
  · obtain ⟨k1, k2, k3⟩ := vx_keep h0 e1 hS hAX hf hL hF
    obtain ⟨t2, a1, b1⟩ := kx E ce q u t T'.heap (locs ++ L) e1.symm (by rw [← e2]; exact X'.warmed.alike) hp hb k1 k2 k3 (by rw [e1]; exact hce) hcv hcl T' rfl X'
    exact ⟨t2, st.trans a1, b1⟩
theorem xR_V {P : Nat → Heap → Prop} (S : CallFix p m c cc nL s args GW own) (hM : vx_Met l y ws rm (PC G A1 (.ref b :: As) Wd) (qR A1 P) (xE A1 PX1) mc1 ms1 A1) (cw : CallW R s args own C index y bytes maxL ret ws rm mc1 ms1 n) (hC : cx G A s) (hS : va_S A s.heap H locs) (hAA : ∀ q, A1 q → A q) (hA1 : ∀ q : Nat, H.size ≤ q → A1 q)
    (hr : ∃ cell : Cell, H[b]? = some cell ∧ cell.vm.isStatics = false ∧ s.vm.findClass C = some cell.cls) (hW : Wd H) (hst : st0 = As.reverse ++ .ref b :: rest) (hn : As.length = n) (hl : ls.size = nL) (hrm : (rest.map fun v => v.category).sum ≤ 8) (hf : cells + mc1 ≤ R.cells ∧ slots + ms1 ≤ R.slots) (hdg : decode cc pc = .ok (.invokevirtual index, 3))
    (hnx : ∀ x ∈ c.exceptionTable.toList, False) (hlocks : meth.locks = false) (hc : cells + mc1 ≤ mc) (hs : slots + ms1 ≤ ms) (hPX : ∀ (E : String) (H1 : Heap), PX1 E H1 → kp A1 H H1 → PX E H1)
    (kk : ∀ (r : Nat) (H1 : Heap) (locs1 : List Loc), P r H1 → kp A1 H H1 → va_S A s.heap H1 locs1 → W p l e R s m args below meth c H1 locs1 (cells + mc1) (slots + ms1) (vx_MQ below Qc (xE A PX) args s mc ms A) (F0 m (pc + 3) ls (.ref r :: rest))) : W p l e R s m args below meth c H locs cells slots (vx_MQ below Qc (xE A PX) args s mc ms A) (F0 m pc ls st0) := by
  subst hst
  exact xcallr (vx_runV (As := As) (rest := rest) (g := F0 m pc ls (As.reverse ++ .ref b :: rest)) S hM cw ⟨PC.blind, hr, PC.go hC hS hAA hA1 hW⟩ rfl hn hl rfl (lv_room hrm) hdg hf) hS (fun q _ h => hAA q h) hAA (fun q _ h => hAA q h)
    (fun E ce q9 u t H1 locs1 ht hvm _ hB hz hk hS1 h1 h2 h3 => vx_out (fun x h => (hnx x h).elim) hlocks h1 h2 h3 (fun t9 ht9 _ => xE_wk hS1 ht9 (hPX E H1 (show PX1 E H1 from ht ▸ hB) ⟨hz, hk⟩)) hS1.2.2 hc hs)
    (fun u r t H1 locs1 ht _ _ hB hz hk hS1 => kk r H1 locs1 (show P r H1 from ht ▸ hB) ⟨hz, hk⟩ hS1)
end XR
end
