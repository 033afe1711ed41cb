/-! The model, 3: Out; more leaves -/
theorem sg_n {x : Int32} (h : x < 0) : sgI x = -1 := if_pos h
theorem sg_p {x : Int32} (h : 0 < x) : sgI x = 1 := by
  unfold sgI
  rw [if_neg (fun q => Int32.lt_irrefl (Int32.lt_trans h q)), if_neg (fun q => by rw [q] at h; exact Int32.lt_irrefl h)]
theorem sg_0 {x : Int32} (h1 : x ≤ 0) (h2 : 0 ≤ x) : sgI x = 0 := by
  have : x = 0 := Int32.le_antisymm h1 h2
  rw [this]; decide
theorem sg_p9 {x : Int32} (h1 : ¬ x = 0) (h2 : 0 ≤ x) : sgI x = 1 := by
  unfold sgI
  rw [if_neg (Int32.not_lt.mpr h2), if_neg h1]
theorem dX3_init_0 : decode cX3_init 0 = .ok (.aload_n 0, 1) := by decide +kernel
theorem dX3_init_1 : decode cX3_init 1 = .ok (.invokespecial 1, 3) := by decide +kernel
theorem dX3_init_4 : decode cX3_init 4 = .ok (.return_, 1) := by decide +kernel
theorem dX4_truth_0 : decode cX4_truth 0 = .ok (.iload_n 0, 1) := by decide +kernel
theorem dX4_truth_1 : decode cX4_truth 1 = .ok (.ifCond .eq 29, 3) := by decide +kernel
theorem dX4_truth_4 : decode cX4_truth 4 = .ok (.iconst 4, 1) := by decide +kernel
theorem dX4_truth_5 : decode cX4_truth 5 = .ok (.newarray .int, 2) := by decide +kernel
theorem dX4_truth_7 : decode cX4_truth 7 = .ok (.dup, 1) := by decide +kernel
theorem dX4_truth_8 : decode cX4_truth 8 = .ok (.iconst 0, 1) := by decide +kernel
theorem dX4_truth_9 : decode cX4_truth 9 = .ok (.bipush 116, 2) := by decide +kernel
theorem dX4_truth_11 : decode cX4_truth 11 = .ok (.iastore, 1) := by decide +kernel
theorem dX4_truth_12 : decode cX4_truth 12 = .ok (.dup, 1) := by decide +kernel
theorem dX4_truth_13 : decode cX4_truth 13 = .ok (.iconst 1, 1) := by decide +kernel
theorem dX4_truth_14 : decode cX4_truth 14 = .ok (.bipush 114, 2) := by decide +kernel
theorem dX4_truth_16 : decode cX4_truth 16 = .ok (.iastore, 1) := by decide +kernel
theorem dX4_truth_17 : decode cX4_truth 17 = .ok (.dup, 1) := by decide +kernel
theorem dX4_truth_18 : decode cX4_truth 18 = .ok (.iconst 2, 1) := by decide +kernel
theorem dX4_truth_19 : decode cX4_truth 19 = .ok (.bipush 117, 2) := by decide +kernel
theorem dX4_truth_21 : decode cX4_truth 21 = .ok (.iastore, 1) := by decide +kernel
theorem dX4_truth_22 : decode cX4_truth 22 = .ok (.dup, 1) := by decide +kernel
theorem dX4_truth_23 : decode cX4_truth 23 = .ok (.iconst 3, 1) := by decide +kernel
theorem dX4_truth_24 : decode cX4_truth 24 = .ok (.bipush 101, 2) := by decide +kernel
theorem dX4_truth_26 : decode cX4_truth 26 = .ok (.iastore, 1) := by decide +kernel
theorem dX4_truth_27 : decode cX4_truth 27 = .ok (.goto 31, 3) := by decide +kernel
theorem dX4_truth_30 : decode cX4_truth 30 = .ok (.iconst 5, 1) := by decide +kernel
theorem dX4_truth_31 : decode cX4_truth 31 = .ok (.newarray .int, 2) := by decide +kernel
theorem dX4_truth_33 : decode cX4_truth 33 = .ok (.dup, 1) := by decide +kernel
theorem dX4_truth_34 : decode cX4_truth 34 = .ok (.iconst 0, 1) := by decide +kernel
theorem dX4_truth_35 : decode cX4_truth 35 = .ok (.bipush 102, 2) := by decide +kernel
theorem dX4_truth_37 : decode cX4_truth 37 = .ok (.iastore, 1) := by decide +kernel
theorem dX4_truth_38 : decode cX4_truth 38 = .ok (.dup, 1) := by decide +kernel
theorem dX4_truth_39 : decode cX4_truth 39 = .ok (.iconst 1, 1) := by decide +kernel
theorem dX4_truth_40 : decode cX4_truth 40 = .ok (.bipush 97, 2) := by decide +kernel
theorem dX4_truth_42 : decode cX4_truth 42 = .ok (.iastore, 1) := by decide +kernel
theorem dX4_truth_43 : decode cX4_truth 43 = .ok (.dup, 1) := by decide +kernel
theorem dX4_truth_44 : decode cX4_truth 44 = .ok (.iconst 2, 1) := by decide +kernel
theorem dX4_truth_45 : decode cX4_truth 45 = .ok (.bipush 108, 2) := by decide +kernel
theorem dX4_truth_47 : decode cX4_truth 47 = .ok (.iastore, 1) := by decide +kernel
theorem dX4_truth_48 : decode cX4_truth 48 = .ok (.dup, 1) := by decide +kernel
theorem dX4_truth_49 : decode cX4_truth 49 = .ok (.iconst 3, 1) := by decide +kernel
theorem dX4_truth_50 : decode cX4_truth 50 = .ok (.bipush 115, 2) := by decide +kernel
theorem dX4_truth_52 : decode cX4_truth 52 = .ok (.iastore, 1) := by decide +kernel
theorem dX4_truth_53 : decode cX4_truth 53 = .ok (.dup, 1) := by decide +kernel
theorem dX4_truth_54 : decode cX4_truth 54 = .ok (.iconst 4, 1) := by decide +kernel
theorem dX4_truth_55 : decode cX4_truth 55 = .ok (.bipush 101, 2) := by decide +kernel
theorem dX4_truth_57 : decode cX4_truth 57 = .ok (.iastore, 1) := by decide +kernel
theorem dX4_truth_58 : decode cX4_truth 58 = .ok (.areturn, 1) := by decide +kernel
theorem dX4_order_0 : decode cX4_order 0 = .ok (.iconst 0, 1) := by decide +kernel
theorem dX4_order_1 : decode cX4_order 1 = .ok (.istore_n 3, 1) := by decide +kernel
theorem dX4_order_2 : decode cX4_order 2 = .ok (.iload_n 3, 1) := by decide +kernel
theorem dX4_order_3 : decode cX4_order 3 = .ok (.aload_n 0, 1) := by decide +kernel
theorem dX4_order_4 : decode cX4_order 4 = .ok (.arraylength, 1) := by decide +kernel
theorem dX4_order_5 : decode cX4_order 5 = .ok (.if_icmp .ge 69, 3) := by decide +kernel
theorem dX4_order_8 : decode cX4_order 8 = .ok (.iload_n 3, 1) := by decide +kernel
theorem dX4_order_9 : decode cX4_order 9 = .ok (.aload_n 1, 1) := by decide +kernel
theorem dX4_order_10 : decode cX4_order 10 = .ok (.arraylength, 1) := by decide +kernel
theorem dX4_order_11 : decode cX4_order 11 = .ok (.if_icmp .ge 63, 3) := by decide +kernel
theorem dX4_order_14 : decode cX4_order 14 = .ok (.iload_n 2, 1) := by decide +kernel
theorem dX4_order_15 : decode cX4_order 15 = .ok (.ifCond .eq 19, 3) := by decide +kernel
theorem dX4_order_18 : decode cX4_order 18 = .ok (.aload_n 0, 1) := by decide +kernel
theorem dX4_order_19 : decode cX4_order 19 = .ok (.iload_n 3, 1) := by decide +kernel
theorem dX4_order_20 : decode cX4_order 20 = .ok (.iaload, 1) := by decide +kernel
theorem dX4_order_21 : decode cX4_order 21 = .ok (.invokestatic 35, 3) := by decide +kernel
theorem dX4_order_24 : decode cX4_order 24 = .ok (.aload_n 1, 1) := by decide +kernel
theorem dX4_order_25 : decode cX4_order 25 = .ok (.iload_n 3, 1) := by decide +kernel
theorem dX4_order_26 : decode cX4_order 26 = .ok (.iaload, 1) := by decide +kernel
theorem dX4_order_27 : decode cX4_order 27 = .ok (.invokestatic 35, 3) := by decide +kernel
theorem dX4_order_30 : decode cX4_order 30 = .ok (.isub, 1) := by decide +kernel
theorem dX4_order_31 : decode cX4_order 31 = .ok (.goto 10, 3) := by decide +kernel
theorem dX4_order_34 : decode cX4_order 34 = .ok (.aload_n 0, 1) := by decide +kernel
theorem dX4_order_35 : decode cX4_order 35 = .ok (.iload_n 3, 1) := by decide +kernel
theorem dX4_order_36 : decode cX4_order 36 = .ok (.iaload, 1) := by decide +kernel
theorem dX4_order_37 : decode cX4_order 37 = .ok (.aload_n 1, 1) := by decide +kernel
theorem dX4_order_38 : decode cX4_order 38 = .ok (.iload_n 3, 1) := by decide +kernel
theorem dX4_order_39 : decode cX4_order 39 = .ok (.iaload, 1) := by decide +kernel
theorem dX4_order_40 : decode cX4_order 40 = .ok (.isub, 1) := by decide +kernel
theorem dX4_order_41 : decode cX4_order 41 = .ok (.istore 4, 2) := by decide +kernel
theorem dX4_order_43 : decode cX4_order 43 = .ok (.iload 4, 2) := by decide +kernel
theorem dX4_order_45 : decode cX4_order 45 = .ok (.ifCond .eq 23, 3) := by decide +kernel
theorem dX4_order_48 : decode cX4_order 48 = .ok (.iload_n 2, 1) := by decide +kernel
theorem dX4_order_49 : decode cX4_order 49 = .ok (.ifCond .eq 16, 3) := by decide +kernel
theorem dX4_order_52 : decode cX4_order 52 = .ok (.iload 4, 2) := by decide +kernel
theorem dX4_order_54 : decode cX4_order 54 = .ok (.ifCond .ge 7, 3) := by decide +kernel
theorem dX4_order_57 : decode cX4_order 57 = .ok (.iconst (-1), 1) := by decide +kernel
theorem dX4_order_58 : decode cX4_order 58 = .ok (.goto 9, 3) := by decide +kernel
theorem dX4_order_61 : decode cX4_order 61 = .ok (.iconst 1, 1) := by decide +kernel
theorem dX4_order_62 : decode cX4_order 62 = .ok (.goto 5, 3) := by decide +kernel
theorem dX4_order_65 : decode cX4_order 65 = .ok (.iload 4, 2) := by decide +kernel
theorem dX4_order_67 : decode cX4_order 67 = .ok (.ireturn, 1) := by decide +kernel
theorem dX4_order_68 : decode cX4_order 68 = .ok (.iinc 3 1, 3) := by decide +kernel
theorem dX4_order_71 : decode cX4_order 71 = .ok (.goto (-69), 3) := by decide +kernel
theorem dX4_order_74 : decode cX4_order 74 = .ok (.aload_n 0, 1) := by decide +kernel
theorem dX4_order_75 : decode cX4_order 75 = .ok (.arraylength, 1) := by decide +kernel
theorem dX4_order_76 : decode cX4_order 76 = .ok (.aload_n 1, 1) := by decide +kernel
theorem dX4_order_77 : decode cX4_order 77 = .ok (.arraylength, 1) := by decide +kernel
theorem dX4_order_78 : decode cX4_order 78 = .ok (.isub, 1) := by decide +kernel
theorem dX4_order_79 : decode cX4_order 79 = .ok (.istore_n 3, 1) := by decide +kernel
theorem dX4_order_80 : decode cX4_order 80 = .ok (.iload_n 2, 1) := by decide +kernel
theorem dX4_order_81 : decode cX4_order 81 = .ok (.ifCond .eq 31, 3) := by decide +kernel
theorem dX4_order_84 : decode cX4_order 84 = .ok (.iload_n 3, 1) := by decide +kernel
theorem dX4_order_85 : decode cX4_order 85 = .ok (.ifCond .le 7, 3) := by decide +kernel
theorem dX4_order_88 : decode cX4_order 88 = .ok (.iconst 1, 1) := by decide +kernel
theorem dX4_order_89 : decode cX4_order 89 = .ok (.goto 4, 3) := by decide +kernel
theorem dX4_order_92 : decode cX4_order 92 = .ok (.iconst 0, 1) := by decide +kernel
theorem dX4_order_93 : decode cX4_order 93 = .ok (.invokestatic 17, 3) := by decide +kernel
theorem dX4_order_96 : decode cX4_order 96 = .ok (.iload_n 3, 1) := by decide +kernel
theorem dX4_order_97 : decode cX4_order 97 = .ok (.ifCond .ge 7, 3) := by decide +kernel
theorem dX4_order_100 : decode cX4_order 100 = .ok (.iconst 1, 1) := by decide +kernel
theorem dX4_order_101 : decode cX4_order 101 = .ok (.goto 4, 3) := by decide +kernel
theorem dX4_order_104 : decode cX4_order 104 = .ok (.iconst 0, 1) := by decide +kernel
theorem dX4_order_105 : decode cX4_order 105 = .ok (.invokestatic 17, 3) := by decide +kernel
theorem dX4_order_108 : decode cX4_order 108 = .ok (.isub, 1) := by decide +kernel
theorem dX4_order_109 : decode cX4_order 109 = .ok (.goto 4, 3) := by decide +kernel
theorem dX4_order_112 : decode cX4_order 112 = .ok (.iload_n 3, 1) := by decide +kernel
theorem dX4_order_113 : decode cX4_order 113 = .ok (.ireturn, 1) := by decide +kernel
abbrev rmX3_init : Room := { frames := 1, cells := 0, slots := 0, locals := 20 }
theorem mX3_init {l : Launch} {G : Cx} {A : Nat → Prop} {a : Nat} {x : Int64} {v : Value} : Met l yX3_init (.code yX3_init cX3_init 1 (none : Option Jvm.ClassFile.FieldType) :: GW) rmX3_init (PC G A [.ref a] (fun H => va_at G.1 vwCl (a, .inr (7, [.long x, v])) H)) (qV A (fun H => va_at G.1 vwCl (a, .inr (7, [.long x, v])) H)) 0 0 (A) := by
  refine mstart "SigntextLaw$Out" (by decide +kernel) rfl (Nat.le_of_ble_eq_true rfl) ?_
  intro p e s m below meth c ls hx hb hr hts hown hml hlocks hname hC hA hW hl
  have hl : lv_has ls 1 [(0, .ref a)] := hl
  have hK := hC.1
  have hS : va_S A s.heap s.heap [] := va_S.rf
  refine lv_aload_n hx hb dX3_init_0 rfl (lv_at hl 0 rfl) ?_
  refine W.objInit hx hb hown (hts _ tw_2_226) (hts _ tw_1_35) (hts _ tw_1_36) rfl (by rw [hml]; exact hl.1) rfl dX3_init_1 (Nat.le_of_ble_eq_true rfl) (Nat.le_of_ble_eq_true rfl) ?_
  refine W.eq (g2 := F0 m 4 ls []) rfl ?_
  exact q_v hx hb hr hlocks dX3_init_4 hS (Nat.le_refl _) (Nat.le_refl _) hW

abbrev rmX4_truth : Room := { frames := 1, cells := 1, slots := 5, locals := 20 }
theorem mX4_truth {l : Launch} {G : Cx} {A : Nat → Prop} {b : Bool} {sz : Nat} : Met l yX4_truth (.code yX4_truth cX4_truth 1 (some (.array .int)) :: GW) rmX4_truth (PC G A [.int (bI b)] (fun H => H.size = sz)) (qR A (fun r H => sz ≤ r ∧ IA0 G r (stx (if b then 7 else 8)) H)) 1 5 (A) := by
  refine mstart "SigntextModel" (by decide +kernel) rfl (Nat.le_of_ble_eq_true rfl) ?_
  intro p e s m below meth c ls hx hb hr hts hown hml hlocks hname hC hA hW hl
  have hl : lv_has ls 1 [(0, .int (bI b))] := hl
  have hK := hC.1
  have hS : va_S A s.heap s.heap [] := va_S.rf
  refine lv_iload_n hx hb dX4_truth_0 rfl (lv_at hl 0 rfl) ?_
  refine f_eq (tgt := 30) hx hb dX4_truth_1 (by decide) (fun c_1 => ?_) (fun c_1 => ?_)
  · subst c_1
    refine lv_iconst (v := nI 5) hx hb dX4_truth_30 (by decide) ?_
    refine h_newa (D := G.1) (atype := .int) (N := 5) (z := (5, .inl (fun _ => 0))) hx hb (hts _ tw_1_70) rfl (fun h => h) hK 0 rfl hS rfl (nI_pos (by omega)) (nI_clamp (by omega)) (show 5 * _ ≤ _ from by show 5 * 4 ≤ 536870912; omega) (Nat.le_trans (show 0 + 1 ≤ 1 by omega) (Nat.le_of_ble_eq_true rfl)) (Nat.le_trans (show 0 + 5 ≤ 5 by omega) (Nat.le_of_ble_eq_true rfl)) dX4_truth_31 (fun na H2 hna hFna z2 o2 hS => ?_)
    have hZ2 := hS.1
    have hMna : A na := hA na (by omega)
    refine lv_dup hx hb dX4_truth_33 rfl ?_
    refine lv_iconst (v := nI 0) hx hb dX4_truth_34 (by decide) ?_
    refine lv_bipush (v := nI 102) hx hb dX4_truth_35 (by decide) ?_
    refine h_ist (D := G.1) hx hb hK 0 hFna rfl hS hMna (vp_in_nI (n := 0) (N := 5) (by omega) (by omega)) dX4_truth_37 (fun H3 L3 hFna z3 o3 hS => ?_)
    rw [nI_clamp (n := 0) (by omega)] at hFna
    have hZ3 := hS.1
    refine lv_dup hx hb dX4_truth_38 rfl ?_
    refine lv_iconst (v := nI 1) hx hb dX4_truth_39 (by decide) ?_
    refine lv_bipush (v := nI 97) hx hb dX4_truth_40 (by decide) ?_
    refine h_ist (D := G.1) hx hb hK 0 hFna rfl hS hMna (vp_in_nI (n := 1) (N := 5) (by omega) (by omega)) dX4_truth_42 (fun H4 L4 hFna z4 o4 hS => ?_)
    rw [nI_clamp (n := 1) (by omega)] at hFna
    have hZ4 := hS.1
    refine lv_dup hx hb dX4_truth_43 rfl ?_
    refine lv_iconst (v := nI 2) hx hb dX4_truth_44 (by decide) ?_
    refine lv_bipush (v := nI 108) hx hb dX4_truth_45 (by decide) ?_
    refine h_ist (D := G.1) hx hb hK 0 hFna rfl hS hMna (vp_in_nI (n := 2) (N := 5) (by omega) (by omega)) dX4_truth_47 (fun H5 L5 hFna z5 o5 hS => ?_)
    rw [nI_clamp (n := 2) (by omega)] at hFna
    have hZ5 := hS.1
    refine lv_dup hx hb dX4_truth_48 rfl ?_
    refine lv_iconst (v := nI 3) hx hb dX4_truth_49 (by decide) ?_
    refine lv_bipush (v := nI 115) hx hb dX4_truth_50 (by decide) ?_
    refine h_ist (D := G.1) hx hb hK 0 hFna rfl hS hMna (vp_in_nI (n := 3) (N := 5) (by omega) (by omega)) dX4_truth_52 (fun H6 L6 hFna z6 o6 hS => ?_)
    rw [nI_clamp (n := 3) (by omega)] at hFna
    have hZ6 := hS.1
    refine lv_dup hx hb dX4_truth_53 rfl ?_
    refine lv_iconst (v := nI 4) hx hb dX4_truth_54 (by decide) ?_
    refine lv_bipush (v := nI 101) hx hb dX4_truth_55 (by decide) ?_
    refine h_ist (D := G.1) hx hb hK 0 hFna rfl hS hMna (vp_in_nI (n := 4) (N := 5) (by omega) (by omega)) dX4_truth_57 (fun H7 L7 hFna z7 o7 hS => ?_)
    rw [nI_clamp (n := 4) (by omega)] at hFna
    have hZ7 := hS.1
    exact q_a hx hb hr (Or.inr ⟨_, rfl⟩) hlocks dX4_truth_58 hS (by omega) (by omega) ⟨by omega, IA0.mk hFna rfl (fun j hj => match j, hj with | 0, _ => rfl | 1, _ => rfl | 2, _ => rfl | 3, _ => rfl | 4, _ => rfl)⟩
  · subst c_1
    refine lv_iconst (v := nI 4) hx hb dX4_truth_4 (by decide) ?_
    refine h_newa (D := G.1) (atype := .int) (N := 4) (z := (4, .inl (fun _ => 0))) hx hb (hts _ tw_1_70) rfl (fun h => h) hK 0 rfl hS rfl (nI_pos (by omega)) (nI_clamp (by omega)) (show 4 * _ ≤ _ from by show 4 * 4 ≤ 536870912; omega) (Nat.le_trans (show 0 + 1 ≤ 1 by omega) (Nat.le_of_ble_eq_true rfl)) (Nat.le_trans (show 0 + 4 ≤ 5 by omega) (Nat.le_of_ble_eq_true rfl)) dX4_truth_5 (fun na H8 hna hFna z8 o8 hS => ?_)
    have hZ8 := hS.1
    have hMna : A na := hA na (by omega)
    refine lv_dup hx hb dX4_truth_7 rfl ?_
    refine lv_iconst (v := nI 0) hx hb dX4_truth_8 (by decide) ?_
    refine lv_bipush (v := nI 116) hx hb dX4_truth_9 (by decide) ?_
    refine h_ist (D := G.1) hx hb hK 0 hFna rfl hS hMna (vp_in_nI (n := 0) (N := 4) (by omega) (by omega)) dX4_truth_11 (fun H9 L9 hFna z9 o9 hS => ?_)
    rw [nI_clamp (n := 0) (by omega)] at hFna
    have hZ9 := hS.1
    refine lv_dup hx hb dX4_truth_12 rfl ?_
    refine lv_iconst (v := nI 1) hx hb dX4_truth_13 (by decide) ?_
    refine lv_bipush (v := nI 114) hx hb dX4_truth_14 (by decide) ?_
    refine h_ist (D := G.1) hx hb hK 0 hFna rfl hS hMna (vp_in_nI (n := 1) (N := 4) (by omega) (by omega)) dX4_truth_16 (fun H10 L10 hFna z10 o10 hS => ?_)
    rw [nI_clamp (n := 1) (by omega)] at hFna
    have hZ10 := hS.1
    refine lv_dup hx hb dX4_truth_17 rfl ?_
    refine lv_iconst (v := nI 2) hx hb dX4_truth_18 (by decide) ?_
    refine lv_bipush (v := nI 117) hx hb dX4_truth_19 (by decide) ?_
    refine h_ist (D := G.1) hx hb hK 0 hFna rfl hS hMna (vp_in_nI (n := 2) (N := 4) (by omega) (by omega)) dX4_truth_21 (fun H11 L11 hFna z11 o11 hS => ?_)
    rw [nI_clamp (n := 2) (by omega)] at hFna
    have hZ11 := hS.1
    refine lv_dup hx hb dX4_truth_22 rfl ?_
    refine lv_iconst (v := nI 3) hx hb dX4_truth_23 (by decide) ?_
    refine lv_bipush (v := nI 101) hx hb dX4_truth_24 (by decide) ?_
    refine h_ist (D := G.1) hx hb hK 0 hFna rfl hS hMna (vp_in_nI (n := 3) (N := 4) (by omega) (by omega)) dX4_truth_26 (fun H12 L12 hFna z12 o12 hS => ?_)
    rw [nI_clamp (n := 3) (by omega)] at hFna
    have hZ12 := hS.1
    refine lv_goto (tgt := 58) hx hb dX4_truth_27 (by decide) ?_
    exact q_a hx hb hr (Or.inr ⟨_, rfl⟩) hlocks dX4_truth_58 hS (by omega) (by omega) ⟨by omega, IA0.mk hFna rfl (fun j hj => match j, hj with | 0, _ => rfl | 1, _ => rfl | 2, _ => rfl | 3, _ => rfl)⟩

abbrev rmX4_order : Room := { frames := 1, cells := 0, slots := 0, locals := 20 }
theorem mX4_order {l : Launch} {G : Cx} {A : Nat → Prop} {a b : Nat} {t u : List Nat} {b0 : Bool} (tok : okc t) (uok : okc u) (t61 : t.length ≤ 61) (u61 : u.length ≤ 61) : Met l yX4_order (.code yX4_order cX4_order 5 (some .int) :: GW) rmX4_order (PC G A [.ref a, .ref b, .int (bI b0)] (fun H => IA G a t H ∧ IA G b u H)) (vp_Si (fun r => ∃ o9, ordR b0 t u o9 ∧ r = if b0 then sgI o9 else o9)) 0 0 (fun _ => False) := by
  refine mstart "SigntextModel" (by decide +kernel) rfl (Nat.le_of_ble_eq_true rfl) ?_
  intro p e s m below meth c ls hx hb hr hts hown hml hlocks hname hC hA hW hl
  have hl : lv_has ls 5 [(0, .ref a), (1, .ref b), (2, .int (bI b0))] := hl
  have hK := hC.1
  have hS : va_S A s.heap s.heap [] := va_S.rf
  obtain ⟨hI, hJ⟩ := hW
  refine lv_iconst (v := nI 0) hx hb dX4_order_0 (by decide) ?_
  refine lv_istore_n (lv' := [(3, .int (nI 0)), (0, .ref a), (1, .ref b), (2, .int (bI b0))]) hx hb dX4_order_1 rfl hl (by decide) rfl (fun ls hl => ?_)
  refine nloop (P := fun j => ∀ (ls : Array Slot) , lv_has ls 5 [(3, .int (nI j)), (0, .ref a), (1, .ref b), (2, .int (bI b0))] → (∀ k : Nat, k < j → k < u.length → viewN b0 (t.getD k 0) = viewN b0 (u.getD k 0)) → W p l e rmX4_order s m [.ref a, .ref b, .int (bI b0)].toArray below meth c s.heap [] 0 0 (MQ below (vp_Si (fun r => ∃ o9, ordR b0 t u o9 ∧ r = if b0 then sgI o9 else o9)) [.ref a, .ref b, .int (bI b0)].toArray s 0 0 (fun _ => False)) (F0 m 2 ls [])) t.length ?_ 0 (Nat.zero_le _) ls  hl (fun k hk => absurd hk (Nat.not_lt_zero k))
  clear hl
  intro j hj ih ls  hl
  intro hg
  refine lv_iload_n hx hb dX4_order_2 rfl (lv_at hl 0 rfl) ?_
  refine lv_aload_n hx hb dX4_order_3 rfl (lv_at hl 1 rfl) ?_
  refine h_ilen hx hb hC.2.1 hI dX4_order_4 ?_
  refine b_ge (tgt := 74) hx hb dX4_order_5 (by decide) (by omega) (by omega) (fun c_13 => ?_) (fun c_13 => ?_)
  · have hO9 : ordR b0 t u (nI t.length - nI u.length) := Or.inr ⟨(fun k h1 h2 => hg k (by omega) h2), rfl⟩
    refine lv_aload_n hx hb dX4_order_74 rfl (lv_at hl 1 rfl) ?_
    refine h_ilen hx hb hC.2.1 hI dX4_order_75 ?_
    refine lv_aload_n hx hb dX4_order_76 rfl (lv_at hl 2 rfl) ?_
    refine h_ilen hx hb hC.2.1 hJ dX4_order_77 ?_
    refine lv_isub hx hb dX4_order_78 ?_
    refine lv_istore_n (lv' := [(3, .int (nI t.length - nI u.length)), (0, .ref a), (1, .ref b), (2, .int (bI b0))]) hx hb dX4_order_79 rfl hl (by decide) rfl (fun ls hl => ?_)
    refine lv_iload_n hx hb dX4_order_80 rfl (lv_at hl 3 rfl) ?_
    refine f_eq (tgt := 112) hx hb dX4_order_81 (by decide) (fun c_14 => ?_) (fun c_14 => ?_)
    · subst c_14
      refine lv_iload_n hx hb dX4_order_112 rfl (lv_at hl 0 rfl) ?_
      exact p_i hx hb hr hlocks dX4_order_113 ⟨_, hO9, rfl⟩
    · subst c_14
      generalize nI t.length - nI u.length = d9 at hl hO9
      refine lv_iload_n hx hb dX4_order_84 rfl (lv_at hl 0 rfl) ?_
      refine lv_if_le (tgt := 92) hx hb dX4_order_85 (by decide) (fun c_15 => ?_) (fun c_15 => ?_)
      · refine lv_iconst (v := nI 0) hx hb dX4_order_92 (by decide) ?_
        refine kS_i (A := A) (As := [.int (bI false)]) (rest := []) ⟨hx, hb, hml, hown, hts⟩ (mX4_one (A := A) ) (va_cwS 1 hts (gS tw_5_26 tw_5_27 tw_1_8 tw_5_28) rfl rfl rfl (by decide +kernel) ⟨Nat.le_of_ble_eq_true rfl, Nat.le_of_ble_eq_true rfl⟩) hC hS hA  trivial rfl rfl hl.1 (Nat.le_of_ble_eq_true rfl) ⟨Nat.zero_le _, Nat.zero_le _⟩ dX4_order_93 (fun r9 h9 => lv_cv h9 ?_)
        refine lv_iload_n hx hb dX4_order_96 rfl (lv_at hl 0 rfl) ?_
        refine lv_if_ge (tgt := 104) hx hb dX4_order_97 (by decide) (fun c_16 => ?_) (fun c_16 => ?_)
        · refine lv_iconst (v := nI 0) hx hb dX4_order_104 (by decide) ?_
          refine kS_i (A := A) (As := [.int (bI false)]) (rest := .int (bI false) :: []) ⟨hx, hb, hml, hown, hts⟩ (mX4_one (A := A) ) (va_cwS 1 hts (gS tw_5_26 tw_5_27 tw_1_8 tw_5_28) rfl rfl rfl (by decide +kernel) ⟨Nat.le_of_ble_eq_true rfl, Nat.le_of_ble_eq_true rfl⟩) hC hS hA  trivial rfl rfl hl.1 (Nat.le_of_ble_eq_true rfl) ⟨Nat.zero_le _, Nat.zero_le _⟩ dX4_order_105 (fun r9 h9 => lv_cv h9 ?_)
          refine lv_isub hx hb dX4_order_108 ?_
          refine lv_goto (tgt := 113) hx hb dX4_order_109 (by decide) ?_
          exact p_i hx hb hr hlocks dX4_order_113 ⟨_, hO9, (show _ = sgI d9 from (sg_0 c_15 c_16).symm)⟩
        · refine lv_iconst (v := nI 1) hx hb dX4_order_100 (by decide) ?_
          refine lv_goto (tgt := 105) hx hb dX4_order_101 (by decide) ?_
          refine kS_i (A := A) (As := [.int (bI true)]) (rest := .int (bI false) :: []) ⟨hx, hb, hml, hown, hts⟩ (mX4_one (A := A) ) (va_cwS 1 hts (gS tw_5_26 tw_5_27 tw_1_8 tw_5_28) rfl rfl rfl (by decide +kernel) ⟨Nat.le_of_ble_eq_true rfl, Nat.le_of_ble_eq_true rfl⟩) hC hS hA  trivial rfl rfl hl.1 (Nat.le_of_ble_eq_true rfl) ⟨Nat.zero_le _, Nat.zero_le _⟩ dX4_order_105 (fun r9 h9 => lv_cv h9 ?_)
          refine lv_isub hx hb dX4_order_108 ?_
          refine lv_goto (tgt := 113) hx hb dX4_order_109 (by decide) ?_
          exact p_i hx hb hr hlocks dX4_order_113 ⟨_, hO9, (show _ = sgI d9 from (sg_n (Int32.not_le.mp c_16)).symm)⟩
      · refine lv_iconst (v := nI 1) hx hb dX4_order_88 (by decide) ?_
        refine lv_goto (tgt := 93) hx hb dX4_order_89 (by decide) ?_
        refine kS_i (A := A) (As := [.int (bI true)]) (rest := []) ⟨hx, hb, hml, hown, hts⟩ (mX4_one (A := A) ) (va_cwS 1 hts (gS tw_5_26 tw_5_27 tw_1_8 tw_5_28) rfl rfl rfl (by decide +kernel) ⟨Nat.le_of_ble_eq_true rfl, Nat.le_of_ble_eq_true rfl⟩) hC hS hA  trivial rfl rfl hl.1 (Nat.le_of_ble_eq_true rfl) ⟨Nat.zero_le _, Nat.zero_le _⟩ dX4_order_93 (fun r9 h9 => lv_cv h9 ?_)
        refine lv_iload_n hx hb dX4_order_96 rfl (lv_at hl 0 rfl) ?_
        refine lv_if_ge (tgt := 104) hx hb dX4_order_97 (by decide) (fun c_17 => ?_) (fun c_17 => ?_)
        · refine lv_iconst (v := nI 0) hx hb dX4_order_104 (by decide) ?_
          refine kS_i (A := A) (As := [.int (bI false)]) (rest := .int (bI true) :: []) ⟨hx, hb, hml, hown, hts⟩ (mX4_one (A := A) ) (va_cwS 1 hts (gS tw_5_26 tw_5_27 tw_1_8 tw_5_28) rfl rfl rfl (by decide +kernel) ⟨Nat.le_of_ble_eq_true rfl, Nat.le_of_ble_eq_true rfl⟩) hC hS hA  trivial rfl rfl hl.1 (Nat.le_of_ble_eq_true rfl) ⟨Nat.zero_le _, Nat.zero_le _⟩ dX4_order_105 (fun r9 h9 => lv_cv h9 ?_)
          refine lv_isub hx hb dX4_order_108 ?_
          refine lv_goto (tgt := 113) hx hb dX4_order_109 (by decide) ?_
          exact p_i hx hb hr hlocks dX4_order_113 ⟨_, hO9, (show _ = sgI d9 from (sg_p (Int32.not_le.mp c_15)).symm)⟩
        · refine lv_iconst (v := nI 1) hx hb dX4_order_100 (by decide) ?_
          refine lv_goto (tgt := 105) hx hb dX4_order_101 (by decide) ?_
          refine kS_i (A := A) (As := [.int (bI true)]) (rest := .int (bI true) :: []) ⟨hx, hb, hml, hown, hts⟩ (mX4_one (A := A) ) (va_cwS 1 hts (gS tw_5_26 tw_5_27 tw_1_8 tw_5_28) rfl rfl rfl (by decide +kernel) ⟨Nat.le_of_ble_eq_true rfl, Nat.le_of_ble_eq_true rfl⟩) hC hS hA  trivial rfl rfl hl.1 (Nat.le_of_ble_eq_true rfl) ⟨Nat.zero_le _, Nat.zero_le _⟩ dX4_order_105 (fun r9 h9 => lv_cv h9 ?_)
          refine lv_isub hx hb dX4_order_108 ?_
          refine lv_goto (tgt := 113) hx hb dX4_order_109 (by decide) ?_
          exact absurd (Int32.not_le.mp c_15) (fun q => Int32.lt_irrefl (Int32.lt_trans q (Int32.not_le.mp c_17)))
  · refine lv_iload_n hx hb dX4_order_8 rfl (lv_at hl 0 rfl) ?_
    refine lv_aload_n hx hb dX4_order_9 rfl (lv_at hl 2 rfl) ?_
    refine h_ilen hx hb hC.2.1 hJ dX4_order_10 ?_
    refine b_ge (tgt := 74) hx hb dX4_order_11 (by decide) (by omega) (by omega) (fun c_18 => ?_) (fun c_18 => ?_)
    · have hO9 : ordR b0 t u (nI t.length - nI u.length) := Or.inr ⟨(fun k h1 h2 => hg k (by omega) h2), rfl⟩
      refine lv_aload_n hx hb dX4_order_74 rfl (lv_at hl 1 rfl) ?_
      refine h_ilen hx hb hC.2.1 hI dX4_order_75 ?_
      refine lv_aload_n hx hb dX4_order_76 rfl (lv_at hl 2 rfl) ?_
      refine h_ilen hx hb hC.2.1 hJ dX4_order_77 ?_
      refine lv_isub hx hb dX4_order_78 ?_
      refine lv_istore_n (lv' := [(3, .int (nI t.length - nI u.length)), (0, .ref a), (1, .ref b), (2, .int (bI b0))]) hx hb dX4_order_79 rfl hl (by decide) rfl (fun ls hl => ?_)
      refine lv_iload_n hx hb dX4_order_80 rfl (lv_at hl 3 rfl) ?_
      refine f_eq (tgt := 112) hx hb dX4_order_81 (by decide) (fun c_19 => ?_) (fun c_19 => ?_)
      · subst c_19
        refine lv_iload_n hx hb dX4_order_112 rfl (lv_at hl 0 rfl) ?_
        exact p_i hx hb hr hlocks dX4_order_113 ⟨_, hO9, rfl⟩
      · subst c_19
        generalize nI t.length - nI u.length = d9 at hl hO9
        refine lv_iload_n hx hb dX4_order_84 rfl (lv_at hl 0 rfl) ?_
        refine lv_if_le (tgt := 92) hx hb dX4_order_85 (by decide) (fun c_20 => ?_) (fun c_20 => ?_)
        · refine lv_iconst (v := nI 0) hx hb dX4_order_92 (by decide) ?_
          refine kS_i (A := A) (As := [.int (bI false)]) (rest := []) ⟨hx, hb, hml, hown, hts⟩ (mX4_one (A := A) ) (va_cwS 1 hts (gS tw_5_26 tw_5_27 tw_1_8 tw_5_28) rfl rfl rfl (by decide +kernel) ⟨Nat.le_of_ble_eq_true rfl, Nat.le_of_ble_eq_true rfl⟩) hC hS hA  trivial rfl rfl hl.1 (Nat.le_of_ble_eq_true rfl) ⟨Nat.zero_le _, Nat.zero_le _⟩ dX4_order_93 (fun r9 h9 => lv_cv h9 ?_)
          refine lv_iload_n hx hb dX4_order_96 rfl (lv_at hl 0 rfl) ?_
          refine lv_if_ge (tgt := 104) hx hb dX4_order_97 (by decide) (fun c_21 => ?_) (fun c_21 => ?_)
          · refine lv_iconst (v := nI 0) hx hb dX4_order_104 (by decide) ?_
            refine kS_i (A := A) (As := [.int (bI false)]) (rest := .int (bI false) :: []) ⟨hx, hb, hml, hown, hts⟩ (mX4_one (A := A) ) (va_cwS 1 hts (gS tw_5_26 tw_5_27 tw_1_8 tw_5_28) rfl rfl rfl (by decide +kernel) ⟨Nat.le_of_ble_eq_true rfl, Nat.le_of_ble_eq_true rfl⟩) hC hS hA  trivial rfl rfl hl.1 (Nat.le_of_ble_eq_true rfl) ⟨Nat.zero_le _, Nat.zero_le _⟩ dX4_order_105 (fun r9 h9 => lv_cv h9 ?_)
            refine lv_isub hx hb dX4_order_108 ?_
            refine lv_goto (tgt := 113) hx hb dX4_order_109 (by decide) ?_
            exact p_i hx hb hr hlocks dX4_order_113 ⟨_, hO9, (show _ = sgI d9 from (sg_0 c_20 c_21).symm)⟩
          · refine lv_iconst (v := nI 1) hx hb dX4_order_100 (by decide) ?_
            refine lv_goto (tgt := 105) hx hb dX4_order_101 (by decide) ?_
            refine kS_i (A := A) (As := [.int (bI true)]) (rest := .int (bI false) :: []) ⟨hx, hb, hml, hown, hts⟩ (mX4_one (A := A) ) (va_cwS 1 hts (gS tw_5_26 tw_5_27 tw_1_8 tw_5_28) rfl rfl rfl (by decide +kernel) ⟨Nat.le_of_ble_eq_true rfl, Nat.le_of_ble_eq_true rfl⟩) hC hS hA  trivial rfl rfl hl.1 (Nat.le_of_ble_eq_true rfl) ⟨Nat.zero_le _, Nat.zero_le _⟩ dX4_order_105 (fun r9 h9 => lv_cv h9 ?_)
            refine lv_isub hx hb dX4_order_108 ?_
            refine lv_goto (tgt := 113) hx hb dX4_order_109 (by decide) ?_
            exact p_i hx hb hr hlocks dX4_order_113 ⟨_, hO9, (show _ = sgI d9 from (sg_n (Int32.not_le.mp c_21)).symm)⟩
        · refine lv_iconst (v := nI 1) hx hb dX4_order_88 (by decide) ?_
          refine lv_goto (tgt := 93) hx hb dX4_order_89 (by decide) ?_
          refine kS_i (A := A) (As := [.int (bI true)]) (rest := []) ⟨hx, hb, hml, hown, hts⟩ (mX4_one (A := A) ) (va_cwS 1 hts (gS tw_5_26 tw_5_27 tw_1_8 tw_5_28) rfl rfl rfl (by decide +kernel) ⟨Nat.le_of_ble_eq_true rfl, Nat.le_of_ble_eq_true rfl⟩) hC hS hA  trivial rfl rfl hl.1 (Nat.le_of_ble_eq_true rfl) ⟨Nat.zero_le _, Nat.zero_le _⟩ dX4_order_93 (fun r9 h9 => lv_cv h9 ?_)
          refine lv_iload_n hx hb dX4_order_96 rfl (lv_at hl 0 rfl) ?_
          refine lv_if_ge (tgt := 104) hx hb dX4_order_97 (by decide) (fun c_22 => ?_) (fun c_22 => ?_)
          · refine lv_iconst (v := nI 0) hx hb dX4_order_104 (by decide) ?_
            refine kS_i (A := A) (As := [.int (bI false)]) (rest := .int (bI true) :: []) ⟨hx, hb, hml, hown, hts⟩ (mX4_one (A := A) ) (va_cwS 1 hts (gS tw_5_26 tw_5_27 tw_1_8 tw_5_28) rfl rfl rfl (by decide +kernel) ⟨Nat.le_of_ble_eq_true rfl, Nat.le_of_ble_eq_true rfl⟩) hC hS hA  trivial rfl rfl hl.1 (Nat.le_of_ble_eq_true rfl) ⟨Nat.zero_le _, Nat.zero_le _⟩ dX4_order_105 (fun r9 h9 => lv_cv h9 ?_)
            refine lv_isub hx hb dX4_order_108 ?_
            refine lv_goto (tgt := 113) hx hb dX4_order_109 (by decide) ?_
            exact p_i hx hb hr hlocks dX4_order_113 ⟨_, hO9, (show _ = sgI d9 from (sg_p (Int32.not_le.mp c_20)).symm)⟩
          · refine lv_iconst (v := nI 1) hx hb dX4_order_100 (by decide) ?_
            refine lv_goto (tgt := 105) hx hb dX4_order_101 (by decide) ?_
            refine kS_i (A := A) (As := [.int (bI true)]) (rest := .int (bI true) :: []) ⟨hx, hb, hml, hown, hts⟩ (mX4_one (A := A) ) (va_cwS 1 hts (gS tw_5_26 tw_5_27 tw_1_8 tw_5_28) rfl rfl rfl (by decide +kernel) ⟨Nat.le_of_ble_eq_true rfl, Nat.le_of_ble_eq_true rfl⟩) hC hS hA  trivial rfl rfl hl.1 (Nat.le_of_ble_eq_true rfl) ⟨Nat.zero_le _, Nat.zero_le _⟩ dX4_order_105 (fun r9 h9 => lv_cv h9 ?_)
            refine lv_isub hx hb dX4_order_108 ?_
            refine lv_goto (tgt := 113) hx hb dX4_order_109 (by decide) ?_
            exact absurd (Int32.not_le.mp c_20) (fun q => Int32.lt_irrefl (Int32.lt_trans q (Int32.not_le.mp c_22)))
    · have v1 := tok j
      have v2 := uok j
      have w1 : litN (t.getD j 0) < 300 := viewN_lt (b := true) v1
      have w2 : litN (u.getD j 0) < 300 := viewN_lt (b := true) v2
      have y1 := viewN_lt (b := false) v1
      have y2 := viewN_lt (b := false) v2
      have y3 := viewN_lt (b := true) v1
      have y4 := viewN_lt (b := true) v2
      refine lv_iload_n hx hb dX4_order_14 rfl (lv_at hl 3 rfl) ?_
      refine f_eq (tgt := 34) hx hb dX4_order_15 (by decide) (fun c_23 => ?_) (fun c_23 => ?_)
      · subst c_23
        refine lv_aload_n hx hb dX4_order_34 rfl (lv_at hl 1 rfl) ?_
        refine lv_iload_n hx hb dX4_order_35 rfl (lv_at hl 0 rfl) ?_
        refine h_ild hx hb hC.2.1 hI (i := j) (by omega) (by omega) dX4_order_36 ?_
        refine lv_aload_n hx hb dX4_order_37 rfl (lv_at hl 2 rfl) ?_
        refine lv_iload_n hx hb dX4_order_38 rfl (lv_at hl 0 rfl) ?_
        refine h_ild hx hb hC.2.1 hJ (i := j) (by omega) (by omega) dX4_order_39 ?_
        refine lv_isub hx hb dX4_order_40 ?_
        refine lv_istore (lv' := [(4, .int (nI (t.getD j 0) - nI (u.getD j 0))), (3, .int (nI j)), (0, .ref a), (1, .ref b), (2, .int (bI false))]) hx hb dX4_order_41 hl (by decide) rfl (fun ls hl => ?_)
        refine lv_iload hx hb dX4_order_43 (lv_at hl 0 rfl) ?_
        refine lv_if_eq (tgt := 68) hx hb dX4_order_45 (by decide) (fun c_24 => ?_) (fun c_24 => ?_)
        · refine lv_iinc (v := nI (j + 1)) (lv' := [(3, .int (nI (j + 1))), (4, .int (nI (t.getD j 0) - nI (u.getD j 0))), (0, .ref a), (1, .ref b), (2, .int (bI false))]) hx hb dX4_order_68 hl (k := 1) rfl (nI_add j 1) (by decide) rfl (fun ls hl => ?_)
          refine lv_goto (tgt := 2) hx hb dX4_order_71 (by decide) ?_
          exact ih (j + 1) (by omega) (by omega) ls (lv_sub hl [0, 2, 3, 4] rfl) (fun k hk h2 => by rcases Nat.lt_succ_iff_lt_or_eq.mp hk with q | q; exact hg k q h2; rw [q]; exact (subI_0 (by omega) (by omega)).mp c_24)
        · have hO9 : ordR false t u (nI (t.getD j 0) - nI (u.getD j 0)) := Or.inl ⟨j, by omega, by omega, fun k h1 => hg k h1 (by omega), fun q => c_24 ((subI_0 (by omega) (by omega)).mpr q), rfl⟩
          refine lv_iload_n hx hb dX4_order_48 rfl (lv_at hl 4 rfl) ?_
          refine f_eq (tgt := 65) hx hb dX4_order_49 (by decide) (fun c_25 => ?_) (fun c_25 => ?_)
          · refine lv_iload hx hb dX4_order_65 (lv_at hl 0 rfl) ?_
            exact p_i hx hb hr hlocks dX4_order_67 ⟨_, hO9, rfl⟩
          · exact Bool.noConfusion c_25
      · subst c_23
        refine lv_aload_n hx hb dX4_order_18 rfl (lv_at hl 1 rfl) ?_
        refine lv_iload_n hx hb dX4_order_19 rfl (lv_at hl 0 rfl) ?_
        refine h_ild hx hb hC.2.1 hI (i := j) (by omega) (by omega) dX4_order_20 ?_
        refine kS_i (A := A) (As := [.int (nI (t.getD j 0))]) (rest := []) ⟨hx, hb, hml, hown, hts⟩ (mX4_little (A := A) v1) (va_cwS 1 hts (gS tw_6_178 tw_6_179 tw_1_8 tw_6_180) rfl rfl rfl (by decide +kernel) ⟨Nat.le_of_ble_eq_true rfl, Nat.le_of_ble_eq_true rfl⟩) hC hS hA  trivial rfl rfl hl.1 (Nat.le_of_ble_eq_true rfl) ⟨Nat.zero_le _, Nat.zero_le _⟩ dX4_order_21 (fun r9 h9 => lv_cv h9 ?_)
        refine lv_aload_n hx hb dX4_order_24 rfl (lv_at hl 2 rfl) ?_
        refine lv_iload_n hx hb dX4_order_25 rfl (lv_at hl 0 rfl) ?_
        refine h_ild hx hb hC.2.1 hJ (i := j) (by omega) (by omega) dX4_order_26 ?_
        refine kS_i (A := A) (As := [.int (nI (u.getD j 0))]) (rest := .int (nI (litN (t.getD j 0))) :: []) ⟨hx, hb, hml, hown, hts⟩ (mX4_little (A := A) v2) (va_cwS 1 hts (gS tw_6_178 tw_6_179 tw_1_8 tw_6_180) rfl rfl rfl (by decide +kernel) ⟨Nat.le_of_ble_eq_true rfl, Nat.le_of_ble_eq_true rfl⟩) hC hS hA  trivial rfl rfl hl.1 (Nat.le_of_ble_eq_true rfl) ⟨Nat.zero_le _, Nat.zero_le _⟩ dX4_order_27 (fun r9 h9 => lv_cv h9 ?_)
        refine lv_isub hx hb dX4_order_30 ?_
        refine lv_goto (tgt := 41) hx hb dX4_order_31 (by decide) ?_
        refine lv_istore (lv' := [(4, .int (nI (litN (t.getD j 0)) - nI (litN (u.getD j 0)))), (3, .int (nI j)), (0, .ref a), (1, .ref b), (2, .int (bI true))]) hx hb dX4_order_41 hl (by decide) rfl (fun ls hl => ?_)
        refine lv_iload hx hb dX4_order_43 (lv_at hl 0 rfl) ?_
        refine lv_if_eq (tgt := 68) hx hb dX4_order_45 (by decide) (fun c_26 => ?_) (fun c_26 => ?_)
        · refine lv_iinc (v := nI (j + 1)) (lv' := [(3, .int (nI (j + 1))), (4, .int (nI (litN (t.getD j 0)) - nI (litN (u.getD j 0)))), (0, .ref a), (1, .ref b), (2, .int (bI true))]) hx hb dX4_order_68 hl (k := 1) rfl (nI_add j 1) (by decide) rfl (fun ls hl => ?_)
          refine lv_goto (tgt := 2) hx hb dX4_order_71 (by decide) ?_
          exact ih (j + 1) (by omega) (by omega) ls (lv_sub hl [0, 2, 3, 4] rfl) (fun k hk h2 => by rcases Nat.lt_succ_iff_lt_or_eq.mp hk with q | q; exact hg k q h2; rw [q]; exact (subI_0 (by omega) (by omega)).mp c_26)
        · have hO9 : ordR true t u (nI (litN (t.getD j 0)) - nI (litN (u.getD j 0))) := Or.inl ⟨j, by omega, by omega, fun k h1 => hg k h1 (by omega), fun q => c_26 ((subI_0 (by omega) (by omega)).mpr q), rfl⟩
          refine lv_iload_n hx hb dX4_order_48 rfl (lv_at hl 4 rfl) ?_
          refine f_eq (tgt := 65) hx hb dX4_order_49 (by decide) (fun c_27 => ?_) (fun c_27 => ?_)
          · exact Bool.noConfusion c_27
          · refine lv_iload hx hb dX4_order_52 (lv_at hl 0 rfl) ?_
            refine lv_if_ge (tgt := 61) hx hb dX4_order_54 (by decide) (fun c_28 => ?_) (fun c_28 => ?_)
            · refine lv_iconst (v := nI 1) hx hb dX4_order_61 (by decide) ?_
              refine lv_goto (tgt := 67) hx hb dX4_order_62 (by decide) ?_
              exact p_i hx hb hr hlocks dX4_order_67 ⟨_, hO9, (show _ = sgI _ from (sg_p9 c_26 c_28).symm)⟩
            · refine lv_iconst (v := (-1)) hx hb dX4_order_57 (by decide) ?_
              refine lv_goto (tgt := 67) hx hb dX4_order_58 (by decide) ?_
              exact p_i hx hb hr hlocks dX4_order_67 ⟨_, hO9, (show _ = sgI _ from (sg_n (Int32.not_le.mp c_28)).symm)⟩
