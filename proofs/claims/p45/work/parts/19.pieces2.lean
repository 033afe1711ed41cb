/-! Pieces, 2: its constructor -/
theorem dX1_init_0 : decode cX1_init 0 = .ok (.aload_n 0, 1) := by decide +kernel
theorem dX1_init_1 : decode cX1_init 1 = .ok (.invokespecial 3, 3) := by decide +kernel
theorem dX1_init_4 : decode cX1_init 4 = .ok (.aload_n 0, 1) := by decide +kernel
theorem dX1_init_5 : decode cX1_init 5 = .ok (.new 9, 3) := by decide +kernel
theorem dX1_init_8 : decode cX1_init 8 = .ok (.dup, 1) := by decide +kernel
theorem dX1_init_9 : decode cX1_init 9 = .ok (.invokespecial 11, 3) := by decide +kernel
theorem dX1_init_12 : decode cX1_init 12 = .ok (.putfield 12, 3) := by decide +kernel
theorem dX1_init_15 : decode cX1_init 15 = .ok (.aload_n 0, 1) := by decide +kernel
theorem dX1_init_16 : decode cX1_init 16 = .ok (.bipush 61, 2) := by decide +kernel
theorem dX1_init_18 : decode cX1_init 18 = .ok (.newarray .int, 2) := by decide +kernel
theorem dX1_init_20 : decode cX1_init 20 = .ok (.putfield 18, 3) := by decide +kernel
theorem dX1_init_23 : decode cX1_init 23 = .ok (.aload_n 0, 1) := by decide +kernel
theorem dX1_init_24 : decode cX1_init 24 = .ok (.iconst 0, 1) := by decide +kernel
theorem dX1_init_25 : decode cX1_init 25 = .ok (.putfield 22, 3) := by decide +kernel
theorem dX1_init_28 : decode cX1_init 28 = .ok (.return_, 1) := by decide +kernel
abbrev rmX1_init : Room := { frames := 2, cells := 3, slots := 123, locals := 40 }
theorem mX1_init {l : Launch} {G : Cx} {A : Nat → Prop} {a sz : Nat} (hAa : A a) : Met l yX1_init (.code yX1_init cX1_init 1 (none : Option Jvm.ClassFile.FieldType) :: GW) rmX1_init (PC G A [.ref a] (fun H => H.size = sz ∧ va_at G.1 vwCl (a, .inr (5, [.null, .null, .int 0])) H)) (qV A (fun H => H.size = sz + 3 ∧ PA G a sz (sz + 1) (sz + 2) [] [] H)) 3 123 (A) := by
  refine mstart "Signtext$Pieces" (by decide +kernel) rfl (Nat.le_of_ble_eq_true rfl) ?_
  intro p e s m below meth c ls hx hb hr hts hown hml hlocks hname hC hA hW hl
  have hl : lv_has ls 1 [(0, .ref a)] := hl
  have hK := hC.1
  have hS : va_S A s.heap s.heap [] := va_S.rf
  obtain ⟨hsz, hO⟩ := hW
  have haz : a < s.heap.size := hO.lt
  refine lv_aload_n hx hb dX1_init_0 rfl (lv_at hl 0 rfl) ?_
  refine W.objInit hx hb hown (hts _ tw_1_57) (hts _ tw_1_35) (hts _ tw_1_36) rfl (by rw [hml]; exact hl.1) rfl dX1_init_1 (Nat.le_of_ble_eq_true rfl) (Nat.le_of_ble_eq_true rfl) ?_
  refine W.eq (g2 := F0 m 4 ls []) rfl ?_
  refine lv_aload_n hx hb dX1_init_4 rfl (lv_at hl 0 rfl) ?_
  refine h_new (D := G.1) (C := RX0) (T := TX0) (N := 2) (ci := 4) (fs := [.null, .int 0]) hx hb hts inX0 tyX0 tyX0_ok hown (hts _ tw_1_58) (hts _ tw_1_39) (hts _ tw_1_2) hK hS rfl (fun j hj => match j, hj with | 0, _ => rfl | 1, _ => rfl) (Nat.le_trans (show 0 + 1 ≤ 3 by omega) (Nat.le_of_ble_eq_true rfl)) (Nat.le_trans (show 0 + 2 ≤ 123 by omega) (Nat.le_of_ble_eq_true rfl)) dX1_init_5 (fun la H1 hla hOla z1 o1 hS => ?_)
  have n1hO : a ≠ la := fun q => absurd hO.lt (by rw [q, hla]; exact Nat.lt_irrefl _)
  have hO := at_n hO o1
  have hZ1 := hS.1
  have hMla : A la := hA la (by omega)
  refine lv_dup hx hb dX1_init_8 rfl ?_
  refine qV_IN (A := A) (A1 := ow la la H1.size) (b := la) (As := []) (rest := .ref la :: .ref a :: []) ⟨hx, hb, hml, hown, hts⟩ (mX0_init (A := ow la la H1.size) (a := la) (sz := H1.size) (Or.inl rfl)) ⟨va_cnB 0 hts (gI tw_1_42) rfl rfl rfl hC.2.2.2.2.2.2.2.1 (hts _ tw_1_2) (by decide +kernel) ⟨Nat.le_of_ble_eq_true rfl, Nat.le_of_ble_eq_true rfl⟩, rfl, hts _ tw_1_41⟩ hC hS (ow_in hMla hMla hA (by omega)) ow_n  ⟨rfl, hOla⟩ rfl rfl hl.1 (Nat.le_of_ble_eq_true rfl) ⟨Nat.le_trans (show (0 + 1) + 1 ≤ 3 by omega) (Nat.le_of_ble_eq_true rfl), Nat.le_trans (show (0 + 2) + 60 ≤ 123 by omega) (Nat.le_of_ble_eq_true rfl)⟩ dX1_init_9 (fun H2 L2 hP2 hk2 hS => ?_)
  have hZ2 := hS.1
  obtain ⟨lca, hlc, hz9, hL⟩ := hP2
  have hO := at_kp hO hk2 (ow_no n1hO n1hO hO.lt)
  have nac : a ≠ lca := by omega
  have nlc : la ≠ lca := hL.2.2.1
  refine h_putF (D := G.1) (ci := 5) (C := RX1) (T := TX1) (N := 3) hx hb hts inX1 tyX1 tyX1_ok nmX1 hown hK hO hS hAa rfl 0 (by decide) (hts _ tw_1_60) (fun _ h9 => h9) rfl hname rfl (tyX1_ok 0 (by decide)) rfl rfl (Nat.le_of_ble_eq_true rfl) dX1_init_12 (fun H3 L3 hO z3 o3 hS => ?_)
  have hO : va_at G.1 vwCl (a, .inr (5, [.ref la, .null, .int 0])) H3 := hO
  have hL := LA.o hL o3 (Ne.symm n1hO) nac.symm
  have hZ3 := hS.1
  refine lv_aload_n hx hb dX1_init_15 rfl (lv_at hl 0 rfl) ?_
  refine lv_bipush (v := nI 61) hx hb dX1_init_16 (by decide) ?_
  have hLl := hL.lt
  refine h_newa (D := G.1) (atype := .int) (N := 61) (z := (61, .inl (fun _ => 0))) hx hb (hts _ tw_1_70) rfl (fun h => h) hK 0 rfl hS rfl (nI_pos (by omega)) (nI_clamp (by omega)) (show 61 * _ ≤ _ from by show 61 * 4 ≤ 536870912; omega) (Nat.le_trans (show ((0 + 1) + 1) + 1 ≤ 3 by omega) (Nat.le_of_ble_eq_true rfl)) (Nat.le_trans (show ((0 + 2) + 60) + 61 ≤ 123 by omega) (Nat.le_of_ble_eq_true rfl)) dX1_init_18 (fun ea H4 hea hFea z4 o4 hS => ?_)
  have n4hO : a ≠ ea := fun q => absurd hO.lt (by rw [q, hea]; exact Nat.lt_irrefl _)
  have hO := at_n hO o4
  have hL := LA.n hL o4
  have hZ4 := hS.1
  have hMea : A ea := hA ea (by omega)
  have nel : ea ≠ la := by omega
  have nec : ea ≠ lca := by omega
  refine h_putF (D := G.1) (ci := 5) (C := RX1) (T := TX1) (N := 3) hx hb hts inX1 tyX1 tyX1_ok nmX1 hown hK hO hS hAa rfl 1 (by decide) (hts _ tw_1_61) (fun _ h9 => h9) rfl hname rfl (tyX1_ok 1 (by decide)) rfl rfl (Nat.le_of_ble_eq_true rfl) dX1_init_20 (fun H5 L5 hO z5 o5 hS => ?_)
  have hO : va_at G.1 vwCl (a, .inr (5, [.ref la, .ref ea, .int 0])) H5 := hO
  have hFea := at_o hFea o5 (Ne.symm n4hO)
  have hL := LA.o hL o5 (Ne.symm n1hO) nac.symm
  have hZ5 := hS.1
  refine lv_aload_n hx hb dX1_init_23 rfl (lv_at hl 0 rfl) ?_
  refine lv_iconst (v := nI 0) hx hb dX1_init_24 (by decide) ?_
  refine h_put (D := G.1) (ci := 5) (C := RX1) (T := TX1) (N := 3) hx hb hts inX1 tyX1 tyX1_ok nmX1 hown hK hO hS hAa rfl 2 (by decide) (hts _ tw_1_62) (fun _ h9 => h9) rfl (tyX1_ok 2 (by decide)) rfl rfl (Nat.le_of_ble_eq_true rfl) dX1_init_25 (fun H6 L6 hO z6 o6 hS => ?_)
  have hO : va_at G.1 vwCl (a, .inr (5, [.ref la, .ref ea, .int (nI 0)])) H6 := hO
  have hFea := at_o hFea o6 (Ne.symm n4hO)
  have hL := LA.o hL o6 (Ne.symm n1hO) nac.symm
  have hZ6 := hS.1
  have e1 : la = sz := by omega
  have hlcz := hLl
  have e2 : lca = sz + 1 := by omega
  have e3 : ea = sz + 2 := by omega
  have e4 : H6.size = sz + 3 := by omega
  rw [e1] at hO hL; rw [e2] at hL; rw [e3] at hO hFea
  exact q_v hx hb hr hlocks dX1_init_28 hS (by omega) (by omega) ⟨e4, ⟨Nat.zero_le _, hO, _, hFea, fun j hj => absurd hj (Nat.not_lt_zero j)⟩, hL, fun k hk => absurd hk (Nat.not_lt_zero k), by omega, by omega, by omega, by omega, by omega⟩
