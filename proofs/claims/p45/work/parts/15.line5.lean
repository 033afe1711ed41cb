/-! Line, 5: words and strings -/
theorem take_succ_getD {t : List Nat} {j : Nat} (h : j < t.length) : t.take (j + 1) = t.take j ++ [t.getD j 0] := by
  rw [List.take_add_one, List.getElem?_eq_getElem h, List.getD_eq_getElem?_getD, List.getElem?_eq_getElem h]; rfl
theorem dX0_addWord_0 : decode cX0_addWord 0 = .ok (.iconst 0, 1) := by decide +kernel
theorem dX0_addWord_1 : decode cX0_addWord 1 = .ok (.istore_n 2, 1) := by decide +kernel
theorem dX0_addWord_2 : decode cX0_addWord 2 = .ok (.iload_n 2, 1) := by decide +kernel
theorem dX0_addWord_3 : decode cX0_addWord 3 = .ok (.aload_n 1, 1) := by decide +kernel
theorem dX0_addWord_4 : decode cX0_addWord 4 = .ok (.invokevirtual 35, 3) := by decide +kernel
theorem dX0_addWord_7 : decode cX0_addWord 7 = .ok (.if_icmp .ge 18, 3) := by decide +kernel
theorem dX0_addWord_10 : decode cX0_addWord 10 = .ok (.aload_n 0, 1) := by decide +kernel
theorem dX0_addWord_11 : decode cX0_addWord 11 = .ok (.aload_n 1, 1) := by decide +kernel
theorem dX0_addWord_12 : decode cX0_addWord 12 = .ok (.iload_n 2, 1) := by decide +kernel
theorem dX0_addWord_13 : decode cX0_addWord 13 = .ok (.invokevirtual 40, 3) := by decide +kernel
theorem dX0_addWord_16 : decode cX0_addWord 16 = .ok (.invokevirtual 23, 3) := by decide +kernel
theorem dX0_addWord_19 : decode cX0_addWord 19 = .ok (.iinc 2 1, 3) := by decide +kernel
theorem dX0_addWord_22 : decode cX0_addWord 22 = .ok (.goto (-20), 3) := by decide +kernel
theorem dX0_addWord_25 : decode cX0_addWord 25 = .ok (.return_, 1) := by decide +kernel
theorem dX0_asString_0 : decode cX0_asString 0 = .ok (.aload_n 0, 1) := by decide +kernel
theorem dX0_asString_1 : decode cX0_asString 1 = .ok (.getfield 15, 3) := by decide +kernel
theorem dX0_asString_4 : decode cX0_asString 4 = .ok (.newarray .char, 2) := by decide +kernel
theorem dX0_asString_6 : decode cX0_asString 6 = .ok (.astore_n 1, 1) := by decide +kernel
theorem dX0_asString_7 : decode cX0_asString 7 = .ok (.iconst 0, 1) := by decide +kernel
theorem dX0_asString_8 : decode cX0_asString 8 = .ok (.istore_n 2, 1) := by decide +kernel
theorem dX0_asString_9 : decode cX0_asString 9 = .ok (.iload_n 2, 1) := by decide +kernel
theorem dX0_asString_10 : decode cX0_asString 10 = .ok (.aload_n 0, 1) := by decide +kernel
theorem dX0_asString_11 : decode cX0_asString 11 = .ok (.getfield 15, 3) := by decide +kernel
theorem dX0_asString_14 : decode cX0_asString 14 = .ok (.if_icmp .ge 18, 3) := by decide +kernel
theorem dX0_asString_17 : decode cX0_asString 17 = .ok (.aload_n 1, 1) := by decide +kernel
theorem dX0_asString_18 : decode cX0_asString 18 = .ok (.iload_n 2, 1) := by decide +kernel
theorem dX0_asString_19 : decode cX0_asString 19 = .ok (.aload_n 0, 1) := by decide +kernel
theorem dX0_asString_20 : decode cX0_asString 20 = .ok (.getfield 9, 3) := by decide +kernel
theorem dX0_asString_23 : decode cX0_asString 23 = .ok (.iload_n 2, 1) := by decide +kernel
theorem dX0_asString_24 : decode cX0_asString 24 = .ok (.caload, 1) := by decide +kernel
theorem dX0_asString_25 : decode cX0_asString 25 = .ok (.castore, 1) := by decide +kernel
theorem dX0_asString_26 : decode cX0_asString 26 = .ok (.iinc 2 1, 3) := by decide +kernel
theorem dX0_asString_29 : decode cX0_asString 29 = .ok (.goto (-20), 3) := by decide +kernel
theorem dX0_asString_32 : decode cX0_asString 32 = .ok (.new 36, 3) := by decide +kernel
theorem dX0_asString_35 : decode cX0_asString 35 = .ok (.dup, 1) := by decide +kernel
theorem dX0_asString_36 : decode cX0_asString 36 = .ok (.aload_n 1, 1) := by decide +kernel
theorem dX0_asString_37 : decode cX0_asString 37 = .ok (.invokespecial 53, 3) := by decide +kernel
theorem dX0_asString_40 : decode cX0_asString 40 = .ok (.areturn, 1) := by decide +kernel
abbrev rmX0_addWord : Room := { frames := 4, cells := 0, slots := 0, locals := 85 }
theorem mX0_addWord {l : Launch} {G : Cx} {A : Nat → Prop} {a ca i : Nat} {t : List Nat} (hi : i < 9) (hAa : A a) (hAca : A ca) : Met l yX0_addWord (.code yX0_addWord cX0_addWord 3 (none : Option Jvm.ClassFile.FieldType) :: GW) rmX0_addWord (PC G A [.ref a, .ref (G.2.2 (20 + i))] (LA G a ca t)) (qV A (LA G a ca ((t ++ stx i).take 60))) 0 0 (A) := by
  refine mstart "Signtext$Line" (by decide +kernel) rfl (Nat.le_of_ble_eq_true rfl) ?_
  intro p e s m below meth c ls hx hb hr hts hown hml hlocks hname hC hA hW hl
  have hl : lv_has ls 3 [(0, .ref a), (1, .ref (G.2.2 (20 + i)))] := hl
  have hK := hC.1
  have hS : va_S A s.heap s.heap [] := va_S.rf
  obtain ⟨c1, c2, c3, c4⟩ := hC.2.2.2.1 i hi
  have t60 := hW.1
  have hi5 := stx_len hi
  refine lv_iconst (v := nI 0) hx hb dX0_addWord_0 (by decide) ?_
  refine lv_istore_n (lv' := [(2, .int (nI 0)), (0, .ref a), (1, .ref (G.2.2 (20 + i)))]) hx hb dX0_addWord_1 rfl hl (by decide) rfl (fun ls hl => ?_)
  refine nloop (P := fun j => ∀ (ls : Array Slot) (H : Heap) (L : List Loc), lv_has ls 3 [(2, .int (nI j)), (0, .ref a), (1, .ref (G.2.2 (20 + i)))] → va_S A s.heap H L → LA G a ca ((t ++ (stx i).take j).take 60) H → W p l e rmX0_addWord s m [.ref a, .ref (G.2.2 (20 + i))].toArray below meth c H L 0 0 (MQ below (qV A (LA G a ca ((t ++ stx i).take 60))) [.ref a, .ref (G.2.2 (20 + i))].toArray s 0 0 (A)) (F0 m 2 ls [])) ((stx i).length) ?_ 0 (Nat.zero_le _) ls s.heap [] hl hS (by rw [List.take_zero, List.append_nil, List.take_of_length_le t60]; exact hW)
  clear hl
  intro j hj ih ls H L hl
  clear hS hW
  intro hS hW
  have hZ0 := hS.1
  refine lv_iload_n hx hb dX0_addWord_2 rfl (lv_at hl 0 rfl) ?_
  refine lv_aload_n hx hb dX0_addWord_3 rfl (lv_at hl 2 rfl) ?_
  refine kV_i (A := A) (b := (G.2.2 (20 + i))) (As := []) (rest := .int (nI j) :: []) ⟨hx, hb, hml, hown, hts⟩ (mJ0_length_8abf5 (A := A) hi) (cwV 0 hts (gV tw_1_85 tw_1_86 tw_1_87 tw_1_4 tw_1_88) rfl rfl rfl (by decide +kernel) ⟨Nat.le_of_ble_eq_true rfl, Nat.le_of_ble_eq_true rfl⟩) hC hS hA (va_Orecv c1 hS) trivial rfl rfl hl.1 (Nat.le_of_ble_eq_true rfl) ⟨Nat.zero_le _, Nat.zero_le _⟩ dX0_addWord_4 (fun r9 h9 => lv_cv h9 ?_)
  refine b_ge (tgt := 25) hx hb dX0_addWord_7 (by decide) (by omega) (by omega) (fun c_1 => ?_) (fun c_1 => ?_)
  · obtain rfl : j = (stx i).length := by omega
    rw [List.take_length] at hW
    exact q_v hx hb hr hlocks dX0_addWord_25 hS (Nat.le_refl _) (Nat.le_refl _) hW
  · refine lv_aload_n hx hb dX0_addWord_10 rfl (lv_at hl 1 rfl) ?_
    refine lv_aload_n hx hb dX0_addWord_11 rfl (lv_at hl 2 rfl) ?_
    refine lv_iload_n hx hb dX0_addWord_12 rfl (lv_at hl 0 rfl) ?_
    refine kV_i (A := A) (b := (G.2.2 (20 + i))) (As := [.int (nI j)]) (rest := .ref a :: []) ⟨hx, hb, hml, hown, hts⟩ (mJ0_charAt_5068e (A := A) hi (j := j) (by omega)) (cwV 1 hts (gV tw_1_95 tw_1_96 tw_1_97 tw_1_4 tw_1_98) rfl rfl rfl (by decide +kernel) ⟨Nat.le_of_ble_eq_true rfl, Nat.le_of_ble_eq_true rfl⟩) hC hS hA (va_Orecv c1 hS) trivial rfl rfl hl.1 (Nat.le_of_ble_eq_true rfl) ⟨Nat.zero_le _, Nat.zero_le _⟩ dX0_addWord_13 (fun r9 h9 => lv_cv h9 ?_)
    refine qV_V (A := A) (A1 := ow a ca H.size) (b := a) (As := [.int (nI ((stx i).getD j 0))]) (rest := []) ⟨hx, hb, hml, hown, hts⟩ (mX0_addCode (A := ow a ca H.size) (ca := ca) (k0 := (stx i).getD j 0) (Or.inl rfl) (Or.inr (Or.inl rfl)) (stx_lt hi j)) (cwV 1 hts (gV tw_1_133 tw_1_134 tw_1_135 tw_1_2 tw_1_136) rfl rfl rfl (by decide +kernel) ⟨Nat.le_of_ble_eq_true rfl, Nat.le_of_ble_eq_true rfl⟩) hC hS (ow_in hAa hAca hA hZ0) ow_n (hW.recv hK) hW rfl rfl hl.1 (Nat.le_of_ble_eq_true rfl) ⟨Nat.zero_le _, Nat.zero_le _⟩ dX0_addWord_16 (fun H2 L2 hP2 hk2 hS => ?_)
    have hZ2 := hS.1
    refine lv_iinc (v := nI (j + 1)) (lv' := [(2, .int (nI (j + 1))), (0, .ref a), (1, .ref (G.2.2 (20 + i)))]) hx hb dX0_addWord_19 hl (k := 0) rfl (nI_add j 1) (by decide) rfl (fun ls hl => ?_)
    refine lv_goto (tgt := 2) hx hb dX0_addWord_22 (by decide) ?_
    exact ih (j + 1) (by omega) (by omega) ls H2 L2 (lv_sub hl [0, 1, 2] rfl) hS (by rw [take_succ_getD (t := stx i) (j := j) (by omega), ← List.append_assoc, ← take_take60]; exact hP2)

abbrev rmX0_asString : Room := { frames := 5, cells := 3, slots := 124, locals := 117 }
theorem mX0_asString {l : Launch} {G : Cx} {A : Nat → Prop} {a ca : Nat} {t : List Nat} : Met l yX0_asString (.code yX0_asString cX0_asString 3 (some (.object "java/lang/String")) :: GW) rmX0_asString (PC G A [.ref a] (LA G a ca t)) (qR A (fun _ _ => True)) 3 124 (A) := by
  refine mstart "Signtext$Line" (by decide +kernel) rfl (Nat.le_of_ble_eq_true rfl) ?_
  intro p e s m below meth c ls hx hb hr hts hown hml hlocks hname hC hA hW hl
  have hl : lv_has ls 3 [(0, .ref a)] := hl
  have hK := hC.1
  have hS : va_S A s.heap s.heap [] := va_S.rf
  have hq9 := hW
  obtain ⟨t60, tok, tne, hO, f, hF, hf⟩ := hq9
  refine lv_aload_n hx hb dX0_asString_0 rfl (lv_at hl 0 rfl) ?_
  refine va_get (D := G.1) (ci := 4) (C := RX0) (T := TX0) (N := 2) hx hb hts inX0 hown hK (at_P hO) 0 rfl rfl 1 (by decide) (hts _ tw_1_45) (fun _ h9 => h9) rfl dX0_asString_1 ?_
  refine h_newa (D := G.1) (atype := .char) (N := t.length) (z := (t.length, .inl (fun _ => 0))) hx hb (hts _ tw_1_51) rfl (fun h => h) hK 1 rfl hS rfl (nI_pos (by omega)) (nI_clamp (by omega)) (show t.length * _ ≤ _ from by show t.length * 2 ≤ 536870912; omega) (Nat.le_trans (show 0 + 1 ≤ 3 by omega) (Nat.le_of_ble_eq_true rfl)) (Nat.le_trans (show 0 + t.length ≤ 124 by omega) (Nat.le_of_ble_eq_true rfl)) dX0_asString_4 (fun na H3 hna hFna z3 o3 hS => ?_)
  have n3hO : a ≠ na := fun q => absurd hO.lt (by rw [q, hna]; exact Nat.lt_irrefl _)
  have n3hF : ca ≠ na := fun q => absurd hF.lt (by rw [q, hna]; exact Nat.lt_irrefl _)
  have hO := at_n hO o3
  have hF := at_n hF o3
  have hZ3 := hS.1
  have hMna : A na := hA na (by omega)
  refine lv_astore_n (lv' := [(1, .ref na), (0, .ref a)]) hx hb dX0_asString_6 rfl hl (by decide) rfl (fun ls hl => ?_)
  refine lv_iconst (v := nI 0) hx hb dX0_asString_7 (by decide) ?_
  refine lv_istore_n (lv' := [(2, .int (nI 0)), (1, .ref na), (0, .ref a)]) hx hb dX0_asString_8 rfl hl (by decide) rfl (fun ls hl => ?_)
  refine nloop (P := fun j => ∀ (ls : Array Slot) (H : Heap) (L : List Loc) (g : Nat → Int32), lv_has ls 3 [(2, .int (nI j)), (1, .ref na), (0, .ref a)] → va_S A s.heap H L → va_at G.1 vwCl (a, .inr (4, [.ref ca, .int (nI t.length)])) H → va_at G.1 vwCl (ca, .inl (G.2.1 1, 60, .inl f)) H → va_at G.1 vwCl (na, .inl (G.2.1 1, t.length, .inl g)) H → (∀ k : Nat, k < j → g k = nI (t.getD k 0)) → W p l e rmX0_asString s m [.ref a].toArray below meth c H L (0 + 1) (0 + t.length) (MQ below (qR A (fun _ _ => True)) [.ref a].toArray s 3 124 (A)) (F0 m 9 ls [])) t.length ?_ 0 (Nat.zero_le _) ls H3 [] (fun _ => 0) hl hS hO hF hFna (fun k hk => absurd hk (Nat.not_lt_zero k))
  clear hl
  intro j hj ih ls H L g hl
  clear hS hO hF hFna
  intro hS hO hF hFna hg
  have hZ0 := hS.1
  refine lv_iload_n hx hb dX0_asString_9 rfl (lv_at hl 0 rfl) ?_
  refine lv_aload_n hx hb dX0_asString_10 rfl (lv_at hl 2 rfl) ?_
  refine va_get (D := G.1) (ci := 4) (C := RX0) (T := TX0) (N := 2) hx hb hts inX0 hown hK (at_P hO) 0 rfl rfl 1 (by decide) (hts _ tw_1_45) (fun _ h9 => h9) rfl dX0_asString_11 ?_
  refine b_ge (tgt := 32) hx hb dX0_asString_14 (by decide) (by omega) (by omega) (fun c_4 => ?_) (fun c_4 => ?_)
  · refine h_new (D := G.1) (C := RJ0) (T := TJ0) (N := 4) (ci := 0) (fs := [.null, .int 0, .int 0, .int 0]) hx hb hts inJ0 tyJ0 tyJ0_ok hown (hts _ tw_1_175) (hts _ tw_1_176) (hts _ tw_1_4) hK hS rfl (fun j hj => match j, hj with | 0, _ => rfl | 1, _ => rfl | 2, _ => rfl | 3, _ => rfl) (Nat.le_trans (show (0 + 1) + 1 ≤ 3 by omega) (Nat.le_of_ble_eq_true rfl)) (Nat.le_trans (show (0 + t.length) + 4 ≤ 124 by omega) (Nat.le_of_ble_eq_true rfl)) dX0_asString_32 (fun sa H5 hsa hOsa z5 o5 hS => ?_)
    have n5hO : a ≠ sa := fun q => absurd hO.lt (by rw [q, hsa]; exact Nat.lt_irrefl _)
    have n5hF : ca ≠ sa := fun q => absurd hF.lt (by rw [q, hsa]; exact Nat.lt_irrefl _)
    have n5hFna : na ≠ sa := fun q => absurd hFna.lt (by rw [q, hsa]; exact Nat.lt_irrefl _)
    have hO := at_n hO o5
    have hF := at_n hF o5
    have hFna := at_n hFna o5
    have hZ5 := hS.1
    have hMsa : A sa := hA sa (by omega)
    refine lv_dup hx hb dX0_asString_35 rfl ?_
    refine lv_aload_n hx hb dX0_asString_36 rfl (lv_at hl 1 rfl) ?_
    refine qV_I (A := A) (A1 := A) (b := sa) (As := [.ref na]) (rest := .ref sa :: []) ⟨hx, hb, hml, hown, hts⟩ (mJ0_init_905df (A := A) (a := sa) (na := na) (n := t.length) hMsa (Ne.symm n5hFna) t60 (fun k hk => ⟨t.getD k 0, tok k, hg k (by omega)⟩)) (cwI 1 hts (gI tw_1_179) rfl rfl rfl (hts _ tw_1_4) (hts _ tw_1_177) (hts _ tw_1_178) rfl (by decide +kernel) ⟨Nat.le_of_ble_eq_true rfl, Nat.le_of_ble_eq_true rfl⟩) hC hS (fun _ h => h) (fun q h => hA q (by omega))  ⟨hOsa, hFna⟩ rfl rfl hl.1 (Nat.le_of_ble_eq_true rfl) ⟨Nat.le_trans (show ((0 + 1) + 1) + 1 ≤ 3 by omega) (Nat.le_of_ble_eq_true rfl), Nat.le_trans (show ((0 + t.length) + 4) + 60 ≤ 124 by omega) (Nat.le_of_ble_eq_true rfl)⟩ dX0_asString_37 (fun H6 L6 hP6 hk6 hS => ?_)
    have hZ6 := hS.1
    exact q_a hx hb hr (Or.inl ⟨_, rfl⟩) hlocks dX0_asString_40 hS (by omega) (by omega) trivial
  · refine lv_aload_n hx hb dX0_asString_17 rfl (lv_at hl 1 rfl) ?_
    refine lv_iload_n hx hb dX0_asString_18 rfl (lv_at hl 0 rfl) ?_
    refine lv_aload_n hx hb dX0_asString_19 rfl (lv_at hl 2 rfl) ?_
    refine va_get (D := G.1) (ci := 4) (C := RX0) (T := TX0) (N := 2) hx hb hts inX0 hown hK (at_P hO) 0 rfl rfl 0 (by decide) (hts _ tw_1_44) (fun _ h9 => h9) rfl dX0_asString_20 ?_
    refine lv_iload_n hx hb dX0_asString_23 rfl (lv_at hl 0 rfl) ?_
    refine va_cald hx hb hK (at_P hF) 0 1 rfl rfl (vp_in_nI (n := j) (N := 60) (by omega) (by omega)) dX0_asString_24 ?_
    refine lv_cv (show _ = nI (t.getD j 0) from by rw [nI_clamp (by omega)]; exact hf _ (by omega)) ?_
    have tokj := tok j
    refine h_cst (D := G.1) hx hb hK 1 hFna rfl hS hMna (vp_in_nI (n := j) (N := t.length) (by omega) (by omega)) dX0_asString_25 (fun H7 L7 hFna z7 o7 hS => ?_)
    rw [nI_clamp (n := j) (by omega)] at hFna
    have hO := at_o hO o7 n3hO
    have hF := at_o hF o7 n3hF
    have hZ7 := hS.1
    refine lv_iinc (v := nI (j + 1)) (lv' := [(2, .int (nI (j + 1))), (1, .ref na), (0, .ref a)]) hx hb dX0_asString_26 hl (k := 0) rfl (nI_add j 1) (by decide) rfl (fun ls hl => ?_)
    refine lv_goto (tgt := 9) hx hb dX0_asString_29 (by decide) ?_
    exact ih (j + 1) (by omega) (by omega) ls H7 L7 _ (lv_sub hl [0, 1, 2] rfl) hS hO hF hFna (fun k hk => by rcases Nat.lt_succ_iff_lt_or_eq.mp hk with q | q; rw [pk_un (by omega)]; exact hg k q; rw [q, pk_us, nar_char (by omega)])
