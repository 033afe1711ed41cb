/-! The class, 10: its constructor -/
theorem PA.o {G : Cx} {a la lca ea b : Nat} {t es : List Nat} {H H1 : Heap} (h : PA G a la lca ea t es H) (oq : ∀ q : Nat, q ≠ b → H1[q]? = H[q]?) (n1 : a ≠ b) (n2 : la ≠ b) (n3 : lca ≠ b) (n4 : ea ≠ b) : PA G a la lca ea t es H1 := by
  obtain ⟨⟨q1, q2, f, q3, q4⟩, q5, q6⟩ := h
  exact ⟨⟨q1, at_o q2 oq n1, f, at_o q3 oq n4, q4⟩, q5.o oq n2 n3, q6⟩
theorem PA.n {G : Cx} {a la lca ea : Nat} {t es : List Nat} {H H1 : Heap} (h : PA G a la lca ea t es H) (oq : ∀ q : Nat, q < H.size → H1[q]? = H[q]?) : PA G a la lca ea t es H1 := by
  obtain ⟨⟨q1, q2, f, q3, q4⟩, q5, q6⟩ := h
  exact ⟨⟨q1, at_n q2 oq, f, at_n q3 oq, q4⟩, q5.n oq, q6⟩
def offsL : List Nat := [0, 0, 1, 4, 7, 12, 15, 16, 17, 18, 19, 20, 21, 22, 23, 24, 25, 26, 27, 28, 29, 30, 31, 32, 33, 34, 35, 36, 37, 2, 3, 8, 9, 10, 11, 5, 6, 13, 14]
def SAc (a n i : Nat) : Nat := if i = 0 then a else n + offsL.getD i 0
def T0c (i : Nat) : List Nat := if 4 ≤ i ∧ i < 11 then knT (i - 4) else []
theorem wkN_lt {i : Nat} (h : i < 7) : wkN i < 9 := by
  cases i with
  | zero => decide
  | succ i => show i < 9; omega
theorem wkN_kn {i : Nat} (h : i < 7) : (([] : List Nat) ++ stx (wkN i)).take 60 = knT i := by
  have k : ∀ j : Fin 7, (([] : List Nat) ++ stx (wkN j.1)).take 60 = knT j.1 := by decide +kernel
  exact k ⟨i, h⟩
theorem SJc {a n : Nat} (h : a < n) : SJ (SAc a n) := by
  have k : ∀ i j : Fin 39, i.1 ≠ 0 → j.1 ≠ 0 → offsL.getD i.1 0 = offsL.getD j.1 0 → i.1 = j.1 := by decide +kernel
  intro i j hi hj q
  unfold SAc at q
  split at q <;> split at q
  · next h1 h2 => rw [h1, h2]
  · omega
  · omega
  · next h1 h2 => exact k ⟨i, hi⟩ ⟨j, hj⟩ h1 h2 (show offsL.getD i 0 = offsL.getD j 0 by omega)
theorem SWc {G : Cx} {a n : Nat} {H : Heap} (han : a < n) (hO : va_at G.1 vwCl (a, .inr (6, [.ref n, .ref (n + 1), .ref (n + 2), .ref (n + 4), .int 0, .ref (n + 8), .ref (n + 10), .ref (n + 12)])) H) (hX : va_at G.1 vwCl (n, .inl (G.2.1 3, 4, .inr (.inr (.inr (.inr (fun i => some (n + 16 + 2 * i))))))) H) (hY : va_at G.1 vwCl (n + 1, .inl (G.2.1 3, 7, .inr (.inr (.inr (.inr (fun i => some (n + 24 + 2 * i))))))) H)
    (hRw : LA G (n + 2) (n + 2 + 1) [] H) (hMd : LA G (n + 8) (n + 8 + 1) [] H) (hDr : LA G (n + 10) (n + 10 + 1) [] H) (hPc : PA G (n + 4) (n + 4 + 1) (n + 4 + 1 + 1) (n + 4 + 1 + 2) [] [] H) (hTr : PA G (n + 12) (n + 12 + 1) (n + 12 + 1 + 1) (n + 12 + 1 + 2) [] [] H) (hT : ∀ i : Nat, i < 4 → LA G (n + 16 + 2 * i) (n + 16 + 2 * i + 1) [] H) (hU : ∀ i : Nat, i < 7 → LA G (n + 24 + 2 * i) (n + 24 + 2 * i + 1) (knT i) H) : SW G (SAc a n) T0c [] [] 0 H := by
  have k4 : ∀ j : Nat, j < 4 → SAc a n (7 + 2 * j) = n + 16 + 2 * j := fun j hj => by
    match j, hj with
    | 0, _ => rfl
    | 1, _ => rfl
    | 2, _ => rfl
    | 3, _ => rfl
  have k7 : ∀ j : Nat, j < 7 → SAc a n (15 + 2 * j) = n + 24 + 2 * j := fun j hj => by
    match j, hj with
    | 0, _ => rfl
    | 1, _ => rfl
    | 2, _ => rfl
    | 3, _ => rfl
    | 4, _ => rfl
    | 5, _ => rfl
    | 6, _ => rfl
  refine ⟨SJc han, hO, at_fun hX (fun j hj => by rw [k4 j hj]), at_fun hY (fun j hj => by rw [k7 j hj]), fun i hi => ?_, hPc.1, hPc.2.2.1, hTr.1, hTr.2.2.1, fun i hi => ?_⟩
  · match i, hi with
    | 0, _ => exact hT 0 (by decide)
    | 1, _ => exact hT 1 (by decide)
    | 2, _ => exact hT 2 (by decide)
    | 3, _ => exact hT 3 (by decide)
    | 4, _ => exact hU 0 (by decide)
    | 5, _ => exact hU 1 (by decide)
    | 6, _ => exact hU 2 (by decide)
    | 7, _ => exact hU 3 (by decide)
    | 8, _ => exact hU 4 (by decide)
    | 9, _ => exact hU 5 (by decide)
    | 10, _ => exact hU 6 (by decide)
    | 11, _ => exact hRw
    | 12, _ => exact hMd
    | 13, _ => exact hDr
    | 14, _ => exact hPc.2.1
    | 15, _ => exact hTr.2.1
    | i + 16, hi => exact absurd hi (by omega)
  · unfold T0c
    rw [if_pos (by omega), Nat.add_sub_cancel_left]
theorem dX2_init_0 : decode cX2_init 0 = .ok (.aload_n 0, 1) := by decide +kernel
theorem dX2_init_1 : decode cX2_init 1 = .ok (.invokespecial 1, 3) := by decide +kernel
theorem dX2_init_4 : decode cX2_init 4 = .ok (.aload_n 0, 1) := by decide +kernel
theorem dX2_init_5 : decode cX2_init 5 = .ok (.iconst 4, 1) := by decide +kernel
theorem dX2_init_6 : decode cX2_init 6 = .ok (.anewarray 9, 3) := by decide +kernel
theorem dX2_init_9 : decode cX2_init 9 = .ok (.putfield 11, 3) := by decide +kernel
theorem dX2_init_12 : decode cX2_init 12 = .ok (.aload_n 0, 1) := by decide +kernel
theorem dX2_init_13 : decode cX2_init 13 = .ok (.bipush 7, 2) := by decide +kernel
theorem dX2_init_15 : decode cX2_init 15 = .ok (.anewarray 9, 3) := by decide +kernel
theorem dX2_init_18 : decode cX2_init 18 = .ok (.putfield 15, 3) := by decide +kernel
theorem dX2_init_21 : decode cX2_init 21 = .ok (.aload_n 0, 1) := by decide +kernel
theorem dX2_init_22 : decode cX2_init 22 = .ok (.new 9, 3) := by decide +kernel
theorem dX2_init_25 : decode cX2_init 25 = .ok (.dup, 1) := by decide +kernel
theorem dX2_init_26 : decode cX2_init 26 = .ok (.invokespecial 18, 3) := by decide +kernel
theorem dX2_init_29 : decode cX2_init 29 = .ok (.putfield 19, 3) := by decide +kernel
theorem dX2_init_32 : decode cX2_init 32 = .ok (.aload_n 0, 1) := by decide +kernel
theorem dX2_init_33 : decode cX2_init 33 = .ok (.new 23, 3) := by decide +kernel
theorem dX2_init_36 : decode cX2_init 36 = .ok (.dup, 1) := by decide +kernel
theorem dX2_init_37 : decode cX2_init 37 = .ok (.invokespecial 25, 3) := by decide +kernel
theorem dX2_init_40 : decode cX2_init 40 = .ok (.putfield 26, 3) := by decide +kernel
theorem dX2_init_43 : decode cX2_init 43 = .ok (.aload_n 0, 1) := by decide +kernel
theorem dX2_init_44 : decode cX2_init 44 = .ok (.iconst 0, 1) := by decide +kernel
theorem dX2_init_45 : decode cX2_init 45 = .ok (.putfield 30, 3) := by decide +kernel
theorem dX2_init_48 : decode cX2_init 48 = .ok (.aload_n 0, 1) := by decide +kernel
theorem dX2_init_49 : decode cX2_init 49 = .ok (.new 9, 3) := by decide +kernel
theorem dX2_init_52 : decode cX2_init 52 = .ok (.dup, 1) := by decide +kernel
theorem dX2_init_53 : decode cX2_init 53 = .ok (.invokespecial 18, 3) := by decide +kernel
theorem dX2_init_56 : decode cX2_init 56 = .ok (.putfield 34, 3) := by decide +kernel
theorem dX2_init_59 : decode cX2_init 59 = .ok (.aload_n 0, 1) := by decide +kernel
theorem dX2_init_60 : decode cX2_init 60 = .ok (.new 9, 3) := by decide +kernel
theorem dX2_init_63 : decode cX2_init 63 = .ok (.dup, 1) := by decide +kernel
theorem dX2_init_64 : decode cX2_init 64 = .ok (.invokespecial 18, 3) := by decide +kernel
theorem dX2_init_67 : decode cX2_init 67 = .ok (.putfield 37, 3) := by decide +kernel
theorem dX2_init_70 : decode cX2_init 70 = .ok (.aload_n 0, 1) := by decide +kernel
theorem dX2_init_71 : decode cX2_init 71 = .ok (.new 23, 3) := by decide +kernel
theorem dX2_init_74 : decode cX2_init 74 = .ok (.dup, 1) := by decide +kernel
theorem dX2_init_75 : decode cX2_init 75 = .ok (.invokespecial 25, 3) := by decide +kernel
theorem dX2_init_78 : decode cX2_init 78 = .ok (.putfield 40, 3) := by decide +kernel
theorem dX2_init_81 : decode cX2_init 81 = .ok (.iconst 0, 1) := by decide +kernel
theorem dX2_init_82 : decode cX2_init 82 = .ok (.istore_n 1, 1) := by decide +kernel
theorem dX2_init_83 : decode cX2_init 83 = .ok (.iload_n 1, 1) := by decide +kernel
theorem dX2_init_84 : decode cX2_init 84 = .ok (.iconst 4, 1) := by decide +kernel
theorem dX2_init_85 : decode cX2_init 85 = .ok (.if_icmp .ge 22, 3) := by decide +kernel
theorem dX2_init_88 : decode cX2_init 88 = .ok (.aload_n 0, 1) := by decide +kernel
theorem dX2_init_89 : decode cX2_init 89 = .ok (.getfield 11, 3) := by decide +kernel
theorem dX2_init_92 : decode cX2_init 92 = .ok (.iload_n 1, 1) := by decide +kernel
theorem dX2_init_93 : decode cX2_init 93 = .ok (.new 9, 3) := by decide +kernel
theorem dX2_init_96 : decode cX2_init 96 = .ok (.dup, 1) := by decide +kernel
theorem dX2_init_97 : decode cX2_init 97 = .ok (.invokespecial 18, 3) := by decide +kernel
theorem dX2_init_100 : decode cX2_init 100 = .ok (.aastore, 1) := by decide +kernel
theorem dX2_init_101 : decode cX2_init 101 = .ok (.iinc 1 1, 3) := by decide +kernel
theorem dX2_init_104 : decode cX2_init 104 = .ok (.goto (-21), 3) := by decide +kernel
theorem dX2_init_107 : decode cX2_init 107 = .ok (.iconst 0, 1) := by decide +kernel
theorem dX2_init_108 : decode cX2_init 108 = .ok (.istore_n 1, 1) := by decide +kernel
theorem dX2_init_109 : decode cX2_init 109 = .ok (.iload_n 1, 1) := by decide +kernel
theorem dX2_init_110 : decode cX2_init 110 = .ok (.bipush 7, 2) := by decide +kernel
theorem dX2_init_112 : decode cX2_init 112 = .ok (.if_icmp .ge 35, 3) := by decide +kernel
theorem dX2_init_115 : decode cX2_init 115 = .ok (.aload_n 0, 1) := by decide +kernel
theorem dX2_init_116 : decode cX2_init 116 = .ok (.getfield 15, 3) := by decide +kernel
theorem dX2_init_119 : decode cX2_init 119 = .ok (.iload_n 1, 1) := by decide +kernel
theorem dX2_init_120 : decode cX2_init 120 = .ok (.new 9, 3) := by decide +kernel
theorem dX2_init_123 : decode cX2_init 123 = .ok (.dup, 1) := by decide +kernel
theorem dX2_init_124 : decode cX2_init 124 = .ok (.invokespecial 18, 3) := by decide +kernel
theorem dX2_init_127 : decode cX2_init 127 = .ok (.aastore, 1) := by decide +kernel
theorem dX2_init_128 : decode cX2_init 128 = .ok (.aload_n 0, 1) := by decide +kernel
theorem dX2_init_129 : decode cX2_init 129 = .ok (.getfield 15, 3) := by decide +kernel
theorem dX2_init_132 : decode cX2_init 132 = .ok (.iload_n 1, 1) := by decide +kernel
theorem dX2_init_133 : decode cX2_init 133 = .ok (.aaload, 1) := by decide +kernel
theorem dX2_init_134 : decode cX2_init 134 = .ok (.iload_n 1, 1) := by decide +kernel
theorem dX2_init_135 : decode cX2_init 135 = .ok (.invokestatic 43, 3) := by decide +kernel
theorem dX2_init_138 : decode cX2_init 138 = .ok (.invokevirtual 47, 3) := by decide +kernel
theorem dX2_init_141 : decode cX2_init 141 = .ok (.iinc 1 1, 3) := by decide +kernel
theorem dX2_init_144 : decode cX2_init 144 = .ok (.goto (-35), 3) := by decide +kernel
theorem dX2_init_147 : decode cX2_init 147 = .ok (.return_, 1) := by decide +kernel
theorem mX0_addCode_z {l : Launch} {G : Cx} {A : Nat → Prop} {a ca k0 sz : Nat} {t : List Nat} (hAa : A a) (hAca : A ca) (hk0 : k0 < 256) : Met l yX0_addCode (.code yX0_addCode cX0_addCode 2 (none : Option Jvm.ClassFile.FieldType) :: GW) rmX0_addCode (PC G A [.ref a, .int (nI k0)] (fun H => H.size = sz ∧ LA G a ca t H)) (qV A (fun H => H.size = sz ∧ LA G a ca ((t ++ [k0]).take 60) H)) 0 0 (A) := by
  refine mstart "Signtext$Line" (by decide +kernel) rfl (Nat.le_of_ble_eq_true rfl) ?_
  intro p e s m below meth c ls hx hb hr hts hown hml hlocks hname hC hA hW hl
  have hl : lv_has ls 2 [(0, .ref a), (1, .int (nI k0))] := hl
  have hK := hC.1
  have hS : va_S A s.heap s.heap [] := va_S.rf
  obtain ⟨hsz, hW⟩ := hW
  have hW0 := hW
  have hq9 := hW
  obtain ⟨t60, tok, tne, hO, f, hF, hf⟩ := hq9
  refine lv_aload_n hx hb dX0_addCode_0 rfl (lv_at hl 0 rfl) ?_
  refine va_get (D := G.1) (ci := 4) (C := RX0) (T := TX0) (N := 2) hx hb hts inX0 hown hK (at_P hO) 0 rfl rfl 1 (by decide) (hts _ tw_1_45) (fun _ h9 => h9) rfl dX0_addCode_1 ?_
  refine lv_bipush (v := nI 60) hx hb dX0_addCode_4 (by decide) ?_
  refine b_ge (tgt := 30) hx hb dX0_addCode_6 (by decide) (by omega) (by omega) (fun c_1 => ?_) (fun c_1 => ?_)
  · exact q_v hx hb hr hlocks dX0_addCode_30 hS (Nat.le_refl _) (Nat.le_refl _) ⟨hsz, by rw [take_full (by omega)]; exact hW0⟩
  · refine lv_aload_n hx hb dX0_addCode_9 rfl (lv_at hl 0 rfl) ?_
    refine va_get (D := G.1) (ci := 4) (C := RX0) (T := TX0) (N := 2) hx hb hts inX0 hown hK (at_P hO) 0 rfl rfl 0 (by decide) (hts _ tw_1_44) (fun _ h9 => h9) rfl dX0_addCode_10 ?_
    refine lv_aload_n hx hb dX0_addCode_13 rfl (lv_at hl 0 rfl) ?_
    refine va_get (D := G.1) (ci := 4) (C := RX0) (T := TX0) (N := 2) hx hb hts inX0 hown hK (at_P hO) 0 rfl rfl 1 (by decide) (hts _ tw_1_45) (fun _ h9 => h9) rfl dX0_addCode_14 ?_
    refine lv_iload_n hx hb dX0_addCode_17 rfl (lv_at hl 1 rfl) ?_
    refine lv_i2c hx hb dX0_addCode_18 (show _ = nI k0 from (chr_id (n := k0) (by omega))) ?_
    refine h_cst (D := G.1) hx hb hK 1 hF rfl hS hAca (vp_in_nI (n := t.length) (N := 60) (by omega) (by omega)) dX0_addCode_19 (fun H2 L2 hF z2 o2 hS => ?_)
    rw [nI_clamp (n := t.length) (by omega)] at hF
    have hO := at_o hO o2 tne
    have hZ2 := hS.1
    refine lv_aload_n hx hb dX0_addCode_20 rfl (lv_at hl 0 rfl) ?_
    refine lv_dup hx hb dX0_addCode_21 rfl ?_
    refine va_get (D := G.1) (ci := 4) (C := RX0) (T := TX0) (N := 2) hx hb hts inX0 hown hK (at_P hO) 0 rfl rfl 1 (by decide) (hts _ tw_1_45) (fun _ h9 => h9) rfl dX0_addCode_22 ?_
    refine lv_iconst (v := nI 1) hx hb dX0_addCode_25 (by decide) ?_
    refine lv_iadd hx hb dX0_addCode_26 ?_
    refine lv_cv (nI_add t.length 1) ?_
    refine h_put (D := G.1) (ci := 4) (C := RX0) (T := TX0) (N := 2) hx hb hts inX0 tyX0 tyX0_ok nmX0 hown hK hO hS hAa rfl 1 (by decide) (hts _ tw_1_45) (fun _ h9 => h9) rfl (tyX0_ok 1 (by decide)) rfl rfl (Nat.le_of_ble_eq_true rfl) dX0_addCode_27 (fun H3 L3 hO z3 o3 hS => ?_)
    have hO : va_at G.1 vwCl (a, .inr (4, [.ref ca, .int (nI (t.length + 1))])) H3 := hO
    have hF := at_o hF o3 (Ne.symm tne)
    have hZ3 := hS.1
    exact q_v hx hb hr hlocks dX0_addCode_30 hS (Nat.le_refl _) (Nat.le_refl _) ⟨by rw [z3, z2, hsz], by rw [take_room c_1]; exact LA.push c_1 tok hk0 tne hO hF hf⟩

theorem mX0_addWord_z {l : Launch} {G : Cx} {A : Nat → Prop} {a ca i sz : Nat} {t : List Nat} (hi : i < 9) (hAa : A a) (hAca : A ca) : Met l yX0_addWord (.code yX0_addWord cX0_addWord 3 (none : Option Jvm.ClassFile.FieldType) :: GW) rmX0_addWord (PC G A [.ref a, .ref (G.2.2 (20 + i))] (fun H => H.size = sz ∧ LA G a ca t H)) (qV A (fun H => H.size = sz ∧ LA G a ca ((t ++ stx i).take 60) H)) 0 0 (A) := by
  refine mstart "Signtext$Line" (by decide +kernel) rfl (Nat.le_of_ble_eq_true rfl) ?_
  intro p e s m below meth c ls hx hb hr hts hown hml hlocks hname hC hA hW hl
  have hl : lv_has ls 3 [(0, .ref a), (1, .ref (G.2.2 (20 + i)))] := hl
  have hK := hC.1
  have hS : va_S A s.heap s.heap [] := va_S.rf
  obtain ⟨hsz, hW⟩ := hW
  obtain ⟨c1, c2, c3, c4⟩ := hC.2.2.2.1 i hi
  have t60 := hW.1
  have hi5 := stx_len hi
  refine lv_iconst (v := nI 0) hx hb dX0_addWord_0 (by decide) ?_
  refine lv_istore_n (lv' := [(2, .int (nI 0)), (0, .ref a), (1, .ref (G.2.2 (20 + i)))]) hx hb dX0_addWord_1 rfl hl (by decide) rfl (fun ls hl => ?_)
  refine nloop (P := fun j => ∀ (ls : Array Slot) (H : Heap) (L : List Loc), lv_has ls 3 [(2, .int (nI j)), (0, .ref a), (1, .ref (G.2.2 (20 + i)))] → va_S A s.heap H L → H.size = sz → LA G a ca ((t ++ (stx i).take j).take 60) H → W p l e rmX0_addWord s m [.ref a, .ref (G.2.2 (20 + i))].toArray below meth c H L 0 0 (MQ below (qV A (fun H => H.size = sz ∧ LA G a ca ((t ++ stx i).take 60) H)) [.ref a, .ref (G.2.2 (20 + i))].toArray s 0 0 (A)) (F0 m 2 ls [])) ((stx i).length) ?_ 0 (Nat.zero_le _) ls s.heap [] hl hS hsz (by rw [List.take_zero, List.append_nil, List.take_of_length_le t60]; exact hW)
  clear hl
  intro j hj ih ls H L hl
  clear hS hW
  intro hS hsz2 hW
  have hZ0 := hS.1
  refine lv_iload_n hx hb dX0_addWord_2 rfl (lv_at hl 0 rfl) ?_
  refine lv_aload_n hx hb dX0_addWord_3 rfl (lv_at hl 2 rfl) ?_
  refine kV_i (A := A) (b := (G.2.2 (20 + i))) (As := []) (rest := .int (nI j) :: []) ⟨hx, hb, hml, hown, hts⟩ (mJ0_length_8abf5 (A := A) hi) (cwV 0 hts (gV tw_1_85 tw_1_86 tw_1_87 tw_1_4 tw_1_88) rfl rfl rfl (by decide +kernel) ⟨Nat.le_of_ble_eq_true rfl, Nat.le_of_ble_eq_true rfl⟩) hC hS hA (va_Orecv c1 hS) trivial rfl rfl hl.1 (Nat.le_of_ble_eq_true rfl) ⟨Nat.zero_le _, Nat.zero_le _⟩ dX0_addWord_4 (fun r9 h9 => lv_cv h9 ?_)
  refine b_ge (tgt := 25) hx hb dX0_addWord_7 (by decide) (by omega) (by omega) (fun c_4 => ?_) (fun c_4 => ?_)
  · obtain rfl : j = (stx i).length := by omega
    rw [List.take_length] at hW
    exact q_v hx hb hr hlocks dX0_addWord_25 hS (Nat.le_refl _) (Nat.le_refl _) ⟨hsz2, hW⟩
  · refine lv_aload_n hx hb dX0_addWord_10 rfl (lv_at hl 1 rfl) ?_
    refine lv_aload_n hx hb dX0_addWord_11 rfl (lv_at hl 2 rfl) ?_
    refine lv_iload_n hx hb dX0_addWord_12 rfl (lv_at hl 0 rfl) ?_
    refine kV_i (A := A) (b := (G.2.2 (20 + i))) (As := [.int (nI j)]) (rest := .ref a :: []) ⟨hx, hb, hml, hown, hts⟩ (mJ0_charAt_5068e (A := A) hi (j := j) (by omega)) (cwV 1 hts (gV tw_1_95 tw_1_96 tw_1_97 tw_1_4 tw_1_98) rfl rfl rfl (by decide +kernel) ⟨Nat.le_of_ble_eq_true rfl, Nat.le_of_ble_eq_true rfl⟩) hC hS hA (va_Orecv c1 hS) trivial rfl rfl hl.1 (Nat.le_of_ble_eq_true rfl) ⟨Nat.zero_le _, Nat.zero_le _⟩ dX0_addWord_13 (fun r9 h9 => lv_cv h9 ?_)
    refine qV_V (A := A) (A1 := ow a ca H.size) (b := a) (As := [.int (nI ((stx i).getD j 0))]) (rest := []) ⟨hx, hb, hml, hown, hts⟩ (mX0_addCode_z (A := ow a ca H.size) (ca := ca) (sz := sz) (k0 := (stx i).getD j 0) (Or.inl rfl) (Or.inr (Or.inl rfl)) (stx_lt hi j)) (cwV 1 hts (gV tw_1_133 tw_1_134 tw_1_135 tw_1_2 tw_1_136) rfl rfl rfl (by decide +kernel) ⟨Nat.le_of_ble_eq_true rfl, Nat.le_of_ble_eq_true rfl⟩) hC hS (ow_in hAa hAca hA hZ0) ow_n (hW.recv hK) ⟨hsz2, hW⟩ rfl rfl hl.1 (Nat.le_of_ble_eq_true rfl) ⟨Nat.zero_le _, Nat.zero_le _⟩ dX0_addWord_16 (fun H5 L5 hP5 hk5 hS => ?_)
    have hZ5 := hS.1
    refine lv_iinc (v := nI (j + 1)) (lv' := [(2, .int (nI (j + 1))), (0, .ref a), (1, .ref (G.2.2 (20 + i)))]) hx hb dX0_addWord_19 hl (k := 0) rfl (nI_add j 1) (by decide) rfl (fun ls hl => ?_)
    refine lv_goto (tgt := 2) hx hb dX0_addWord_22 (by decide) ?_
    exact ih (j + 1) (by omega) (by omega) ls H5 L5 (lv_sub hl [0, 1, 2] rfl) hS hP5.1 (by rw [take_succ_getD (t := stx i) (j := j) (by omega), ← List.append_assoc, ← take_take60]; exact hP5.2)
abbrev rmX2_init : Room := { frames := 5, cells := 38, slots := 1200, locals := 107 }
theorem mX2_init {l : Launch} {G : Cx} {A : Nat → Prop} {a n : Nat} (hAa : A a) : Met l yX2_init (.code yX2_init cX2_init 2 (none : Option Jvm.ClassFile.FieldType) :: GW) rmX2_init (PC G A [.ref a] (fun H => H.size = n ∧ va_at G.1 vwCl (a, .inr (6, [.null, .null, .null, .null, .int 0, .null, .null, .null])) H)) (qV A (fun H => H.size = n + 38 ∧ SW G (SAc a n) T0c [] [] 0 H)) 38 1200 (A) := by
  refine mstart "Signtext" (by decide +kernel) rfl (Nat.le_of_ble_eq_true rfl) ?_
  intro p e s m below meth c ls hx hb hr hts hown hml hlocks hname hC hA hW hl
  have hl : lv_has ls 2 [(0, .ref a)] := hl
  have hK := hC.1
  have hS : va_S A s.heap s.heap [] := va_S.rf
  obtain ⟨hn, hO⟩ := hW
  have han : a < s.heap.size := hO.lt
  refine lv_aload_n hx hb dX2_init_0 rfl (lv_at hl 0 rfl) ?_
  refine W.objInit hx hb hown (hts _ tw_1_34) (hts _ tw_1_35) (hts _ tw_1_36) rfl (by rw [hml]; exact hl.1) rfl dX2_init_1 (Nat.le_of_ble_eq_true rfl) (Nat.le_of_ble_eq_true rfl) ?_
  refine W.eq (g2 := F0 m 4 ls []) rfl ?_
  refine lv_aload_n hx hb dX2_init_4 rfl (lv_at hl 0 rfl) ?_
  refine lv_iconst (v := nI 4) hx hb dX2_init_5 (by decide) ?_
  refine h_newq (D := G.1) (N' := 4) hx hb hown (hts _ tw_1_37) hC.2.2.2.2.2.2.2.2.1 hK 3 rfl hS (nI_pos (by decide)) (nI_clamp (by decide)) (by decide) (Nat.le_trans (show 0 + 1 ≤ 38 by omega) (Nat.le_of_ble_eq_true rfl)) (Nat.le_trans (show 0 + 4 ≤ 1200 by omega) (Nat.le_of_ble_eq_true rfl)) dX2_init_6 (fun q6 H6 hq6 hX z6 o6 hS => ?_)
  obtain rfl : n = q6 := by omega
  have hO := at_n hO o6
  have hZ6 := hS.1
  refine h_putF (D := G.1) (ci := 6) (C := RX2) (T := TX2) (N := 8) hx hb hts inX2 tyX2 tyX2_ok nmX2 hown hK hO hS hAa rfl 0 (by decide) (hts _ tw_1_137) (fun _ h9 => h9) rfl hname rfl (tyX2_ok 0 (by decide)) rfl rfl (Nat.le_of_ble_eq_true rfl) dX2_init_9 (fun H7 L7 hO z7 o7 hS => ?_)
  have hO : va_at G.1 vwCl (a, .inr (6, [.ref n, .null, .null, .null, .int 0, .null, .null, .null])) H7 := hO
  have hX := at_o hX o7 (by omega)
  have hZ7 := hS.1
  refine lv_aload_n hx hb dX2_init_12 rfl (lv_at hl 0 rfl) ?_
  refine lv_bipush (v := nI 7) hx hb dX2_init_13 (by decide) ?_
  refine h_newq (D := G.1) (N' := 7) hx hb hown (hts _ tw_1_37) hC.2.2.2.2.2.2.2.2.1 hK 3 rfl hS (nI_pos (by decide)) (nI_clamp (by decide)) (by decide) (Nat.le_trans (show (0 + 1) + 1 ≤ 38 by omega) (Nat.le_of_ble_eq_true rfl)) (Nat.le_trans (show (0 + 4) + 7 ≤ 1200 by omega) (Nat.le_of_ble_eq_true rfl)) dX2_init_15 (fun q8 H8 hq8 hY z8 o8 hS => ?_)
  obtain rfl : n + 1 = q8 := by omega
  have hO := at_n hO o8
  have hX := at_n hX o8
  have hZ8 := hS.1
  refine h_putF (D := G.1) (ci := 6) (C := RX2) (T := TX2) (N := 8) hx hb hts inX2 tyX2 tyX2_ok nmX2 hown hK hO hS hAa rfl 1 (by decide) (hts _ tw_1_138) (fun _ h9 => h9) rfl hname rfl (tyX2_ok 1 (by decide)) rfl rfl (Nat.le_of_ble_eq_true rfl) dX2_init_18 (fun H9 L9 hO z9 o9 hS => ?_)
  have hO : va_at G.1 vwCl (a, .inr (6, [.ref n, .ref (n + 1), .null, .null, .int 0, .null, .null, .null])) H9 := hO
  have hX := at_o hX o9 (by omega)
  have hY := at_o hY o9 (by omega)
  have hZ9 := hS.1
  refine lv_aload_n hx hb dX2_init_21 rfl (lv_at hl 0 rfl) ?_
  refine h_new (D := G.1) (C := RX0) (T := TX0) (N := 2) (ci := 4) (fs := [.null, .int 0]) hx hb hts inX0 tyX0 tyX0_ok hown (hts _ tw_1_37) (hts _ tw_1_39) (hts _ tw_1_2) hK hS rfl (fun j hj => match j, hj with | 0, _ => rfl | 1, _ => rfl) (Nat.le_trans (show ((0 + 1) + 1) + 1 ≤ 38 by omega) (Nat.le_of_ble_eq_true rfl)) (Nat.le_trans (show ((0 + 4) + 7) + 2 ≤ 1200 by omega) (Nat.le_of_ble_eq_true rfl)) dX2_init_22 (fun w_10 H11 hw_10 hOw_10 z11 o11 hS => ?_)
  have hZ11 := hS.1
  have hMw_10 : A w_10 := hA w_10 (by omega)
  obtain rfl : n + 2 = w_10 := by omega
  have hO := at_n hO o11
  have hX := at_n hX o11
  have hY := at_n hY o11
  refine lv_dup hx hb dX2_init_25 rfl ?_
  refine qV_IN (A := A) (A1 := ow (n + 2) (n + 2) H11.size) (b := (n + 2)) (As := []) (rest := .ref (n + 2) :: .ref a :: []) ⟨hx, hb, hml, hown, hts⟩ (mX0_init (A := ow (n + 2) (n + 2) H11.size) (a := n + 2) (sz := H11.size) (Or.inl rfl)) ⟨va_cnB 0 hts (gI tw_1_42) rfl rfl rfl hC.2.2.2.2.2.1 (hts _ tw_1_2) (by decide +kernel) ⟨Nat.le_of_ble_eq_true rfl, Nat.le_of_ble_eq_true rfl⟩, rfl, hts _ tw_1_41⟩ hC hS (ow_in hMw_10 hMw_10 hA (by omega)) ow_n  ⟨rfl, hOw_10⟩ rfl rfl hl.1 (Nat.le_of_ble_eq_true rfl) ⟨Nat.le_trans (show (((0 + 1) + 1) + 1) + 1 ≤ 38 by omega) (Nat.le_of_ble_eq_true rfl), Nat.le_trans (show (((0 + 4) + 7) + 2) + 60 ≤ 1200 by omega) (Nat.le_of_ble_eq_true rfl)⟩ dX2_init_26 (fun H12 L12 hP12 hk12 hS => ?_)
  have hZ12 := hS.1
  obtain ⟨ca12, hc12, hz12, hRw⟩ := hP12
  have hcl12 := hRw.lt.2
  obtain rfl : n + 2 + 1 = ca12 := by omega
  have hO := at_kp hO hk12 (ow_no (by omega) (by omega) (by omega))
  have hX := at_kp hX hk12 (ow_no (by omega) (by omega) (by omega))
  have hY := at_kp hY hk12 (ow_no (by omega) (by omega) (by omega))
  refine h_putF (D := G.1) (ci := 6) (C := RX2) (T := TX2) (N := 8) hx hb hts inX2 tyX2 tyX2_ok nmX2 hown hK hO hS hAa rfl 2 (by decide) (hts _ tw_1_139) (fun _ h9 => h9) rfl hname rfl (tyX2_ok 2 (by decide)) rfl rfl (Nat.le_of_ble_eq_true rfl) dX2_init_29 (fun H13 L13 hO z13 o13 hS => ?_)
  have hO : va_at G.1 vwCl (a, .inr (6, [.ref n, .ref (n + 1), .ref (n + 2), .null, .int 0, .null, .null, .null])) H13 := hO
  have hX := at_o hX o13 (by omega)
  have hY := at_o hY o13 (by omega)
  have hRw := LA.o hRw o13 (by omega) (by omega)
  have hZ13 := hS.1
  refine lv_aload_n hx hb dX2_init_32 rfl (lv_at hl 0 rfl) ?_
  refine h_new (D := G.1) (C := RX1) (T := TX1) (N := 3) (ci := 5) (fs := [.null, .null, .int 0]) hx hb hts inX1 tyX1 tyX1_ok hown (hts _ tw_1_52) (hts _ tw_1_53) (hts _ tw_1_3) hK hS rfl (fun j hj => match j, hj with | 0, _ => rfl | 1, _ => rfl | 2, _ => rfl) (Nat.le_trans (show ((((0 + 1) + 1) + 1) + 1) + 1 ≤ 38 by omega) (Nat.le_of_ble_eq_true rfl)) (Nat.le_trans (show ((((0 + 4) + 7) + 2) + 60) + 3 ≤ 1200 by omega) (Nat.le_of_ble_eq_true rfl)) dX2_init_33 (fun w_14 H15 hw_14 hOw_14 z15 o15 hS => ?_)
  have hZ15 := hS.1
  have hMw_14 : A w_14 := hA w_14 (by omega)
  obtain rfl : n + 4 = w_14 := by omega
  have hO := at_n hO o15
  have hX := at_n hX o15
  have hY := at_n hY o15
  have hRw := LA.n hRw o15
  refine lv_dup hx hb dX2_init_36 rfl ?_
  refine qV_IN (A := A) (A1 := ow (n + 4) (n + 4) H15.size) (b := (n + 4)) (As := []) (rest := .ref (n + 4) :: .ref a :: []) ⟨hx, hb, hml, hown, hts⟩ (mX1_init (A := ow (n + 4) (n + 4) H15.size) (a := n + 4) (sz := H15.size) (Or.inl rfl)) ⟨va_cnB 0 hts (gI tw_1_56) rfl rfl rfl hC.2.2.2.2.2.2.1 (hts _ tw_1_3) (by decide +kernel) ⟨Nat.le_of_ble_eq_true rfl, Nat.le_of_ble_eq_true rfl⟩, rfl, hts _ tw_1_55⟩ hC hS (ow_in hMw_14 hMw_14 hA (by omega)) ow_n  ⟨rfl, hOw_14⟩ rfl rfl hl.1 (Nat.le_of_ble_eq_true rfl) ⟨Nat.le_trans (show (((((0 + 1) + 1) + 1) + 1) + 1) + 3 ≤ 38 by omega) (Nat.le_of_ble_eq_true rfl), Nat.le_trans (show (((((0 + 4) + 7) + 2) + 60) + 3) + 123 ≤ 1200 by omega) (Nat.le_of_ble_eq_true rfl)⟩ dX2_init_37 (fun H16 L16 hP16 hk16 hS => ?_)
  have hZ16 := hS.1
  obtain ⟨hz16, hPc⟩ := hP16
  rw [show H15.size = n + 4 + 1 by omega] at hPc
  have hO := at_kp hO hk16 (ow_no (by omega) (by omega) (by omega))
  have hX := at_kp hX hk16 (ow_no (by omega) (by omega) (by omega))
  have hY := at_kp hY hk16 (ow_no (by omega) (by omega) (by omega))
  have hRw := LA.kp hRw hk16 (ow_no (by omega) (by omega) (by omega)) (ow_no (by omega) (by omega) (by omega))
  refine h_putF (D := G.1) (ci := 6) (C := RX2) (T := TX2) (N := 8) hx hb hts inX2 tyX2 tyX2_ok nmX2 hown hK hO hS hAa rfl 3 (by decide) (hts _ tw_1_140) (fun _ h9 => h9) rfl hname rfl (tyX2_ok 3 (by decide)) rfl rfl (Nat.le_of_ble_eq_true rfl) dX2_init_40 (fun H17 L17 hO z17 o17 hS => ?_)
  have hO : va_at G.1 vwCl (a, .inr (6, [.ref n, .ref (n + 1), .ref (n + 2), .ref (n + 4), .int 0, .null, .null, .null])) H17 := hO
  have hX := at_o hX o17 (by omega)
  have hY := at_o hY o17 (by omega)
  have hRw := LA.o hRw o17 (by omega) (by omega)
  have hPc := PA.o hPc o17 (by omega) (by omega) (by omega) (by omega)
  have hZ17 := hS.1
  refine lv_aload_n hx hb dX2_init_43 rfl (lv_at hl 0 rfl) ?_
  refine lv_iconst (v := nI 0) hx hb dX2_init_44 (by decide) ?_
  refine h_put (D := G.1) (ci := 6) (C := RX2) (T := TX2) (N := 8) hx hb hts inX2 tyX2 tyX2_ok nmX2 hown hK hO hS hAa rfl 4 (by decide) (hts _ tw_1_141) (fun _ h9 => h9) rfl (tyX2_ok 4 (by decide)) rfl rfl (Nat.le_of_ble_eq_true rfl) dX2_init_45 (fun H18 L18 hO z18 o18 hS => ?_)
  have hO : va_at G.1 vwCl (a, .inr (6, [.ref n, .ref (n + 1), .ref (n + 2), .ref (n + 4), .int (nI 0), .null, .null, .null])) H18 := hO
  have hX := at_o hX o18 (by omega)
  have hY := at_o hY o18 (by omega)
  have hRw := LA.o hRw o18 (by omega) (by omega)
  have hPc := PA.o hPc o18 (by omega) (by omega) (by omega) (by omega)
  have hZ18 := hS.1
  refine lv_aload_n hx hb dX2_init_48 rfl (lv_at hl 0 rfl) ?_
  refine h_new (D := G.1) (C := RX0) (T := TX0) (N := 2) (ci := 4) (fs := [.null, .int 0]) hx hb hts inX0 tyX0 tyX0_ok hown (hts _ tw_1_37) (hts _ tw_1_39) (hts _ tw_1_2) hK hS rfl (fun j hj => match j, hj with | 0, _ => rfl | 1, _ => rfl) (Nat.le_trans (show ((((((0 + 1) + 1) + 1) + 1) + 1) + 3) + 1 ≤ 38 by omega) (Nat.le_of_ble_eq_true rfl)) (Nat.le_trans (show ((((((0 + 4) + 7) + 2) + 60) + 3) + 123) + 2 ≤ 1200 by omega) (Nat.le_of_ble_eq_true rfl)) dX2_init_49 (fun w_19 H20 hw_19 hOw_19 z20 o20 hS => ?_)
  have hZ20 := hS.1
  have hMw_19 : A w_19 := hA w_19 (by omega)
  obtain rfl : n + 8 = w_19 := by omega
  have hO := at_n hO o20
  have hX := at_n hX o20
  have hY := at_n hY o20
  have hRw := LA.n hRw o20
  have hPc := PA.n hPc o20
  refine lv_dup hx hb dX2_init_52 rfl ?_
  refine qV_IN (A := A) (A1 := ow (n + 8) (n + 8) H20.size) (b := (n + 8)) (As := []) (rest := .ref (n + 8) :: .ref a :: []) ⟨hx, hb, hml, hown, hts⟩ (mX0_init (A := ow (n + 8) (n + 8) H20.size) (a := n + 8) (sz := H20.size) (Or.inl rfl)) ⟨va_cnB 0 hts (gI tw_1_42) rfl rfl rfl hC.2.2.2.2.2.1 (hts _ tw_1_2) (by decide +kernel) ⟨Nat.le_of_ble_eq_true rfl, Nat.le_of_ble_eq_true rfl⟩, rfl, hts _ tw_1_41⟩ hC hS (ow_in hMw_19 hMw_19 hA (by omega)) ow_n  ⟨rfl, hOw_19⟩ rfl rfl hl.1 (Nat.le_of_ble_eq_true rfl) ⟨Nat.le_trans (show (((((((0 + 1) + 1) + 1) + 1) + 1) + 3) + 1) + 1 ≤ 38 by omega) (Nat.le_of_ble_eq_true rfl), Nat.le_trans (show (((((((0 + 4) + 7) + 2) + 60) + 3) + 123) + 2) + 60 ≤ 1200 by omega) (Nat.le_of_ble_eq_true rfl)⟩ dX2_init_53 (fun H21 L21 hP21 hk21 hS => ?_)
  have hZ21 := hS.1
  obtain ⟨ca21, hc21, hz21, hMd⟩ := hP21
  have hcl21 := hMd.lt.2
  obtain rfl : n + 8 + 1 = ca21 := by omega
  have hO := at_kp hO hk21 (ow_no (by omega) (by omega) (by omega))
  have hX := at_kp hX hk21 (ow_no (by omega) (by omega) (by omega))
  have hY := at_kp hY hk21 (ow_no (by omega) (by omega) (by omega))
  have hRw := LA.kp hRw hk21 (ow_no (by omega) (by omega) (by omega)) (ow_no (by omega) (by omega) (by omega))
  have hPc := PA.kp hPc hk21 (ow_no (by omega) (by omega) (by omega)) (ow_no (by omega) (by omega) (by omega)) (ow_no (by omega) (by omega) (by omega)) (ow_no (by omega) (by omega) (by omega))
  refine h_putF (D := G.1) (ci := 6) (C := RX2) (T := TX2) (N := 8) hx hb hts inX2 tyX2 tyX2_ok nmX2 hown hK hO hS hAa rfl 5 (by decide) (hts _ tw_1_142) (fun _ h9 => h9) rfl hname rfl (tyX2_ok 5 (by decide)) rfl rfl (Nat.le_of_ble_eq_true rfl) dX2_init_56 (fun H22 L22 hO z22 o22 hS => ?_)
  have hO : va_at G.1 vwCl (a, .inr (6, [.ref n, .ref (n + 1), .ref (n + 2), .ref (n + 4), .int (nI 0), .ref (n + 8), .null, .null])) H22 := hO
  have hX := at_o hX o22 (by omega)
  have hY := at_o hY o22 (by omega)
  have hRw := LA.o hRw o22 (by omega) (by omega)
  have hMd := LA.o hMd o22 (by omega) (by omega)
  have hPc := PA.o hPc o22 (by omega) (by omega) (by omega) (by omega)
  have hZ22 := hS.1
  refine lv_aload_n hx hb dX2_init_59 rfl (lv_at hl 0 rfl) ?_
  refine h_new (D := G.1) (C := RX0) (T := TX0) (N := 2) (ci := 4) (fs := [.null, .int 0]) hx hb hts inX0 tyX0 tyX0_ok hown (hts _ tw_1_37) (hts _ tw_1_39) (hts _ tw_1_2) hK hS rfl (fun j hj => match j, hj with | 0, _ => rfl | 1, _ => rfl) (Nat.le_trans (show ((((((((0 + 1) + 1) + 1) + 1) + 1) + 3) + 1) + 1) + 1 ≤ 38 by omega) (Nat.le_of_ble_eq_true rfl)) (Nat.le_trans (show ((((((((0 + 4) + 7) + 2) + 60) + 3) + 123) + 2) + 60) + 2 ≤ 1200 by omega) (Nat.le_of_ble_eq_true rfl)) dX2_init_60 (fun w_23 H24 hw_23 hOw_23 z24 o24 hS => ?_)
  have hZ24 := hS.1
  have hMw_23 : A w_23 := hA w_23 (by omega)
  obtain rfl : n + 10 = w_23 := by omega
  have hO := at_n hO o24
  have hX := at_n hX o24
  have hY := at_n hY o24
  have hRw := LA.n hRw o24
  have hMd := LA.n hMd o24
  have hPc := PA.n hPc o24
  refine lv_dup hx hb dX2_init_63 rfl ?_
  refine qV_IN (A := A) (A1 := ow (n + 10) (n + 10) H24.size) (b := (n + 10)) (As := []) (rest := .ref (n + 10) :: .ref a :: []) ⟨hx, hb, hml, hown, hts⟩ (mX0_init (A := ow (n + 10) (n + 10) H24.size) (a := n + 10) (sz := H24.size) (Or.inl rfl)) ⟨va_cnB 0 hts (gI tw_1_42) rfl rfl rfl hC.2.2.2.2.2.1 (hts _ tw_1_2) (by decide +kernel) ⟨Nat.le_of_ble_eq_true rfl, Nat.le_of_ble_eq_true rfl⟩, rfl, hts _ tw_1_41⟩ hC hS (ow_in hMw_23 hMw_23 hA (by omega)) ow_n  ⟨rfl, hOw_23⟩ rfl rfl hl.1 (Nat.le_of_ble_eq_true rfl) ⟨Nat.le_trans (show (((((((((0 + 1) + 1) + 1) + 1) + 1) + 3) + 1) + 1) + 1) + 1 ≤ 38 by omega) (Nat.le_of_ble_eq_true rfl), Nat.le_trans (show (((((((((0 + 4) + 7) + 2) + 60) + 3) + 123) + 2) + 60) + 2) + 60 ≤ 1200 by omega) (Nat.le_of_ble_eq_true rfl)⟩ dX2_init_64 (fun H25 L25 hP25 hk25 hS => ?_)
  have hZ25 := hS.1
  obtain ⟨ca25, hc25, hz25, hDr⟩ := hP25
  have hcl25 := hDr.lt.2
  obtain rfl : n + 10 + 1 = ca25 := by omega
  have hO := at_kp hO hk25 (ow_no (by omega) (by omega) (by omega))
  have hX := at_kp hX hk25 (ow_no (by omega) (by omega) (by omega))
  have hY := at_kp hY hk25 (ow_no (by omega) (by omega) (by omega))
  have hRw := LA.kp hRw hk25 (ow_no (by omega) (by omega) (by omega)) (ow_no (by omega) (by omega) (by omega))
  have hMd := LA.kp hMd hk25 (ow_no (by omega) (by omega) (by omega)) (ow_no (by omega) (by omega) (by omega))
  have hPc := PA.kp hPc hk25 (ow_no (by omega) (by omega) (by omega)) (ow_no (by omega) (by omega) (by omega)) (ow_no (by omega) (by omega) (by omega)) (ow_no (by omega) (by omega) (by omega))
  refine h_putF (D := G.1) (ci := 6) (C := RX2) (T := TX2) (N := 8) hx hb hts inX2 tyX2 tyX2_ok nmX2 hown hK hO hS hAa rfl 6 (by decide) (hts _ tw_1_143) (fun _ h9 => h9) rfl hname rfl (tyX2_ok 6 (by decide)) rfl rfl (Nat.le_of_ble_eq_true rfl) dX2_init_67 (fun H26 L26 hO z26 o26 hS => ?_)
  have hO : va_at G.1 vwCl (a, .inr (6, [.ref n, .ref (n + 1), .ref (n + 2), .ref (n + 4), .int (nI 0), .ref (n + 8), .ref (n + 10), .null])) H26 := hO
  have hX := at_o hX o26 (by omega)
  have hY := at_o hY o26 (by omega)
  have hRw := LA.o hRw o26 (by omega) (by omega)
  have hMd := LA.o hMd o26 (by omega) (by omega)
  have hDr := LA.o hDr o26 (by omega) (by omega)
  have hPc := PA.o hPc o26 (by omega) (by omega) (by omega) (by omega)
  have hZ26 := hS.1
  refine lv_aload_n hx hb dX2_init_70 rfl (lv_at hl 0 rfl) ?_
  refine h_new (D := G.1) (C := RX1) (T := TX1) (N := 3) (ci := 5) (fs := [.null, .null, .int 0]) hx hb hts inX1 tyX1 tyX1_ok hown (hts _ tw_1_52) (hts _ tw_1_53) (hts _ tw_1_3) hK hS rfl (fun j hj => match j, hj with | 0, _ => rfl | 1, _ => rfl | 2, _ => rfl) (Nat.le_trans (show ((((((((((0 + 1) + 1) + 1) + 1) + 1) + 3) + 1) + 1) + 1) + 1) + 1 ≤ 38 by omega) (Nat.le_of_ble_eq_true rfl)) (Nat.le_trans (show ((((((((((0 + 4) + 7) + 2) + 60) + 3) + 123) + 2) + 60) + 2) + 60) + 3 ≤ 1200 by omega) (Nat.le_of_ble_eq_true rfl)) dX2_init_71 (fun w_27 H28 hw_27 hOw_27 z28 o28 hS => ?_)
  have hZ28 := hS.1
  have hMw_27 : A w_27 := hA w_27 (by omega)
  obtain rfl : n + 12 = w_27 := by omega
  have hO := at_n hO o28
  have hX := at_n hX o28
  have hY := at_n hY o28
  have hRw := LA.n hRw o28
  have hMd := LA.n hMd o28
  have hDr := LA.n hDr o28
  have hPc := PA.n hPc o28
  refine lv_dup hx hb dX2_init_74 rfl ?_
  refine qV_IN (A := A) (A1 := ow (n + 12) (n + 12) H28.size) (b := (n + 12)) (As := []) (rest := .ref (n + 12) :: .ref a :: []) ⟨hx, hb, hml, hown, hts⟩ (mX1_init (A := ow (n + 12) (n + 12) H28.size) (a := n + 12) (sz := H28.size) (Or.inl rfl)) ⟨va_cnB 0 hts (gI tw_1_56) rfl rfl rfl hC.2.2.2.2.2.2.1 (hts _ tw_1_3) (by decide +kernel) ⟨Nat.le_of_ble_eq_true rfl, Nat.le_of_ble_eq_true rfl⟩, rfl, hts _ tw_1_55⟩ hC hS (ow_in hMw_27 hMw_27 hA (by omega)) ow_n  ⟨rfl, hOw_27⟩ rfl rfl hl.1 (Nat.le_of_ble_eq_true rfl) ⟨Nat.le_trans (show (((((((((((0 + 1) + 1) + 1) + 1) + 1) + 3) + 1) + 1) + 1) + 1) + 1) + 3 ≤ 38 by omega) (Nat.le_of_ble_eq_true rfl), Nat.le_trans (show (((((((((((0 + 4) + 7) + 2) + 60) + 3) + 123) + 2) + 60) + 2) + 60) + 3) + 123 ≤ 1200 by omega) (Nat.le_of_ble_eq_true rfl)⟩ dX2_init_75 (fun H29 L29 hP29 hk29 hS => ?_)
  have hZ29 := hS.1
  obtain ⟨hz29, hTr⟩ := hP29
  rw [show H28.size = n + 12 + 1 by omega] at hTr
  have hO := at_kp hO hk29 (ow_no (by omega) (by omega) (by omega))
  have hX := at_kp hX hk29 (ow_no (by omega) (by omega) (by omega))
  have hY := at_kp hY hk29 (ow_no (by omega) (by omega) (by omega))
  have hRw := LA.kp hRw hk29 (ow_no (by omega) (by omega) (by omega)) (ow_no (by omega) (by omega) (by omega))
  have hMd := LA.kp hMd hk29 (ow_no (by omega) (by omega) (by omega)) (ow_no (by omega) (by omega) (by omega))
  have hDr := LA.kp hDr hk29 (ow_no (by omega) (by omega) (by omega)) (ow_no (by omega) (by omega) (by omega))
  have hPc := PA.kp hPc hk29 (ow_no (by omega) (by omega) (by omega)) (ow_no (by omega) (by omega) (by omega)) (ow_no (by omega) (by omega) (by omega)) (ow_no (by omega) (by omega) (by omega))
  refine h_putF (D := G.1) (ci := 6) (C := RX2) (T := TX2) (N := 8) hx hb hts inX2 tyX2 tyX2_ok nmX2 hown hK hO hS hAa rfl 7 (by decide) (hts _ tw_1_144) (fun _ h9 => h9) rfl hname rfl (tyX2_ok 7 (by decide)) rfl rfl (Nat.le_of_ble_eq_true rfl) dX2_init_78 (fun H30 L30 hO z30 o30 hS => ?_)
  have hO : va_at G.1 vwCl (a, .inr (6, [.ref n, .ref (n + 1), .ref (n + 2), .ref (n + 4), .int (nI 0), .ref (n + 8), .ref (n + 10), .ref (n + 12)])) H30 := hO
  have hX := at_o hX o30 (by omega)
  have hY := at_o hY o30 (by omega)
  have hRw := LA.o hRw o30 (by omega) (by omega)
  have hMd := LA.o hMd o30 (by omega) (by omega)
  have hDr := LA.o hDr o30 (by omega) (by omega)
  have hPc := PA.o hPc o30 (by omega) (by omega) (by omega) (by omega)
  have hTr := PA.o hTr o30 (by omega) (by omega) (by omega) (by omega)
  have hZ30 := hS.1
  refine lv_iconst (v := nI 0) hx hb dX2_init_81 (by decide) ?_
  refine lv_istore_n (lv' := [(1, .int (nI 0)), (0, .ref a)]) hx hb dX2_init_82 rfl hl (by decide) rfl (fun ls hl => ?_)
  have hsz : H30.size = n + 16 := by omega
  refine W.widen (k := 16 + 0 * 2) (n := 449 + 0 * 62) (by decide) (by decide) ?_
  refine nloop (P := fun j => ∀ (ls : Array Slot) (H : Heap) (L : List Loc) (f : Nat → Option Nat), lv_has ls 2 [(1, .int (nI j)), (0, .ref a)] → va_S A s.heap H L → H.size = n + 16 + 2 * j → va_at G.1 vwCl (a, .inr (6, [.ref n, .ref (n + 1), .ref (n + 2), .ref (n + 4), .int 0, .ref (n + 8), .ref (n + 10), .ref (n + 12)])) H → va_at G.1 vwCl (n, .inl (G.2.1 3, 4, .inr (.inr (.inr (.inr f))))) H → (∀ i : Nat, i < j → f i = some (n + 16 + 2 * i)) → va_at G.1 vwCl (n + 1, .inl (G.2.1 3, 7, .inr (.inr (.inr (.inr (fun _ => none)))))) H → LA G (n + 2) (n + 2 + 1) [] H → LA G (n + 8) (n + 8 + 1) [] H → LA G (n + 10) (n + 10 + 1) [] H → PA G (n + 4) (n + 4 + 1) (n + 4 + 1 + 1) (n + 4 + 1 + 2) [] [] H → PA G (n + 12) (n + 12 + 1) (n + 12 + 1 + 1) (n + 12 + 1 + 2) [] [] H → (∀ i : Nat, i < j → LA G (n + 16 + 2 * i) (n + 16 + 2 * i + 1) [] H) → W p l e rmX2_init s m [.ref a].toArray below meth c H L (16 + j * 2) (449 + j * 62) (MQ below (qV A (fun H => H.size = n + 38 ∧ SW G (SAc a n) T0c [] [] 0 H)) [.ref a].toArray s 38 1200 (A)) (F0 m 83 ls [])) 4 ?_ 0 (Nat.zero_le _) ls H30 L30 (fun _ => none) hl hS hsz hO hX (fun i hi => absurd hi (Nat.not_lt_zero i)) hY hRw hMd hDr hPc hTr (fun i hi => absurd hi (Nat.not_lt_zero i))
  clear hl
  intro j hj ih ls H L f hl
  clear hS hsz hO hX hY hRw hMd hDr hPc hTr
  intro hS hsz hO hX hf hY hRw hMd hDr hPc hTr hT
  have hZ0 := hS.1
  refine lv_iload_n hx hb dX2_init_83 rfl (lv_at hl 0 rfl) ?_
  refine lv_iconst (v := nI 4) hx hb dX2_init_84 (by decide) ?_
  refine b_ge (tgt := 107) hx hb dX2_init_85 (by decide) (by omega) (by omega) (fun c_31 => ?_) (fun c_31 => ?_)
  · obtain rfl : j = 4 := by omega
    refine lv_iconst (v := nI 0) hx hb dX2_init_107 (by decide) ?_
    refine lv_istore_n (lv' := [(1, .int (nI 0)), (0, .ref a)]) hx hb dX2_init_108 rfl hl (by decide) rfl (fun ls hl => ?_)
    refine W.widen (k := 24 + 0 * 2) (n := 697 + 0 * 62) (by decide) (by decide) ?_
    clear ih
    refine nloop (P := fun j => ∀ (ls : Array Slot) (H : Heap) (L : List Loc) (g : Nat → Option Nat), lv_has ls 2 [(1, .int (nI j)), (0, .ref a)] → va_S A s.heap H L → H.size = n + 24 + 2 * j → va_at G.1 vwCl (a, .inr (6, [.ref n, .ref (n + 1), .ref (n + 2), .ref (n + 4), .int 0, .ref (n + 8), .ref (n + 10), .ref (n + 12)])) H → va_at G.1 vwCl (n, .inl (G.2.1 3, 4, .inr (.inr (.inr (.inr f))))) H → va_at G.1 vwCl (n + 1, .inl (G.2.1 3, 7, .inr (.inr (.inr (.inr g))))) H → (∀ i : Nat, i < j → g i = some (n + 24 + 2 * i)) → LA G (n + 2) (n + 2 + 1) [] H → LA G (n + 8) (n + 8 + 1) [] H → LA G (n + 10) (n + 10 + 1) [] H → PA G (n + 4) (n + 4 + 1) (n + 4 + 1 + 1) (n + 4 + 1 + 2) [] [] H → PA G (n + 12) (n + 12 + 1) (n + 12 + 1 + 1) (n + 12 + 1 + 2) [] [] H → (∀ i : Nat, i < 4 → LA G (n + 16 + 2 * i) (n + 16 + 2 * i + 1) [] H) → (∀ i : Nat, i < j → LA G (n + 24 + 2 * i) (n + 24 + 2 * i + 1) (knT i) H) → W p l e rmX2_init s m [.ref a].toArray below meth c H L (24 + j * 2) (697 + j * 62) (MQ below (qV A (fun H => H.size = n + 38 ∧ SW G (SAc a n) T0c [] [] 0 H)) [.ref a].toArray s 38 1200 (A)) (F0 m 109 ls [])) 7 ?_ 0 (Nat.zero_le _) ls H L (fun _ => none) hl hS (by omega) hO hX hY (fun i hi => absurd hi (Nat.not_lt_zero i)) hRw hMd hDr hPc hTr hT (fun i hi => absurd hi (Nat.not_lt_zero i))
    clear hl
    intro j hj ih ls H L g hl
    clear hS hsz hO hX hY hRw hMd hDr hPc hTr hT
    intro hS hsz hO hX hY hg hRw hMd hDr hPc hTr hT hU
    have hZ0 := hS.1
    refine lv_iload_n hx hb dX2_init_109 rfl (lv_at hl 0 rfl) ?_
    refine lv_bipush (v := nI 7) hx hb dX2_init_110 (by decide) ?_
    refine b_ge (tgt := 147) hx hb dX2_init_112 (by decide) (by omega) (by omega) (fun c_32 => ?_) (fun c_32 => ?_)
    · exact q_v hx hb hr hlocks dX2_init_147 hS (by omega) (by omega) ⟨by omega, SWc (by omega) hO (at_fun hX hf) (at_fun hY (fun i hi => hg i (by omega))) hRw hMd hDr hPc hTr hT (fun i hi => hU i (by omega))⟩
    · refine lv_aload_n hx hb dX2_init_115 rfl (lv_at hl 1 rfl) ?_
      refine va_get (D := G.1) (ci := 6) (C := RX2) (T := TX2) (N := 8) hx hb hts inX2 hown hK (at_P hO) 0 rfl rfl 1 (by decide) (hts _ tw_1_138) (fun _ h9 => h9) rfl dX2_init_116 ?_
      refine lv_iload_n hx hb dX2_init_119 rfl (lv_at hl 0 rfl) ?_
      refine h_new (D := G.1) (C := RX0) (T := TX0) (N := 2) (ci := 4) (fs := [.null, .int 0]) hx hb hts inX0 tyX0 tyX0_ok hown (hts _ tw_1_37) (hts _ tw_1_39) (hts _ tw_1_2) hK hS rfl (fun j hj => match j, hj with | 0, _ => rfl | 1, _ => rfl) (Nat.le_trans (show (24 + j * 2) + 1 ≤ 38 by omega) (Nat.le_of_ble_eq_true rfl)) (Nat.le_trans (show (697 + j * 62) + 2 ≤ 1200 by omega) (Nat.le_of_ble_eq_true rfl)) dX2_init_120 (fun w_33 H34 hw_33 hOw_33 z34 o34 hS => ?_)
      have hZ34 := hS.1
      have hMw_33 : A w_33 := hA w_33 (by omega)
      obtain rfl : n + 24 + 2 * j = w_33 := by omega
      have hO := at_n hO o34
      have hX := at_n hX o34
      have hY := at_n hY o34
      have hRw := LA.n hRw o34
      have hMd := LA.n hMd o34
      have hDr := LA.n hDr o34
      have hPc := PA.n hPc o34
      have hTr := PA.n hTr o34
      refine lv_dup hx hb dX2_init_123 rfl ?_
      refine qV_IN (A := A) (A1 := ow (n + 24 + 2 * j) (n + 24 + 2 * j) H34.size) (b := (n + 24 + 2 * j)) (As := []) (rest := .ref (n + 24 + 2 * j) :: .int (nI j) :: .ref (n + 1) :: []) ⟨hx, hb, hml, hown, hts⟩ (mX0_init (A := ow (n + 24 + 2 * j) (n + 24 + 2 * j) H34.size) (a := n + 24 + 2 * j) (sz := H34.size) (Or.inl rfl)) ⟨va_cnB 0 hts (gI tw_1_42) rfl rfl rfl hC.2.2.2.2.2.1 (hts _ tw_1_2) (by decide +kernel) ⟨Nat.le_of_ble_eq_true rfl, Nat.le_of_ble_eq_true rfl⟩, rfl, hts _ tw_1_41⟩ hC hS (ow_in hMw_33 hMw_33 hA (by omega)) ow_n  ⟨rfl, hOw_33⟩ rfl rfl hl.1 (Nat.le_of_ble_eq_true rfl) ⟨Nat.le_trans (show ((24 + j * 2) + 1) + 1 ≤ 38 by omega) (Nat.le_of_ble_eq_true rfl), Nat.le_trans (show ((697 + j * 62) + 2) + 60 ≤ 1200 by omega) (Nat.le_of_ble_eq_true rfl)⟩ dX2_init_124 (fun H35 L35 hP35 hk35 hS => ?_)
      have hZ35 := hS.1
      obtain ⟨ca35, hc35, hz35, hLj⟩ := hP35
      have hcl35 := hLj.lt.2
      obtain rfl : n + 24 + 2 * j + 1 = ca35 := by omega
      have hO := at_kp hO hk35 (ow_no (by omega) (by omega) (by omega))
      have hX := at_kp hX hk35 (ow_no (by omega) (by omega) (by omega))
      have hY := at_kp hY hk35 (ow_no (by omega) (by omega) (by omega))
      have hRw := LA.kp hRw hk35 (ow_no (by omega) (by omega) (by omega)) (ow_no (by omega) (by omega) (by omega))
      have hMd := LA.kp hMd hk35 (ow_no (by omega) (by omega) (by omega)) (ow_no (by omega) (by omega) (by omega))
      have hDr := LA.kp hDr hk35 (ow_no (by omega) (by omega) (by omega)) (ow_no (by omega) (by omega) (by omega))
      have hPc := PA.kp hPc hk35 (ow_no (by omega) (by omega) (by omega)) (ow_no (by omega) (by omega) (by omega)) (ow_no (by omega) (by omega) (by omega)) (ow_no (by omega) (by omega) (by omega))
      have hTr := PA.kp hTr hk35 (ow_no (by omega) (by omega) (by omega)) (ow_no (by omega) (by omega) (by omega)) (ow_no (by omega) (by omega) (by omega)) (ow_no (by omega) (by omega) (by omega))
      have hT : ∀ i : Nat, i < 4 → LA G (n + 16 + 2 * i) (n + 16 + 2 * i + 1) [] H35 := fun i hi => LA.kp (LA.n (hT i hi) o34) hk35 (ow_no (by omega) (by omega) (by omega)) (ow_no (by omega) (by omega) (by omega))
      have hU : ∀ i : Nat, i < j → LA G (n + 24 + 2 * i) (n + 24 + 2 * i + 1) (knT i) H35 := fun i hi => LA.kp (LA.n (hU i hi) o34) hk35 (ow_no (by omega) (by omega) (by omega)) (ow_no (by omega) (by omega) (by omega))
      refine h_aast (D := G.1) (r := (RX0, TX0, 2)) hx hb hK 3 4 hY rfl hLj.2.2.2.1 rfl hS (hA _ (by omega)) (vp_in_nI (n := j) (N := 7) (by omega) (by omega)) dX2_init_127 (fun H36 L36 hY z36 o36 hS => ?_)
      rw [nI_clamp (n := j) (by omega)] at hY
      have hO := at_o hO o36 (by omega)
      have hX := at_o hX o36 (by omega)
      have hRw := LA.o hRw o36 (by omega) (by omega)
      have hMd := LA.o hMd o36 (by omega) (by omega)
      have hDr := LA.o hDr o36 (by omega) (by omega)
      have hLj := LA.o hLj o36 (by omega) (by omega)
      have hPc := PA.o hPc o36 (by omega) (by omega) (by omega) (by omega)
      have hTr := PA.o hTr o36 (by omega) (by omega) (by omega) (by omega)
      have hZ36 := hS.1
      have hT : ∀ i : Nat, i < 4 → LA G (n + 16 + 2 * i) (n + 16 + 2 * i + 1) [] H36 := fun i hi => LA.o (hT i hi) o36 (by omega) (by omega)
      have hU : ∀ i : Nat, i < j → LA G (n + 24 + 2 * i) (n + 24 + 2 * i + 1) (knT i) H36 := fun i hi => LA.o (hU i hi) o36 (by omega) (by omega)
      refine lv_aload_n hx hb dX2_init_128 rfl (lv_at hl 1 rfl) ?_
      refine va_get (D := G.1) (ci := 6) (C := RX2) (T := TX2) (N := 8) hx hb hts inX2 hown hK (at_P hO) 0 rfl rfl 1 (by decide) (hts _ tw_1_138) (fun _ h9 => h9) rfl dX2_init_129 ?_
      refine lv_iload_n hx hb dX2_init_132 rfl (lv_at hl 0 rfl) ?_
      refine va_aldq (D := G.1) hx hb hK (at_P hY) 0 3 rfl rfl (vp_in_nI (n := j) (N := 7) (by omega) (by omega)) dX2_init_133 ?_
      refine v_cv (show va_rf _ = .ref (n + 24 + 2 * j) from by rw [nI_clamp (n := j) (by omega)]; unfold va_up; rw [if_pos rfl]; rfl) ?_
      refine lv_iload_n hx hb dX2_init_134 rfl (lv_at hl 0 rfl) ?_
      refine kS_a (A := A) (As := [.int (nI j)]) (rest := .ref (n + 24 + 2 * j) :: []) ⟨hx, hb, hml, hown, hts⟩ (mX2_wordOfKnown (A := A) (i := j) (by omega)) (va_cwS 1 hts (gS tw_1_71 tw_1_72 tw_1_1 tw_1_73) rfl rfl rfl (by decide +kernel) ⟨Nat.le_of_ble_eq_true rfl, Nat.le_of_ble_eq_true rfl⟩) hC hS hA  trivial rfl rfl hl.1 (Nat.le_of_ble_eq_true rfl) ⟨Nat.le_trans (show (((24 + j * 2) + 1) + 1) ≤ 38 by omega) (Nat.le_of_ble_eq_true rfl), Nat.le_trans (show (((697 + j * 62) + 2) + 60) ≤ 1200 by omega) (Nat.le_of_ble_eq_true rfl)⟩ dX2_init_135 (fun a_37 ha_37 => ?_)
      obtain rfl : a_37 = G.2.2 (20 + wkN j) := ha_37
      refine qV_V (A := A) (A1 := ow (n + 24 + 2 * j) (n + 24 + 2 * j + 1) H36.size) (b := (n + 24 + 2 * j)) (As := [.ref (G.2.2 (20 + wkN j))]) (rest := []) ⟨hx, hb, hml, hown, hts⟩ (mX0_addWord_z (A := ow (n + 24 + 2 * j) (n + 24 + 2 * j + 1) H36.size) (ca := n + 24 + 2 * j + 1) (sz := H36.size) (t := []) (i := wkN j) (wkN_lt (by omega)) (Or.inl rfl) (Or.inr (Or.inl rfl))) (cwV 1 hts (gV tw_1_81 tw_1_82 tw_1_83 tw_1_2 tw_1_84) rfl rfl rfl (by decide +kernel) ⟨Nat.le_of_ble_eq_true rfl, Nat.le_of_ble_eq_true rfl⟩) hC hS (ow_in (hA _ (by omega)) (hA _ (by omega)) hA (by omega)) ow_n (hLj.recv hK) ⟨rfl, hLj⟩ rfl rfl hl.1 (Nat.le_of_ble_eq_true rfl) ⟨Nat.le_trans (show (((24 + j * 2) + 1) + 1) ≤ 38 by omega) (Nat.le_of_ble_eq_true rfl), Nat.le_trans (show (((697 + j * 62) + 2) + 60) ≤ 1200 by omega) (Nat.le_of_ble_eq_true rfl)⟩ dX2_init_138 (fun H38 L38 hP38 hk38 hS => ?_)
      have hZ38 := hS.1
      obtain ⟨hsz9, hLj⟩ := hP38
      have hO := at_kp hO hk38 (ow_no (by omega) (by omega) (by omega))
      have hX := at_kp hX hk38 (ow_no (by omega) (by omega) (by omega))
      have hY := at_kp hY hk38 (ow_no (by omega) (by omega) (by omega))
      have hRw := LA.kp hRw hk38 (ow_no (by omega) (by omega) (by omega)) (ow_no (by omega) (by omega) (by omega))
      have hMd := LA.kp hMd hk38 (ow_no (by omega) (by omega) (by omega)) (ow_no (by omega) (by omega) (by omega))
      have hDr := LA.kp hDr hk38 (ow_no (by omega) (by omega) (by omega)) (ow_no (by omega) (by omega) (by omega))
      have hPc := PA.kp hPc hk38 (ow_no (by omega) (by omega) (by omega)) (ow_no (by omega) (by omega) (by omega)) (ow_no (by omega) (by omega) (by omega)) (ow_no (by omega) (by omega) (by omega))
      have hTr := PA.kp hTr hk38 (ow_no (by omega) (by omega) (by omega)) (ow_no (by omega) (by omega) (by omega)) (ow_no (by omega) (by omega) (by omega)) (ow_no (by omega) (by omega) (by omega))
      have hT : ∀ i : Nat, i < 4 → LA G (n + 16 + 2 * i) (n + 16 + 2 * i + 1) [] H38 := fun i hi => LA.kp (hT i hi) hk38 (ow_no (by omega) (by omega) (by omega)) (ow_no (by omega) (by omega) (by omega))
      have hU : ∀ i : Nat, i < j + 1 → LA G (n + 24 + 2 * i) (n + 24 + 2 * i + 1) (knT i) H38 := fun i hi => by rcases Nat.lt_succ_iff_lt_or_eq.mp hi with q | q; exact LA.kp (hU i q) hk38 (ow_no (by omega) (by omega) (by omega)) (ow_no (by omega) (by omega) (by omega)); rw [q, ← wkN_kn (show j < 7 by omega)]; exact hLj
      refine lv_iinc (v := nI (j + 1)) (lv' := [(1, .int (nI (j + 1))), (0, .ref a)]) hx hb dX2_init_141 hl (k := 0) rfl (nI_add j 1) (by decide) rfl (fun ls hl => ?_)
      refine lv_goto (tgt := 109) hx hb dX2_init_144 (by decide) ?_
      refine W.widen (k := 24 + (j + 1) * 2) (n := 697 + (j + 1) * 62) (by omega) (by omega) ?_
      exact ih (j + 1) (by omega) (by omega) ls H38 L38 _ (lv_sub hl [0, 1] rfl) hS (by omega) hO hX hY (fun i hi => by unfold va_up; split; (next q => rw [q]); (next q => exact hg i (by omega))) hRw hMd hDr hPc hTr hT hU
  · refine lv_aload_n hx hb dX2_init_88 rfl (lv_at hl 1 rfl) ?_
    refine va_get (D := G.1) (ci := 6) (C := RX2) (T := TX2) (N := 8) hx hb hts inX2 hown hK (at_P hO) 0 rfl rfl 0 (by decide) (hts _ tw_1_137) (fun _ h9 => h9) rfl dX2_init_89 ?_
    refine lv_iload_n hx hb dX2_init_92 rfl (lv_at hl 0 rfl) ?_
    refine h_new (D := G.1) (C := RX0) (T := TX0) (N := 2) (ci := 4) (fs := [.null, .int 0]) hx hb hts inX0 tyX0 tyX0_ok hown (hts _ tw_1_37) (hts _ tw_1_39) (hts _ tw_1_2) hK hS rfl (fun j hj => match j, hj with | 0, _ => rfl | 1, _ => rfl) (Nat.le_trans (show (16 + j * 2) + 1 ≤ 38 by omega) (Nat.le_of_ble_eq_true rfl)) (Nat.le_trans (show (449 + j * 62) + 2 ≤ 1200 by omega) (Nat.le_of_ble_eq_true rfl)) dX2_init_93 (fun w_39 H40 hw_39 hOw_39 z40 o40 hS => ?_)
    have hZ40 := hS.1
    have hMw_39 : A w_39 := hA w_39 (by omega)
    obtain rfl : n + 16 + 2 * j = w_39 := by omega
    have hO := at_n hO o40
    have hX := at_n hX o40
    have hY := at_n hY o40
    have hRw := LA.n hRw o40
    have hMd := LA.n hMd o40
    have hDr := LA.n hDr o40
    have hPc := PA.n hPc o40
    have hTr := PA.n hTr o40
    refine lv_dup hx hb dX2_init_96 rfl ?_
    refine qV_IN (A := A) (A1 := ow (n + 16 + 2 * j) (n + 16 + 2 * j) H40.size) (b := (n + 16 + 2 * j)) (As := []) (rest := .ref (n + 16 + 2 * j) :: .int (nI j) :: .ref n :: []) ⟨hx, hb, hml, hown, hts⟩ (mX0_init (A := ow (n + 16 + 2 * j) (n + 16 + 2 * j) H40.size) (a := n + 16 + 2 * j) (sz := H40.size) (Or.inl rfl)) ⟨va_cnB 0 hts (gI tw_1_42) rfl rfl rfl hC.2.2.2.2.2.1 (hts _ tw_1_2) (by decide +kernel) ⟨Nat.le_of_ble_eq_true rfl, Nat.le_of_ble_eq_true rfl⟩, rfl, hts _ tw_1_41⟩ hC hS (ow_in hMw_39 hMw_39 hA (by omega)) ow_n  ⟨rfl, hOw_39⟩ rfl rfl hl.1 (Nat.le_of_ble_eq_true rfl) ⟨Nat.le_trans (show ((16 + j * 2) + 1) + 1 ≤ 38 by omega) (Nat.le_of_ble_eq_true rfl), Nat.le_trans (show ((449 + j * 62) + 2) + 60 ≤ 1200 by omega) (Nat.le_of_ble_eq_true rfl)⟩ dX2_init_97 (fun H41 L41 hP41 hk41 hS => ?_)
    have hZ41 := hS.1
    obtain ⟨ca41, hc41, hz41, hLj⟩ := hP41
    have hcl41 := hLj.lt.2
    obtain rfl : n + 16 + 2 * j + 1 = ca41 := by omega
    have hO := at_kp hO hk41 (ow_no (by omega) (by omega) (by omega))
    have hX := at_kp hX hk41 (ow_no (by omega) (by omega) (by omega))
    have hY := at_kp hY hk41 (ow_no (by omega) (by omega) (by omega))
    have hRw := LA.kp hRw hk41 (ow_no (by omega) (by omega) (by omega)) (ow_no (by omega) (by omega) (by omega))
    have hMd := LA.kp hMd hk41 (ow_no (by omega) (by omega) (by omega)) (ow_no (by omega) (by omega) (by omega))
    have hDr := LA.kp hDr hk41 (ow_no (by omega) (by omega) (by omega)) (ow_no (by omega) (by omega) (by omega))
    have hPc := PA.kp hPc hk41 (ow_no (by omega) (by omega) (by omega)) (ow_no (by omega) (by omega) (by omega)) (ow_no (by omega) (by omega) (by omega)) (ow_no (by omega) (by omega) (by omega))
    have hTr := PA.kp hTr hk41 (ow_no (by omega) (by omega) (by omega)) (ow_no (by omega) (by omega) (by omega)) (ow_no (by omega) (by omega) (by omega)) (ow_no (by omega) (by omega) (by omega))
    have hT : ∀ i : Nat, i < j → LA G (n + 16 + 2 * i) (n + 16 + 2 * i + 1) [] H41 := fun i hi => LA.kp (LA.n (hT i hi) o40) hk41 (ow_no (by omega) (by omega) (by omega)) (ow_no (by omega) (by omega) (by omega))
    refine h_aast (D := G.1) (r := (RX0, TX0, 2)) hx hb hK 3 4 hX rfl hLj.2.2.2.1 rfl hS (hA _ (by omega)) (vp_in_nI (n := j) (N := 4) (by omega) (by omega)) dX2_init_100 (fun H42 L42 hX z42 o42 hS => ?_)
    rw [nI_clamp (n := j) (by omega)] at hX
    have hO := at_o hO o42 (by omega)
    have hY := at_o hY o42 (by omega)
    have hRw := LA.o hRw o42 (by omega) (by omega)
    have hMd := LA.o hMd o42 (by omega) (by omega)
    have hDr := LA.o hDr o42 (by omega) (by omega)
    have hLj := LA.o hLj o42 (by omega) (by omega)
    have hPc := PA.o hPc o42 (by omega) (by omega) (by omega) (by omega)
    have hTr := PA.o hTr o42 (by omega) (by omega) (by omega) (by omega)
    have hZ42 := hS.1
    have hT : ∀ i : Nat, i < j + 1 → LA G (n + 16 + 2 * i) (n + 16 + 2 * i + 1) [] H42 := fun i hi => by rcases Nat.lt_succ_iff_lt_or_eq.mp hi with q | q; exact LA.o (hT i q) o42 (by omega) (by omega); rw [q]; exact hLj
    refine lv_iinc (v := nI (j + 1)) (lv' := [(1, .int (nI (j + 1))), (0, .ref a)]) hx hb dX2_init_101 hl (k := 0) rfl (nI_add j 1) (by decide) rfl (fun ls hl => ?_)
    refine lv_goto (tgt := 83) hx hb dX2_init_104 (by decide) ?_
    refine W.widen (k := 16 + (j + 1) * 2) (n := 449 + (j + 1) * 62) (by omega) (by omega) ?_
    exact ih (j + 1) (by omega) (by omega) ls H42 L42 _ (lv_sub hl [0, 1] rfl) hS (by omega) hO hX (fun i hi => by unfold va_up; split; (next q => rw [q]); (next q => exact hf i (by omega))) hY hRw hMd hDr hPc hTr hT
