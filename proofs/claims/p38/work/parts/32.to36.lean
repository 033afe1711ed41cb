/-! 32.ctor -/
section
/-! The class, 10: its constructor -/
theorem PA.o {G : Cx} {a la lca ea b : Nat} {t es : List Nat} {H H1 : Heap} (h : PA G a la lca ea t es H) (oq : ∀ q : Nat, q ≠ b → H1[q]? = H[q]?) (n1 : a ≠ b) (n2 : la ≠ b) (n3 : lca ≠ b) (n4 : ea ≠ b) : PA G a la lca ea t es H1 := by
  obtain ⟨⟨q1, q2, f, q3, q4⟩, q5, q6⟩ := h
  exact ⟨⟨q1, at_o q2 oq n1, f, at_o q3 oq n4, q4⟩, q5.o oq n2 n3, q6⟩
theorem PA.n {G : Cx} {a la lca ea : Nat} {t es : List Nat} {H H1 : Heap} (h : PA G a la lca ea t es H) (oq : ∀ q : Nat, q < H.size → H1[q]? = H[q]?) : PA G a la lca ea t es H1 := by
  obtain ⟨⟨q1, q2, f, q3, q4⟩, q5, q6⟩ := h
  exact ⟨⟨q1, at_n q2 oq, f, at_n q3 oq, q4⟩, q5.n oq, q6⟩
def offsL : List Nat := [0, 0, 1, 4, 7, 12, 15, 16, 17, 18, 19, 20, 21, 22, 23, 24, 25, 26, 27, 28, 29, 30, 31, 32, 33, 34, 35, 36, 37, 2, 3, 8, 9, 10, 11, 5, 6, 13, 14]
def SAc (a n i : Nat) : Nat := if i = 0 then a else n + offsL.getD i 0
def T0c (i : Nat) : List Nat := if 4 ≤ i ∧ i < 11 then knT (i - 4) else []
theorem wkN_lt {i : Nat} (h : i < 7) : wkN i < 9 := by
  cases i with
  | zero => decide
  | succ i => show i < 9; omega
theorem wkN_kn {i : Nat} (h : i < 7) : (([] : List Nat) ++ stx (wkN i)).take 60 = knT i := by
  have k : ∀ j : Fin 7, (([] : List Nat) ++ stx (wkN j.1)).take 60 = knT j.1 := by decide +kernel
  exact k ⟨i, h⟩
theorem SJc {a n : Nat} (h : a < n) : SJ (SAc a n) := by
  have k : ∀ i j : Fin 39, i.1 ≠ 0 → j.1 ≠ 0 → offsL.getD i.1 0 = offsL.getD j.1 0 → i.1 = j.1 := by decide +kernel
  intro i j hi hj q
  unfold SAc at q
  split at q <;> split at q
  · next h1 h2 => rw [h1, h2]
  · omega
  · omega
  · next h1 h2 => exact k ⟨i, hi⟩ ⟨j, hj⟩ h1 h2 (show offsL.getD i 0 = offsL.getD j 0 by omega)
theorem SWc {G : Cx} {a n : Nat} {H : Heap} (han : a < n) (hO : va_at G.1 vwCl (a, .inr (6, [.ref n, .ref (n + 1), .ref (n + 2), .ref (n + 4), .int 0, .ref (n + 8), .ref (n + 10), .ref (n + 12)])) H) (hX : va_at G.1 vwCl (n, .inl (G.2.1 3, 4, .inr (.inr (.inr (.inr (fun i => some (n + 16 + 2 * i))))))) H) (hY : va_at G.1 vwCl (n + 1, .inl (G.2.1 3, 7, .inr (.inr (.inr (.inr (fun i => some (n + 24 + 2 * i))))))) H)
    (hRw : LA G (n + 2) (n + 2 + 1) [] H) (hMd : LA G (n + 8) (n + 8 + 1) [] H) (hDr : LA G (n + 10) (n + 10 + 1) [] H) (hPc : PA G (n + 4) (n + 4 + 1) (n + 4 + 1 + 1) (n + 4 + 1 + 2) [] [] H) (hTr : PA G (n + 12) (n + 12 + 1) (n + 12 + 1 + 1) (n + 12 + 1 + 2) [] [] H) (hT : ∀ i : Nat, i < 4 → LA G (n + 16 + 2 * i) (n + 16 + 2 * i + 1) [] H) (hU : ∀ i : Nat, i < 7 → LA G (n + 24 + 2 * i) (n + 24 + 2 * i + 1) (knT i) H) : SW G (SAc a n) T0c [] [] 0 H := by
  have k4 : ∀ j : Nat, j < 4 → SAc a n (7 + 2 * j) = n + 16 + 2 * j := fun j hj => by
    match j, hj with
    | 0, _ => rfl
    | 1, _ => rfl
    | 2, _ => rfl
    | 3, _ => rfl
  have k7 : ∀ j : Nat, j < 7 → SAc a n (15 + 2 * j) = n + 24 + 2 * j := fun j hj => by
    match j, hj with
    | 0, _ => rfl
    | 1, _ => rfl
    | 2, _ => rfl
    | 3, _ => rfl
    | 4, _ => rfl
    | 5, _ => rfl
    | 6, _ => rfl
  refine ⟨SJc han, hO, at_fun hX (fun j hj => by rw [k4 j hj]), at_fun hY (fun j hj => by rw [k7 j hj]), fun i hi => ?_, hPc.1, hPc.2.2.1, hTr.1, hTr.2.2.1, fun i hi => ?_⟩
  · match i, hi with
    | 0, _ => exact hT 0 (by decide)
    | 1, _ => exact hT 1 (by decide)
    | 2, _ => exact hT 2 (by decide)
    | 3, _ => exact hT 3 (by decide)
    | 4, _ => exact hU 0 (by decide)
    | 5, _ => exact hU 1 (by decide)
    | 6, _ => exact hU 2 (by decide)
    | 7, _ => exact hU 3 (by decide)
    | 8, _ => exact hU 4 (by decide)
    | 9, _ => exact hU 5 (by decide)
    | 10, _ => exact hU 6 (by decide)
    | 11, _ => exact hRw
    | 12, _ => exact hMd
    | 13, _ => exact hDr
    | 14, _ => exact hPc.2.1
    | 15, _ => exact hTr.2.1
    | i + 16, hi => exact absurd hi (by omega)
  · unfold T0c
    rw [if_pos (by omega), Nat.add_sub_cancel_left]
theorem dX2_init_0 : decode cX2_init 0 = .ok (.aload_n 0, 1) := by decide +kernel
theorem dX2_init_1 : decode cX2_init 1 = .ok (.invokespecial 1, 3) := by decide +kernel
theorem dX2_init_4 : decode cX2_init 4 = .ok (.aload_n 0, 1) := by decide +kernel
theorem dX2_init_5 : decode cX2_init 5 = .ok (.iconst 4, 1) := by decide +kernel
theorem dX2_init_6 : decode cX2_init 6 = .ok (.anewarray 9, 3) := by decide +kernel
theorem dX2_init_9 : decode cX2_init 9 = .ok (.putfield 11, 3) := by decide +kernel
theorem dX2_init_12 : decode cX2_init 12 = .ok (.aload_n 0, 1) := by decide +kernel
theorem dX2_init_13 : decode cX2_init 13 = .ok (.bipush 7, 2) := by decide +kernel
theorem dX2_init_15 : decode cX2_init 15 = .ok (.anewarray 9, 3) := by decide +kernel
theorem dX2_init_18 : decode cX2_init 18 = .ok (.putfield 15, 3) := by decide +kernel
theorem dX2_init_21 : decode cX2_init 21 = .ok (.aload_n 0, 1) := by decide +kernel
theorem dX2_init_22 : decode cX2_init 22 = .ok (.new 9, 3) := by decide +kernel
theorem dX2_init_25 : decode cX2_init 25 = .ok (.dup, 1) := by decide +kernel
theorem dX2_init_26 : decode cX2_init 26 = .ok (.invokespecial 18, 3) := by decide +kernel
theorem dX2_init_29 : decode cX2_init 29 = .ok (.putfield 19, 3) := by decide +kernel
theorem dX2_init_32 : decode cX2_init 32 = .ok (.aload_n 0, 1) := by decide +kernel
theorem dX2_init_33 : decode cX2_init 33 = .ok (.new 23, 3) := by decide +kernel
theorem dX2_init_36 : decode cX2_init 36 = .ok (.dup, 1) := by decide +kernel
theorem dX2_init_37 : decode cX2_init 37 = .ok (.invokespecial 25, 3) := by decide +kernel
theorem dX2_init_40 : decode cX2_init 40 = .ok (.putfield 26, 3) := by decide +kernel
theorem dX2_init_43 : decode cX2_init 43 = .ok (.aload_n 0, 1) := by decide +kernel
theorem dX2_init_44 : decode cX2_init 44 = .ok (.iconst 0, 1) := by decide +kernel
theorem dX2_init_45 : decode cX2_init 45 = .ok (.putfield 30, 3) := by decide +kernel
theorem dX2_init_48 : decode cX2_init 48 = .ok (.aload_n 0, 1) := by decide +kernel
theorem dX2_init_49 : decode cX2_init 49 = .ok (.new 9, 3) := by decide +kernel
theorem dX2_init_52 : decode cX2_init 52 = .ok (.dup, 1) := by decide +kernel
theorem dX2_init_53 : decode cX2_init 53 = .ok (.invokespecial 18, 3) := by decide +kernel
theorem dX2_init_56 : decode cX2_init 56 = .ok (.putfield 34, 3) := by decide +kernel
theorem dX2_init_59 : decode cX2_init 59 = .ok (.aload_n 0, 1) := by decide +kernel
theorem dX2_init_60 : decode cX2_init 60 = .ok (.new 9, 3) := by decide +kernel
theorem dX2_init_63 : decode cX2_init 63 = .ok (.dup, 1) := by decide +kernel
theorem dX2_init_64 : decode cX2_init 64 = .ok (.invokespecial 18, 3) := by decide +kernel
theorem dX2_init_67 : decode cX2_init 67 = .ok (.putfield 37, 3) := by decide +kernel
theorem dX2_init_70 : decode cX2_init 70 = .ok (.aload_n 0, 1) := by decide +kernel
theorem dX2_init_71 : decode cX2_init 71 = .ok (.new 23, 3) := by decide +kernel
theorem dX2_init_74 : decode cX2_init 74 = .ok (.dup, 1) := by decide +kernel
theorem dX2_init_75 : decode cX2_init 75 = .ok (.invokespecial 25, 3) := by decide +kernel
theorem dX2_init_78 : decode cX2_init 78 = .ok (.putfield 40, 3) := by decide +kernel
theorem dX2_init_81 : decode cX2_init 81 = .ok (.iconst 0, 1) := by decide +kernel
theorem dX2_init_82 : decode cX2_init 82 = .ok (.istore_n 1, 1) := by decide +kernel
theorem dX2_init_83 : decode cX2_init 83 = .ok (.iload_n 1, 1) := by decide +kernel
theorem dX2_init_84 : decode cX2_init 84 = .ok (.iconst 4, 1) := by decide +kernel
theorem dX2_init_85 : decode cX2_init 85 = .ok (.if_icmp .ge 22, 3) := by decide +kernel
theorem dX2_init_88 : decode cX2_init 88 = .ok (.aload_n 0, 1) := by decide +kernel
theorem dX2_init_89 : decode cX2_init 89 = .ok (.getfield 11, 3) := by decide +kernel
theorem dX2_init_92 : decode cX2_init 92 = .ok (.iload_n 1, 1) := by decide +kernel
theorem dX2_init_93 : decode cX2_init 93 = .ok (.new 9, 3) := by decide +kernel
theorem dX2_init_96 : decode cX2_init 96 = .ok (.dup, 1) := by decide +kernel
theorem dX2_init_97 : decode cX2_init 97 = .ok (.invokespecial 18, 3) := by decide +kernel
theorem dX2_init_100 : decode cX2_init 100 = .ok (.aastore, 1) := by decide +kernel
theorem dX2_init_101 : decode cX2_init 101 = .ok (.iinc 1 1, 3) := by decide +kernel
theorem dX2_init_104 : decode cX2_init 104 = .ok (.goto (-21), 3) := by decide +kernel
theorem dX2_init_107 : decode cX2_init 107 = .ok (.iconst 0, 1) := by decide +kernel
theorem dX2_init_108 : decode cX2_init 108 = .ok (.istore_n 1, 1) := by decide +kernel
theorem dX2_init_109 : decode cX2_init 109 = .ok (.iload_n 1, 1) := by decide +kernel
theorem dX2_init_110 : decode cX2_init 110 = .ok (.bipush 7, 2) := by decide +kernel
theorem dX2_init_112 : decode cX2_init 112 = .ok (.if_icmp .ge 35, 3) := by decide +kernel
theorem dX2_init_115 : decode cX2_init 115 = .ok (.aload_n 0, 1) := by decide +kernel
theorem dX2_init_116 : decode cX2_init 116 = .ok (.getfield 15, 3) := by decide +kernel
theorem dX2_init_119 : decode cX2_init 119 = .ok (.iload_n 1, 1) := by decide +kernel
theorem dX2_init_120 : decode cX2_init 120 = .ok (.new 9, 3) := by decide +kernel
theorem dX2_init_123 : decode cX2_init 123 = .ok (.dup, 1) := by decide +kernel
theorem dX2_init_124 : decode cX2_init 124 = .ok (.invokespecial 18, 3) := by decide +kernel
theorem dX2_init_127 : decode cX2_init 127 = .ok (.aastore, 1) := by decide +kernel
theorem dX2_init_128 : decode cX2_init 128 = .ok (.aload_n 0, 1) := by decide +kernel
theorem dX2_init_129 : decode cX2_init 129 = .ok (.getfield 15, 3) := by decide +kernel
theorem dX2_init_132 : decode cX2_init 132 = .ok (.iload_n 1, 1) := by decide +kernel
theorem dX2_init_133 : decode cX2_init 133 = .ok (.aaload, 1) := by decide +kernel
theorem dX2_init_134 : decode cX2_init 134 = .ok (.iload_n 1, 1) := by decide +kernel
theorem dX2_init_135 : decode cX2_init 135 = .ok (.invokestatic 43, 3) := by decide +kernel
theorem dX2_init_138 : decode cX2_init 138 = .ok (.invokevirtual 47, 3) := by decide +kernel
theorem dX2_init_141 : decode cX2_init 141 = .ok (.iinc 1 1, 3) := by decide +kernel
theorem dX2_init_144 : decode cX2_init 144 = .ok (.goto (-35), 3) := by decide +kernel
theorem dX2_init_147 : decode cX2_init 147 = .ok (.return_, 1) := by decide +kernel
theorem mX0_addCode_z {l : Launch} {G : Cx} {A : Nat → Prop} {a ca k0 sz : Nat} {t : List Nat} (hAa : A a) (hAca : A ca) (hk0 : k0 < 256) : Met l yX0_addCode (.code yX0_addCode cX0_addCode 2 (none : Option Jvm.ClassFile.FieldType) :: GW) rmX0_addCode (PC G A [.ref a, .int (nI k0)] (fun H => H.size = sz ∧ LA G a ca t H)) (qV A (fun H => H.size = sz ∧ LA G a ca ((t ++ [k0]).take 60) H)) 0 0 (A) := by
  refine mstart "Signtext$Line" (by decide +kernel) rfl (Nat.le_of_ble_eq_true rfl) ?_
  intro p e s m below meth c ls hx hb hr hts hown hml hlocks hname hC hA hW hl
  have hl : lv_has ls 2 [(0, .ref a), (1, .int (nI k0))] := hl
  have hK := hC.1
  have hS : va_S A s.heap s.heap [] := va_S.rf
  obtain ⟨hsz, hW⟩ := hW
  have hW0 := hW
  have hq9 := hW
  obtain ⟨t60, tok, tne, hO, f, hF, hf⟩ := hq9
  refine lv_aload_n hx hb dX0_addCode_0 rfl (lv_at hl 0 rfl) ?_
  refine va_get (D := G.1) (ci := 4) (C := RX0) (T := TX0) (N := 2) hx hb hts inX0 hown hK (at_P hO) 0 rfl rfl 1 (by decide) (hts _ tw_1_45) (fun _ h9 => h9) rfl dX0_addCode_1 ?_
  refine lv_bipush (v := nI 60) hx hb dX0_addCode_4 (by decide) ?_
  refine b_ge (tgt := 30) hx hb dX0_addCode_6 (by decide) (by omega) (by omega) (fun c_1 => ?_) (fun c_1 => ?_)
  · exact q_v hx hb hr hlocks dX0_addCode_30 hS (Nat.le_refl _) (Nat.le_refl _) ⟨hsz, by rw [take_full (by omega)]; exact hW0⟩
  · refine lv_aload_n hx hb dX0_addCode_9 rfl (lv_at hl 0 rfl) ?_
    refine va_get (D := G.1) (ci := 4) (C := RX0) (T := TX0) (N := 2) hx hb hts inX0 hown hK (at_P hO) 0 rfl rfl 0 (by decide) (hts _ tw_1_44) (fun _ h9 => h9) rfl dX0_addCode_10 ?_
    refine lv_aload_n hx hb dX0_addCode_13 rfl (lv_at hl 0 rfl) ?_
    refine va_get (D := G.1) (ci := 4) (C := RX0) (T := TX0) (N := 2) hx hb hts inX0 hown hK (at_P hO) 0 rfl rfl 1 (by decide) (hts _ tw_1_45) (fun _ h9 => h9) rfl dX0_addCode_14 ?_
    refine lv_iload_n hx hb dX0_addCode_17 rfl (lv_at hl 1 rfl) ?_
    refine lv_i2c hx hb dX0_addCode_18 (show _ = nI k0 from (chr_id (n := k0) (by omega))) ?_
    refine h_cst (D := G.1) hx hb hK 1 hF rfl hS hAca (vp_in_nI (n := t.length) (N := 60) (by omega) (by omega)) dX0_addCode_19 (fun H2 L2 hF z2 o2 hS => ?_)
    rw [nI_clamp (n := t.length) (by omega)] at hF
    have hO := at_o hO o2 tne
    have hZ2 := hS.1
    refine lv_aload_n hx hb dX0_addCode_20 rfl (lv_at hl 0 rfl) ?_
    refine lv_dup hx hb dX0_addCode_21 rfl ?_
    refine va_get (D := G.1) (ci := 4) (C := RX0) (T := TX0) (N := 2) hx hb hts inX0 hown hK (at_P hO) 0 rfl rfl 1 (by decide) (hts _ tw_1_45) (fun _ h9 => h9) rfl dX0_addCode_22 ?_
    refine lv_iconst (v := nI 1) hx hb dX0_addCode_25 (by decide) ?_
    refine lv_iadd hx hb dX0_addCode_26 ?_
    refine lv_cv (nI_add t.length 1) ?_
    refine h_put (D := G.1) (ci := 4) (C := RX0) (T := TX0) (N := 2) hx hb hts inX0 tyX0 tyX0_ok nmX0 hown hK hO hS hAa rfl 1 (by decide) (hts _ tw_1_45) (fun _ h9 => h9) rfl (tyX0_ok 1 (by decide)) rfl rfl (Nat.le_of_ble_eq_true rfl) dX0_addCode_27 (fun H3 L3 hO z3 o3 hS => ?_)
    have hO : va_at G.1 vwCl (a, .inr (4, [.ref ca, .int (nI (t.length + 1))])) H3 := hO
    have hF := at_o hF o3 (Ne.symm tne)
    have hZ3 := hS.1
    exact q_v hx hb hr hlocks dX0_addCode_30 hS (Nat.le_refl _) (Nat.le_refl _) ⟨by rw [z3, z2, hsz], by rw [take_room c_1]; exact LA.push c_1 tok hk0 tne hO hF hf⟩

theorem mX0_addWord_z {l : Launch} {G : Cx} {A : Nat → Prop} {a ca i sz : Nat} {t : List Nat} (hi : i < 9) (hAa : A a) (hAca : A ca) : Met l yX0_addWord (.code yX0_addWord cX0_addWord 3 (none : Option Jvm.ClassFile.FieldType) :: GW) rmX0_addWord (PC G A [.ref a, .ref (G.2.2 (20 + i))] (fun H => H.size = sz ∧ LA G a ca t H)) (qV A (fun H => H.size = sz ∧ LA G a ca ((t ++ stx i).take 60) H)) 0 0 (A) := by
  refine mstart "Signtext$Line" (by decide +kernel) rfl (Nat.le_of_ble_eq_true rfl) ?_
  intro p e s m below meth c ls hx hb hr hts hown hml hlocks hname hC hA hW hl
  have hl : lv_has ls 3 [(0, .ref a), (1, .ref (G.2.2 (20 + i)))] := hl
  have hK := hC.1
  have hS : va_S A s.heap s.heap [] := va_S.rf
  obtain ⟨hsz, hW⟩ := hW
  obtain ⟨c1, c2, c3, c4⟩ := hC.2.2.2.1 i hi
  have t60 := hW.1
  have hi5 := stx_len hi
  refine lv_iconst (v := nI 0) hx hb dX0_addWord_0 (by decide) ?_
  refine lv_istore_n (lv' := [(2, .int (nI 0)), (0, .ref a), (1, .ref (G.2.2 (20 + i)))]) hx hb dX0_addWord_1 rfl hl (by decide) rfl (fun ls hl => ?_)
  refine nloop (P := fun j => ∀ (ls : Array Slot) (H : Heap) (L : List Loc), lv_has ls 3 [(2, .int (nI j)), (0, .ref a), (1, .ref (G.2.2 (20 + i)))] → va_S A s.heap H L → H.size = sz → LA G a ca ((t ++ (stx i).take j).take 60) H → W p l e rmX0_addWord s m [.ref a, .ref (G.2.2 (20 + i))].toArray below meth c H L 0 0 (MQ below (qV A (fun H => H.size = sz ∧ LA G a ca ((t ++ stx i).take 60) H)) [.ref a, .ref (G.2.2 (20 + i))].toArray s 0 0 (A)) (F0 m 2 ls [])) ((stx i).length) ?_ 0 (Nat.zero_le _) ls s.heap [] hl hS hsz (by rw [List.take_zero, List.append_nil, List.take_of_length_le t60]; exact hW)
  clear hl
  intro j hj ih ls H L hl
  clear hS hW
  intro hS hsz2 hW
  have hZ0 := hS.1
  refine lv_iload_n hx hb dX0_addWord_2 rfl (lv_at hl 0 rfl) ?_
  refine lv_aload_n hx hb dX0_addWord_3 rfl (lv_at hl 2 rfl) ?_
  refine kV_i (A := A) (b := (G.2.2 (20 + i))) (As := []) (rest := .int (nI j) :: []) ⟨hx, hb, hml, hown, hts⟩ (mJ0_length_8abf5 (A := A) hi) (cwV 0 hts (gV tw_1_85 tw_1_86 tw_1_87 tw_1_4 tw_1_88) rfl rfl rfl (by decide +kernel) ⟨Nat.le_of_ble_eq_true rfl, Nat.le_of_ble_eq_true rfl⟩) hC hS hA (va_Orecv c1 hS) trivial rfl rfl hl.1 (Nat.le_of_ble_eq_true rfl) ⟨Nat.zero_le _, Nat.zero_le _⟩ dX0_addWord_4 (fun r9 h9 => lv_cv h9 ?_)
  refine b_ge (tgt := 25) hx hb dX0_addWord_7 (by decide) (by omega) (by omega) (fun c_4 => ?_) (fun c_4 => ?_)
  · obtain rfl : j = (stx i).length := by omega
    rw [List.take_length] at hW
    exact q_v hx hb hr hlocks dX0_addWord_25 hS (Nat.le_refl _) (Nat.le_refl _) ⟨hsz2, hW⟩
  · refine lv_aload_n hx hb dX0_addWord_10 rfl (lv_at hl 1 rfl) ?_
    refine lv_aload_n hx hb dX0_addWord_11 rfl (lv_at hl 2 rfl) ?_
    refine lv_iload_n hx hb dX0_addWord_12 rfl (lv_at hl 0 rfl) ?_
    refine kV_i (A := A) (b := (G.2.2 (20 + i))) (As := [.int (nI j)]) (rest := .ref a :: []) ⟨hx, hb, hml, hown, hts⟩ (mJ0_charAt_5068e (A := A) hi (j := j) (by omega)) (cwV 1 hts (gV tw_1_95 tw_1_96 tw_1_97 tw_1_4 tw_1_98) rfl rfl rfl (by decide +kernel) ⟨Nat.le_of_ble_eq_true rfl, Nat.le_of_ble_eq_true rfl⟩) hC hS hA (va_Orecv c1 hS) trivial rfl rfl hl.1 (Nat.le_of_ble_eq_true rfl) ⟨Nat.zero_le _, Nat.zero_le _⟩ dX0_addWord_13 (fun r9 h9 => lv_cv h9 ?_)
    refine qV_V (A := A) (A1 := ow a ca H.size) (b := a) (As := [.int (nI ((stx i).getD j 0))]) (rest := []) ⟨hx, hb, hml, hown, hts⟩ (mX0_addCode_z (A := ow a ca H.size) (ca := ca) (sz := sz) (k0 := (stx i).getD j 0) (Or.inl rfl) (Or.inr (Or.inl rfl)) (stx_lt hi j)) (cwV 1 hts (gV tw_1_133 tw_1_134 tw_1_135 tw_1_2 tw_1_136) rfl rfl rfl (by decide +kernel) ⟨Nat.le_of_ble_eq_true rfl, Nat.le_of_ble_eq_true rfl⟩) hC hS (ow_in hAa hAca hA hZ0) ow_n (hW.recv hK) ⟨hsz2, hW⟩ rfl rfl hl.1 (Nat.le_of_ble_eq_true rfl) ⟨Nat.zero_le _, Nat.zero_le _⟩ dX0_addWord_16 (fun H5 L5 hP5 hk5 hS => ?_)
    have hZ5 := hS.1
    refine lv_iinc (v := nI (j + 1)) (lv' := [(2, .int (nI (j + 1))), (0, .ref a), (1, .ref (G.2.2 (20 + i)))]) hx hb dX0_addWord_19 hl (k := 0) rfl (nI_add j 1) (by decide) rfl (fun ls hl => ?_)
    refine lv_goto (tgt := 2) hx hb dX0_addWord_22 (by decide) ?_
    exact ih (j + 1) (by omega) (by omega) ls H5 L5 (lv_sub hl [0, 1, 2] rfl) hS hP5.1 (by rw [take_succ_getD (t := stx i) (j := j) (by omega), ← List.append_assoc, ← take_take60]; exact hP5.2)
abbrev rmX2_init : Room := { frames := 5, cells := 38, slots := 1200, locals := 107 }
theorem mX2_init {l : Launch} {G : Cx} {A : Nat → Prop} {a n : Nat} (hAa : A a) : Met l yX2_init (.code yX2_init cX2_init 2 (none : Option Jvm.ClassFile.FieldType) :: GW) rmX2_init (PC G A [.ref a] (fun H => H.size = n ∧ va_at G.1 vwCl (a, .inr (6, [.null, .null, .null, .null, .int 0, .null, .null, .null])) H)) (qV A (fun H => H.size = n + 38 ∧ SW G (SAc a n) T0c [] [] 0 H)) 38 1200 (A) := by
  refine mstart "Signtext" (by decide +kernel) rfl (Nat.le_of_ble_eq_true rfl) ?_
  intro p e s m below meth c ls hx hb hr hts hown hml hlocks hname hC hA hW hl
  have hl : lv_has ls 2 [(0, .ref a)] := hl
  have hK := hC.1
  have hS : va_S A s.heap s.heap [] := va_S.rf
  obtain ⟨hn, hO⟩ := hW
  have han : a < s.heap.size := hO.lt
  refine lv_aload_n hx hb dX2_init_0 rfl (lv_at hl 0 rfl) ?_
  refine W.objInit hx hb hown (hts _ tw_1_34) (hts _ tw_1_35) (hts _ tw_1_36) rfl (by rw [hml]; exact hl.1) rfl dX2_init_1 (Nat.le_of_ble_eq_true rfl) (Nat.le_of_ble_eq_true rfl) ?_
  refine W.eq (g2 := F0 m 4 ls []) rfl ?_
  refine lv_aload_n hx hb dX2_init_4 rfl (lv_at hl 0 rfl) ?_
  refine lv_iconst (v := nI 4) hx hb dX2_init_5 (by decide) ?_
  refine h_newq (D := G.1) (N' := 4) hx hb hown (hts _ tw_1_37) hC.2.2.2.2.2.2.2.2.1 hK 3 rfl hS (nI_pos (by decide)) (nI_clamp (by decide)) (by decide) (Nat.le_trans (show 0 + 1 ≤ 38 by omega) (Nat.le_of_ble_eq_true rfl)) (Nat.le_trans (show 0 + 4 ≤ 1200 by omega) (Nat.le_of_ble_eq_true rfl)) dX2_init_6 (fun q6 H6 hq6 hX z6 o6 hS => ?_)
  obtain rfl : n = q6 := by omega
  have hO := at_n hO o6
  have hZ6 := hS.1
  refine h_putF (D := G.1) (ci := 6) (C := RX2) (T := TX2) (N := 8) hx hb hts inX2 tyX2 tyX2_ok nmX2 hown hK hO hS hAa rfl 0 (by decide) (hts _ tw_1_137) (fun _ h9 => h9) rfl hname rfl (tyX2_ok 0 (by decide)) rfl rfl (Nat.le_of_ble_eq_true rfl) dX2_init_9 (fun H7 L7 hO z7 o7 hS => ?_)
  have hO : va_at G.1 vwCl (a, .inr (6, [.ref n, .null, .null, .null, .int 0, .null, .null, .null])) H7 := hO
  have hX := at_o hX o7 (by omega)
  have hZ7 := hS.1
  refine lv_aload_n hx hb dX2_init_12 rfl (lv_at hl 0 rfl) ?_
  refine lv_bipush (v := nI 7) hx hb dX2_init_13 (by decide) ?_
  refine h_newq (D := G.1) (N' := 7) hx hb hown (hts _ tw_1_37) hC.2.2.2.2.2.2.2.2.1 hK 3 rfl hS (nI_pos (by decide)) (nI_clamp (by decide)) (by decide) (Nat.le_trans (show (0 + 1) + 1 ≤ 38 by omega) (Nat.le_of_ble_eq_true rfl)) (Nat.le_trans (show (0 + 4) + 7 ≤ 1200 by omega) (Nat.le_of_ble_eq_true rfl)) dX2_init_15 (fun q8 H8 hq8 hY z8 o8 hS => ?_)
  obtain rfl : n + 1 = q8 := by omega
  have hO := at_n hO o8
  have hX := at_n hX o8
  have hZ8 := hS.1
  refine h_putF (D := G.1) (ci := 6) (C := RX2) (T := TX2) (N := 8) hx hb hts inX2 tyX2 tyX2_ok nmX2 hown hK hO hS hAa rfl 1 (by decide) (hts _ tw_1_138) (fun _ h9 => h9) rfl hname rfl (tyX2_ok 1 (by decide)) rfl rfl (Nat.le_of_ble_eq_true rfl) dX2_init_18 (fun H9 L9 hO z9 o9 hS => ?_)
  have hO : va_at G.1 vwCl (a, .inr (6, [.ref n, .ref (n + 1), .null, .null, .int 0, .null, .null, .null])) H9 := hO
  have hX := at_o hX o9 (by omega)
  have hY := at_o hY o9 (by omega)
  have hZ9 := hS.1
  refine lv_aload_n hx hb dX2_init_21 rfl (lv_at hl 0 rfl) ?_
  refine h_new (D := G.1) (C := RX0) (T := TX0) (N := 2) (ci := 4) (fs := [.null, .int 0]) hx hb hts inX0 tyX0 tyX0_ok hown (hts _ tw_1_37) (hts _ tw_1_39) (hts _ tw_1_2) hK hS rfl (fun j hj => match j, hj with | 0, _ => rfl | 1, _ => rfl) (Nat.le_trans (show ((0 + 1) + 1) + 1 ≤ 38 by omega) (Nat.le_of_ble_eq_true rfl)) (Nat.le_trans (show ((0 + 4) + 7) + 2 ≤ 1200 by omega) (Nat.le_of_ble_eq_true rfl)) dX2_init_22 (fun w_10 H11 hw_10 hOw_10 z11 o11 hS => ?_)
  have hZ11 := hS.1
  have hMw_10 : A w_10 := hA w_10 (by omega)
  obtain rfl : n + 2 = w_10 := by omega
  have hO := at_n hO o11
  have hX := at_n hX o11
  have hY := at_n hY o11
  refine lv_dup hx hb dX2_init_25 rfl ?_
  refine qV_IN (A := A) (A1 := ow (n + 2) (n + 2) H11.size) (b := (n + 2)) (As := []) (rest := .ref (n + 2) :: .ref a :: []) ⟨hx, hb, hml, hown, hts⟩ (mX0_init (A := ow (n + 2) (n + 2) H11.size) (a := n + 2) (sz := H11.size) (Or.inl rfl)) ⟨va_cnB 0 hts (gI tw_1_42) rfl rfl rfl hC.2.2.2.2.2.1 (hts _ tw_1_2) (by decide +kernel) ⟨Nat.le_of_ble_eq_true rfl, Nat.le_of_ble_eq_true rfl⟩, rfl, hts _ tw_1_41⟩ hC hS (ow_in hMw_10 hMw_10 hA (by omega)) ow_n  ⟨rfl, hOw_10⟩ rfl rfl hl.1 (Nat.le_of_ble_eq_true rfl) ⟨Nat.le_trans (show (((0 + 1) + 1) + 1) + 1 ≤ 38 by omega) (Nat.le_of_ble_eq_true rfl), Nat.le_trans (show (((0 + 4) + 7) + 2) + 60 ≤ 1200 by omega) (Nat.le_of_ble_eq_true rfl)⟩ dX2_init_26 (fun H12 L12 hP12 hk12 hS => ?_)
  have hZ12 := hS.1
  obtain ⟨ca12, hc12, hz12, hRw⟩ := hP12
  have hcl12 := hRw.lt.2
  obtain rfl : n + 2 + 1 = ca12 := by omega
  have hO := at_kp hO hk12 (ow_no (by omega) (by omega) (by omega))
  have hX := at_kp hX hk12 (ow_no (by omega) (by omega) (by omega))
  have hY := at_kp hY hk12 (ow_no (by omega) (by omega) (by omega))
  refine h_putF (D := G.1) (ci := 6) (C := RX2) (T := TX2) (N := 8) hx hb hts inX2 tyX2 tyX2_ok nmX2 hown hK hO hS hAa rfl 2 (by decide) (hts _ tw_1_139) (fun _ h9 => h9) rfl hname rfl (tyX2_ok 2 (by decide)) rfl rfl (Nat.le_of_ble_eq_true rfl) dX2_init_29 (fun H13 L13 hO z13 o13 hS => ?_)
  have hO : va_at G.1 vwCl (a, .inr (6, [.ref n, .ref (n + 1), .ref (n + 2), .null, .int 0, .null, .null, .null])) H13 := hO
  have hX := at_o hX o13 (by omega)
  have hY := at_o hY o13 (by omega)
  have hRw := LA.o hRw o13 (by omega) (by omega)
  have hZ13 := hS.1
  refine lv_aload_n hx hb dX2_init_32 rfl (lv_at hl 0 rfl) ?_
  refine h_new (D := G.1) (C := RX1) (T := TX1) (N := 3) (ci := 5) (fs := [.null, .null, .int 0]) hx hb hts inX1 tyX1 tyX1_ok hown (hts _ tw_1_52) (hts _ tw_1_53) (hts _ tw_1_3) hK hS rfl (fun j hj => match j, hj with | 0, _ => rfl | 1, _ => rfl | 2, _ => rfl) (Nat.le_trans (show ((((0 + 1) + 1) + 1) + 1) + 1 ≤ 38 by omega) (Nat.le_of_ble_eq_true rfl)) (Nat.le_trans (show ((((0 + 4) + 7) + 2) + 60) + 3 ≤ 1200 by omega) (Nat.le_of_ble_eq_true rfl)) dX2_init_33 (fun w_14 H15 hw_14 hOw_14 z15 o15 hS => ?_)
  have hZ15 := hS.1
  have hMw_14 : A w_14 := hA w_14 (by omega)
  obtain rfl : n + 4 = w_14 := by omega
  have hO := at_n hO o15
  have hX := at_n hX o15
  have hY := at_n hY o15
  have hRw := LA.n hRw o15
  refine lv_dup hx hb dX2_init_36 rfl ?_
  refine qV_IN (A := A) (A1 := ow (n + 4) (n + 4) H15.size) (b := (n + 4)) (As := []) (rest := .ref (n + 4) :: .ref a :: []) ⟨hx, hb, hml, hown, hts⟩ (mX1_init (A := ow (n + 4) (n + 4) H15.size) (a := n + 4) (sz := H15.size) (Or.inl rfl)) ⟨va_cnB 0 hts (gI tw_1_56) rfl rfl rfl hC.2.2.2.2.2.2.1 (hts _ tw_1_3) (by decide +kernel) ⟨Nat.le_of_ble_eq_true rfl, Nat.le_of_ble_eq_true rfl⟩, rfl, hts _ tw_1_55⟩ hC hS (ow_in hMw_14 hMw_14 hA (by omega)) ow_n  ⟨rfl, hOw_14⟩ rfl rfl hl.1 (Nat.le_of_ble_eq_true rfl) ⟨Nat.le_trans (show (((((0 + 1) + 1) + 1) + 1) + 1) + 3 ≤ 38 by omega) (Nat.le_of_ble_eq_true rfl), Nat.le_trans (show (((((0 + 4) + 7) + 2) + 60) + 3) + 123 ≤ 1200 by omega) (Nat.le_of_ble_eq_true rfl)⟩ dX2_init_37 (fun H16 L16 hP16 hk16 hS => ?_)
  have hZ16 := hS.1
  obtain ⟨hz16, hPc⟩ := hP16
  rw [show H15.size = n + 4 + 1 by omega] at hPc
  have hO := at_kp hO hk16 (ow_no (by omega) (by omega) (by omega))
  have hX := at_kp hX hk16 (ow_no (by omega) (by omega) (by omega))
  have hY := at_kp hY hk16 (ow_no (by omega) (by omega) (by omega))
  have hRw := LA.kp hRw hk16 (ow_no (by omega) (by omega) (by omega)) (ow_no (by omega) (by omega) (by omega))
  refine h_putF (D := G.1) (ci := 6) (C := RX2) (T := TX2) (N := 8) hx hb hts inX2 tyX2 tyX2_ok nmX2 hown hK hO hS hAa rfl 3 (by decide) (hts _ tw_1_140) (fun _ h9 => h9) rfl hname rfl (tyX2_ok 3 (by decide)) rfl rfl (Nat.le_of_ble_eq_true rfl) dX2_init_40 (fun H17 L17 hO z17 o17 hS => ?_)
  have hO : va_at G.1 vwCl (a, .inr (6, [.ref n, .ref (n + 1), .ref (n + 2), .ref (n + 4), .int 0, .null, .null, .null])) H17 := hO
  have hX := at_o hX o17 (by omega)
  have hY := at_o hY o17 (by omega)
  have hRw := LA.o hRw o17 (by omega) (by omega)
  have hPc := PA.o hPc o17 (by omega) (by omega) (by omega) (by omega)
  have hZ17 := hS.1
  refine lv_aload_n hx hb dX2_init_43 rfl (lv_at hl 0 rfl) ?_
  refine lv_iconst (v := nI 0) hx hb dX2_init_44 (by decide) ?_
  refine h_put (D := G.1) (ci := 6) (C := RX2) (T := TX2) (N := 8) hx hb hts inX2 tyX2 tyX2_ok nmX2 hown hK hO hS hAa rfl 4 (by decide) (hts _ tw_1_141) (fun _ h9 => h9) rfl (tyX2_ok 4 (by decide)) rfl rfl (Nat.le_of_ble_eq_true rfl) dX2_init_45 (fun H18 L18 hO z18 o18 hS => ?_)
  have hO : va_at G.1 vwCl (a, .inr (6, [.ref n, .ref (n + 1), .ref (n + 2), .ref (n + 4), .int (nI 0), .null, .null, .null])) H18 := hO
  have hX := at_o hX o18 (by omega)
  have hY := at_o hY o18 (by omega)
  have hRw := LA.o hRw o18 (by omega) (by omega)
  have hPc := PA.o hPc o18 (by omega) (by omega) (by omega) (by omega)
  have hZ18 := hS.1
  refine lv_aload_n hx hb dX2_init_48 rfl (lv_at hl 0 rfl) ?_
  refine h_new (D := G.1) (C := RX0) (T := TX0) (N := 2) (ci := 4) (fs := [.null, .int 0]) hx hb hts inX0 tyX0 tyX0_ok hown (hts _ tw_1_37) (hts _ tw_1_39) (hts _ tw_1_2) hK hS rfl (fun j hj => match j, hj with | 0, _ => rfl | 1, _ => rfl) (Nat.le_trans (show ((((((0 + 1) + 1) + 1) + 1) + 1) + 3) + 1 ≤ 38 by omega) (Nat.le_of_ble_eq_true rfl)) (Nat.le_trans (show ((((((0 + 4) + 7) + 2) + 60) + 3) + 123) + 2 ≤ 1200 by omega) (Nat.le_of_ble_eq_true rfl)) dX2_init_49 (fun w_19 H20 hw_19 hOw_19 z20 o20 hS => ?_)
  have hZ20 := hS.1
  have hMw_19 : A w_19 := hA w_19 (by omega)
  obtain rfl : n + 8 = w_19 := by omega
  have hO := at_n hO o20
  have hX := at_n hX o20
  have hY := at_n hY o20
  have hRw := LA.n hRw o20
  have hPc := PA.n hPc o20
  refine lv_dup hx hb dX2_init_52 rfl ?_
  refine qV_IN (A := A) (A1 := ow (n + 8) (n + 8) H20.size) (b := (n + 8)) (As := []) (rest := .ref (n + 8) :: .ref a :: []) ⟨hx, hb, hml, hown, hts⟩ (mX0_init (A := ow (n + 8) (n + 8) H20.size) (a := n + 8) (sz := H20.size) (Or.inl rfl)) ⟨va_cnB 0 hts (gI tw_1_42) rfl rfl rfl hC.2.2.2.2.2.1 (hts _ tw_1_2) (by decide +kernel) ⟨Nat.le_of_ble_eq_true rfl, Nat.le_of_ble_eq_true rfl⟩, rfl, hts _ tw_1_41⟩ hC hS (ow_in hMw_19 hMw_19 hA (by omega)) ow_n  ⟨rfl, hOw_19⟩ rfl rfl hl.1 (Nat.le_of_ble_eq_true rfl) ⟨Nat.le_trans (show (((((((0 + 1) + 1) + 1) + 1) + 1) + 3) + 1) + 1 ≤ 38 by omega) (Nat.le_of_ble_eq_true rfl), Nat.le_trans (show (((((((0 + 4) + 7) + 2) + 60) + 3) + 123) + 2) + 60 ≤ 1200 by omega) (Nat.le_of_ble_eq_true rfl)⟩ dX2_init_53 (fun H21 L21 hP21 hk21 hS => ?_)
  have hZ21 := hS.1
  obtain ⟨ca21, hc21, hz21, hMd⟩ := hP21
  have hcl21 := hMd.lt.2
  obtain rfl : n + 8 + 1 = ca21 := by omega
  have hO := at_kp hO hk21 (ow_no (by omega) (by omega) (by omega))
  have hX := at_kp hX hk21 (ow_no (by omega) (by omega) (by omega))
  have hY := at_kp hY hk21 (ow_no (by omega) (by omega) (by omega))
  have hRw := LA.kp hRw hk21 (ow_no (by omega) (by omega) (by omega)) (ow_no (by omega) (by omega) (by omega))
  have hPc := PA.kp hPc hk21 (ow_no (by omega) (by omega) (by omega)) (ow_no (by omega) (by omega) (by omega)) (ow_no (by omega) (by omega) (by omega)) (ow_no (by omega) (by omega) (by omega))
  refine h_putF (D := G.1) (ci := 6) (C := RX2) (T := TX2) (N := 8) hx hb hts inX2 tyX2 tyX2_ok nmX2 hown hK hO hS hAa rfl 5 (by decide) (hts _ tw_1_142) (fun _ h9 => h9) rfl hname rfl (tyX2_ok 5 (by decide)) rfl rfl (Nat.le_of_ble_eq_true rfl) dX2_init_56 (fun H22 L22 hO z22 o22 hS => ?_)
  have hO : va_at G.1 vwCl (a, .inr (6, [.ref n, .ref (n + 1), .ref (n + 2), .ref (n + 4), .int (nI 0), .ref (n + 8), .null, .null])) H22 := hO
  have hX := at_o hX o22 (by omega)
  have hY := at_o hY o22 (by omega)
  have hRw := LA.o hRw o22 (by omega) (by omega)
  have hMd := LA.o hMd o22 (by omega) (by omega)
  have hPc := PA.o hPc o22 (by omega) (by omega) (by omega) (by omega)
  have hZ22 := hS.1
  refine lv_aload_n hx hb dX2_init_59 rfl (lv_at hl 0 rfl) ?_
  refine h_new (D := G.1) (C := RX0) (T := TX0) (N := 2) (ci := 4) (fs := [.null, .int 0]) hx hb hts inX0 tyX0 tyX0_ok hown (hts _ tw_1_37) (hts _ tw_1_39) (hts _ tw_1_2) hK hS rfl (fun j hj => match j, hj with | 0, _ => rfl | 1, _ => rfl) (Nat.le_trans (show ((((((((0 + 1) + 1) + 1) + 1) + 1) + 3) + 1) + 1) + 1 ≤ 38 by omega) (Nat.le_of_ble_eq_true rfl)) (Nat.le_trans (show ((((((((0 + 4) + 7) + 2) + 60) + 3) + 123) + 2) + 60) + 2 ≤ 1200 by omega) (Nat.le_of_ble_eq_true rfl)) dX2_init_60 (fun w_23 H24 hw_23 hOw_23 z24 o24 hS => ?_)
  have hZ24 := hS.1
  have hMw_23 : A w_23 := hA w_23 (by omega)
  obtain rfl : n + 10 = w_23 := by omega
  have hO := at_n hO o24
  have hX := at_n hX o24
  have hY := at_n hY o24
  have hRw := LA.n hRw o24
  have hMd := LA.n hMd o24
  have hPc := PA.n hPc o24
  refine lv_dup hx hb dX2_init_63 rfl ?_
  refine qV_IN (A := A) (A1 := ow (n + 10) (n + 10) H24.size) (b := (n + 10)) (As := []) (rest := .ref (n + 10) :: .ref a :: []) ⟨hx, hb, hml, hown, hts⟩ (mX0_init (A := ow (n + 10) (n + 10) H24.size) (a := n + 10) (sz := H24.size) (Or.inl rfl)) ⟨va_cnB 0 hts (gI tw_1_42) rfl rfl rfl hC.2.2.2.2.2.1 (hts _ tw_1_2) (by decide +kernel) ⟨Nat.le_of_ble_eq_true rfl, Nat.le_of_ble_eq_true rfl⟩, rfl, hts _ tw_1_41⟩ hC hS (ow_in hMw_23 hMw_23 hA (by omega)) ow_n  ⟨rfl, hOw_23⟩ rfl rfl hl.1 (Nat.le_of_ble_eq_true rfl) ⟨Nat.le_trans (show (((((((((0 + 1) + 1) + 1) + 1) + 1) + 3) + 1) + 1) + 1) + 1 ≤ 38 by omega) (Nat.le_of_ble_eq_true rfl), Nat.le_trans (show (((((((((0 + 4) + 7) + 2) + 60) + 3) + 123) + 2) + 60) + 2) + 60 ≤ 1200 by omega) (Nat.le_of_ble_eq_true rfl)⟩ dX2_init_64 (fun H25 L25 hP25 hk25 hS => ?_)
  have hZ25 := hS.1
  obtain ⟨ca25, hc25, hz25, hDr⟩ := hP25
  have hcl25 := hDr.lt.2
  obtain rfl : n + 10 + 1 = ca25 := by omega
  have hO := at_kp hO hk25 (ow_no (by omega) (by omega) (by omega))
  have hX := at_kp hX hk25 (ow_no (by omega) (by omega) (by omega))
  have hY := at_kp hY hk25 (ow_no (by omega) (by omega) (by omega))
  have hRw := LA.kp hRw hk25 (ow_no (by omega) (by omega) (by omega)) (ow_no (by omega) (by omega) (by omega))
  have hMd := LA.kp hMd hk25 (ow_no (by omega) (by omega) (by omega)) (ow_no (by omega) (by omega) (by omega))
  have hPc := PA.kp hPc hk25 (ow_no (by omega) (by omega) (by omega)) (ow_no (by omega) (by omega) (by omega)) (ow_no (by omega) (by omega) (by omega)) (ow_no (by omega) (by omega) (by omega))
  refine h_putF (D := G.1) (ci := 6) (C := RX2) (T := TX2) (N := 8) hx hb hts inX2 tyX2 tyX2_ok nmX2 hown hK hO hS hAa rfl 6 (by decide) (hts _ tw_1_143) (fun _ h9 => h9) rfl hname rfl (tyX2_ok 6 (by decide)) rfl rfl (Nat.le_of_ble_eq_true rfl) dX2_init_67 (fun H26 L26 hO z26 o26 hS => ?_)
  have hO : va_at G.1 vwCl (a, .inr (6, [.ref n, .ref (n + 1), .ref (n + 2), .ref (n + 4), .int (nI 0), .ref (n + 8), .ref (n + 10), .null])) H26 := hO
  have hX := at_o hX o26 (by omega)
  have hY := at_o hY o26 (by omega)
  have hRw := LA.o hRw o26 (by omega) (by omega)
  have hMd := LA.o hMd o26 (by omega) (by omega)
  have hDr := LA.o hDr o26 (by omega) (by omega)
  have hPc := PA.o hPc o26 (by omega) (by omega) (by omega) (by omega)
  have hZ26 := hS.1
  refine lv_aload_n hx hb dX2_init_70 rfl (lv_at hl 0 rfl) ?_
  refine h_new (D := G.1) (C := RX1) (T := TX1) (N := 3) (ci := 5) (fs := [.null, .null, .int 0]) hx hb hts inX1 tyX1 tyX1_ok hown (hts _ tw_1_52) (hts _ tw_1_53) (hts _ tw_1_3) hK hS rfl (fun j hj => match j, hj with | 0, _ => rfl | 1, _ => rfl | 2, _ => rfl) (Nat.le_trans (show ((((((((((0 + 1) + 1) + 1) + 1) + 1) + 3) + 1) + 1) + 1) + 1) + 1 ≤ 38 by omega) (Nat.le_of_ble_eq_true rfl)) (Nat.le_trans (show ((((((((((0 + 4) + 7) + 2) + 60) + 3) + 123) + 2) + 60) + 2) + 60) + 3 ≤ 1200 by omega) (Nat.le_of_ble_eq_true rfl)) dX2_init_71 (fun w_27 H28 hw_27 hOw_27 z28 o28 hS => ?_)
  have hZ28 := hS.1
  have hMw_27 : A w_27 := hA w_27 (by omega)
  obtain rfl : n + 12 = w_27 := by omega
  have hO := at_n hO o28
  have hX := at_n hX o28
  have hY := at_n hY o28
  have hRw := LA.n hRw o28
  have hMd := LA.n hMd o28
  have hDr := LA.n hDr o28
  have hPc := PA.n hPc o28
  refine lv_dup hx hb dX2_init_74 rfl ?_
  refine qV_IN (A := A) (A1 := ow (n + 12) (n + 12) H28.size) (b := (n + 12)) (As := []) (rest := .ref (n + 12) :: .ref a :: []) ⟨hx, hb, hml, hown, hts⟩ (mX1_init (A := ow (n + 12) (n + 12) H28.size) (a := n + 12) (sz := H28.size) (Or.inl rfl)) ⟨va_cnB 0 hts (gI tw_1_56) rfl rfl rfl hC.2.2.2.2.2.2.1 (hts _ tw_1_3) (by decide +kernel) ⟨Nat.le_of_ble_eq_true rfl, Nat.le_of_ble_eq_true rfl⟩, rfl, hts _ tw_1_55⟩ hC hS (ow_in hMw_27 hMw_27 hA (by omega)) ow_n  ⟨rfl, hOw_27⟩ rfl rfl hl.1 (Nat.le_of_ble_eq_true rfl) ⟨Nat.le_trans (show (((((((((((0 + 1) + 1) + 1) + 1) + 1) + 3) + 1) + 1) + 1) + 1) + 1) + 3 ≤ 38 by omega) (Nat.le_of_ble_eq_true rfl), Nat.le_trans (show (((((((((((0 + 4) + 7) + 2) + 60) + 3) + 123) + 2) + 60) + 2) + 60) + 3) + 123 ≤ 1200 by omega) (Nat.le_of_ble_eq_true rfl)⟩ dX2_init_75 (fun H29 L29 hP29 hk29 hS => ?_)
  have hZ29 := hS.1
  obtain ⟨hz29, hTr⟩ := hP29
  rw [show H28.size = n + 12 + 1 by omega] at hTr
  have hO := at_kp hO hk29 (ow_no (by omega) (by omega) (by omega))
  have hX := at_kp hX hk29 (ow_no (by omega) (by omega) (by omega))
  have hY := at_kp hY hk29 (ow_no (by omega) (by omega) (by omega))
  have hRw := LA.kp hRw hk29 (ow_no (by omega) (by omega) (by omega)) (ow_no (by omega) (by omega) (by omega))
  have hMd := LA.kp hMd hk29 (ow_no (by omega) (by omega) (by omega)) (ow_no (by omega) (by omega) (by omega))
  have hDr := LA.kp hDr hk29 (ow_no (by omega) (by omega) (by omega)) (ow_no (by omega) (by omega) (by omega))
  have hPc := PA.kp hPc hk29 (ow_no (by omega) (by omega) (by omega)) (ow_no (by omega) (by omega) (by omega)) (ow_no (by omega) (by omega) (by omega)) (ow_no (by omega) (by omega) (by omega))
  refine h_putF (D := G.1) (ci := 6) (C := RX2) (T := TX2) (N := 8) hx hb hts inX2 tyX2 tyX2_ok nmX2 hown hK hO hS hAa rfl 7 (by decide) (hts _ tw_1_144) (fun _ h9 => h9) rfl hname rfl (tyX2_ok 7 (by decide)) rfl rfl (Nat.le_of_ble_eq_true rfl) dX2_init_78 (fun H30 L30 hO z30 o30 hS => ?_)
  have hO : va_at G.1 vwCl (a, .inr (6, [.ref n, .ref (n + 1), .ref (n + 2), .ref (n + 4), .int (nI 0), .ref (n + 8), .ref (n + 10), .ref (n + 12)])) H30 := hO
  have hX := at_o hX o30 (by omega)
  have hY := at_o hY o30 (by omega)
  have hRw := LA.o hRw o30 (by omega) (by omega)
  have hMd := LA.o hMd o30 (by omega) (by omega)
  have hDr := LA.o hDr o30 (by omega) (by omega)
  have hPc := PA.o hPc o30 (by omega) (by omega) (by omega) (by omega)
  have hTr := PA.o hTr o30 (by omega) (by omega) (by omega) (by omega)
  have hZ30 := hS.1
  refine lv_iconst (v := nI 0) hx hb dX2_init_81 (by decide) ?_
  refine lv_istore_n (lv' := [(1, .int (nI 0)), (0, .ref a)]) hx hb dX2_init_82 rfl hl (by decide) rfl (fun ls hl => ?_)
  have hsz : H30.size = n + 16 := by omega
  refine W.widen (k := 16 + 0 * 2) (n := 449 + 0 * 62) (by decide) (by decide) ?_
  refine nloop (P := fun j => ∀ (ls : Array Slot) (H : Heap) (L : List Loc) (f : Nat → Option Nat), lv_has ls 2 [(1, .int (nI j)), (0, .ref a)] → va_S A s.heap H L → H.size = n + 16 + 2 * j → va_at G.1 vwCl (a, .inr (6, [.ref n, .ref (n + 1), .ref (n + 2), .ref (n + 4), .int 0, .ref (n + 8), .ref (n + 10), .ref (n + 12)])) H → va_at G.1 vwCl (n, .inl (G.2.1 3, 4, .inr (.inr (.inr (.inr f))))) H → (∀ i : Nat, i < j → f i = some (n + 16 + 2 * i)) → va_at G.1 vwCl (n + 1, .inl (G.2.1 3, 7, .inr (.inr (.inr (.inr (fun _ => none)))))) H → LA G (n + 2) (n + 2 + 1) [] H → LA G (n + 8) (n + 8 + 1) [] H → LA G (n + 10) (n + 10 + 1) [] H → PA G (n + 4) (n + 4 + 1) (n + 4 + 1 + 1) (n + 4 + 1 + 2) [] [] H → PA G (n + 12) (n + 12 + 1) (n + 12 + 1 + 1) (n + 12 + 1 + 2) [] [] H → (∀ i : Nat, i < j → LA G (n + 16 + 2 * i) (n + 16 + 2 * i + 1) [] H) → W p l e rmX2_init s m [.ref a].toArray below meth c H L (16 + j * 2) (449 + j * 62) (MQ below (qV A (fun H => H.size = n + 38 ∧ SW G (SAc a n) T0c [] [] 0 H)) [.ref a].toArray s 38 1200 (A)) (F0 m 83 ls [])) 4 ?_ 0 (Nat.zero_le _) ls H30 L30 (fun _ => none) hl hS hsz hO hX (fun i hi => absurd hi (Nat.not_lt_zero i)) hY hRw hMd hDr hPc hTr (fun i hi => absurd hi (Nat.not_lt_zero i))
  clear hl
  intro j hj ih ls H L f hl
  clear hS hsz hO hX hY hRw hMd hDr hPc hTr
  intro hS hsz hO hX hf hY hRw hMd hDr hPc hTr hT
  have hZ0 := hS.1
  refine lv_iload_n hx hb dX2_init_83 rfl (lv_at hl 0 rfl) ?_
  refine lv_iconst (v := nI 4) hx hb dX2_init_84 (by decide) ?_
  refine b_ge (tgt := 107) hx hb dX2_init_85 (by decide) (by omega) (by omega) (fun c_31 => ?_) (fun c_31 => ?_)
  · obtain rfl : j = 4 := by omega
    refine lv_iconst (v := nI 0) hx hb dX2_init_107 (by decide) ?_
    refine lv_istore_n (lv' := [(1, .int (nI 0)), (0, .ref a)]) hx hb dX2_init_108 rfl hl (by decide) rfl (fun ls hl => ?_)
    refine W.widen (k := 24 + 0 * 2) (n := 697 + 0 * 62) (by decide) (by decide) ?_
    clear ih
    refine nloop (P := fun j => ∀ (ls : Array Slot) (H : Heap) (L : List Loc) (g : Nat → Option Nat), lv_has ls 2 [(1, .int (nI j)), (0, .ref a)] → va_S A s.heap H L → H.size = n + 24 + 2 * j → va_at G.1 vwCl (a, .inr (6, [.ref n, .ref (n + 1), .ref (n + 2), .ref (n + 4), .int 0, .ref (n + 8), .ref (n + 10), .ref (n + 12)])) H → va_at G.1 vwCl (n, .inl (G.2.1 3, 4, .inr (.inr (.inr (.inr f))))) H → va_at G.1 vwCl (n + 1, .inl (G.2.1 3, 7, .inr (.inr (.inr (.inr g))))) H → (∀ i : Nat, i < j → g i = some (n + 24 + 2 * i)) → LA G (n + 2) (n + 2 + 1) [] H → LA G (n + 8) (n + 8 + 1) [] H → LA G (n + 10) (n + 10 + 1) [] H → PA G (n + 4) (n + 4 + 1) (n + 4 + 1 + 1) (n + 4 + 1 + 2) [] [] H → PA G (n + 12) (n + 12 + 1) (n + 12 + 1 + 1) (n + 12 + 1 + 2) [] [] H → (∀ i : Nat, i < 4 → LA G (n + 16 + 2 * i) (n + 16 + 2 * i + 1) [] H) → (∀ i : Nat, i < j → LA G (n + 24 + 2 * i) (n + 24 + 2 * i + 1) (knT i) H) → W p l e rmX2_init s m [.ref a].toArray below meth c H L (24 + j * 2) (697 + j * 62) (MQ below (qV A (fun H => H.size = n + 38 ∧ SW G (SAc a n) T0c [] [] 0 H)) [.ref a].toArray s 38 1200 (A)) (F0 m 109 ls [])) 7 ?_ 0 (Nat.zero_le _) ls H L (fun _ => none) hl hS (by omega) hO hX hY (fun i hi => absurd hi (Nat.not_lt_zero i)) hRw hMd hDr hPc hTr hT (fun i hi => absurd hi (Nat.not_lt_zero i))
    clear hl
    intro j hj ih ls H L g hl
    clear hS hsz hO hX hY hRw hMd hDr hPc hTr hT
    intro hS hsz hO hX hY hg hRw hMd hDr hPc hTr hT hU
    have hZ0 := hS.1
    refine lv_iload_n hx hb dX2_init_109 rfl (lv_at hl 0 rfl) ?_
    refine lv_bipush (v := nI 7) hx hb dX2_init_110 (by decide) ?_
    refine b_ge (tgt := 147) hx hb dX2_init_112 (by decide) (by omega) (by omega) (fun c_32 => ?_) (fun c_32 => ?_)
    · exact q_v hx hb hr hlocks dX2_init_147 hS (by omega) (by omega) ⟨by omega, SWc (by omega) hO (at_fun hX hf) (at_fun hY (fun i hi => hg i (by omega))) hRw hMd hDr hPc hTr hT (fun i hi => hU i (by omega))⟩
    · refine lv_aload_n hx hb dX2_init_115 rfl (lv_at hl 1 rfl) ?_
      refine va_get (D := G.1) (ci := 6) (C := RX2) (T := TX2) (N := 8) hx hb hts inX2 hown hK (at_P hO) 0 rfl rfl 1 (by decide) (hts _ tw_1_138) (fun _ h9 => h9) rfl dX2_init_116 ?_
      refine lv_iload_n hx hb dX2_init_119 rfl (lv_at hl 0 rfl) ?_
      refine h_new (D := G.1) (C := RX0) (T := TX0) (N := 2) (ci := 4) (fs := [.null, .int 0]) hx hb hts inX0 tyX0 tyX0_ok hown (hts _ tw_1_37) (hts _ tw_1_39) (hts _ tw_1_2) hK hS rfl (fun j hj => match j, hj with | 0, _ => rfl | 1, _ => rfl) (Nat.le_trans (show (24 + j * 2) + 1 ≤ 38 by omega) (Nat.le_of_ble_eq_true rfl)) (Nat.le_trans (show (697 + j * 62) + 2 ≤ 1200 by omega) (Nat.le_of_ble_eq_true rfl)) dX2_init_120 (fun w_33 H34 hw_33 hOw_33 z34 o34 hS => ?_)
      have hZ34 := hS.1
      have hMw_33 : A w_33 := hA w_33 (by omega)
      obtain rfl : n + 24 + 2 * j = w_33 := by omega
      have hO := at_n hO o34
      have hX := at_n hX o34
      have hY := at_n hY o34
      have hRw := LA.n hRw o34
      have hMd := LA.n hMd o34
      have hDr := LA.n hDr o34
      have hPc := PA.n hPc o34
      have hTr := PA.n hTr o34
      refine lv_dup hx hb dX2_init_123 rfl ?_
      refine qV_IN (A := A) (A1 := ow (n + 24 + 2 * j) (n + 24 + 2 * j) H34.size) (b := (n + 24 + 2 * j)) (As := []) (rest := .ref (n + 24 + 2 * j) :: .int (nI j) :: .ref (n + 1) :: []) ⟨hx, hb, hml, hown, hts⟩ (mX0_init (A := ow (n + 24 + 2 * j) (n + 24 + 2 * j) H34.size) (a := n + 24 + 2 * j) (sz := H34.size) (Or.inl rfl)) ⟨va_cnB 0 hts (gI tw_1_42) rfl rfl rfl hC.2.2.2.2.2.1 (hts _ tw_1_2) (by decide +kernel) ⟨Nat.le_of_ble_eq_true rfl, Nat.le_of_ble_eq_true rfl⟩, rfl, hts _ tw_1_41⟩ hC hS (ow_in hMw_33 hMw_33 hA (by omega)) ow_n  ⟨rfl, hOw_33⟩ rfl rfl hl.1 (Nat.le_of_ble_eq_true rfl) ⟨Nat.le_trans (show ((24 + j * 2) + 1) + 1 ≤ 38 by omega) (Nat.le_of_ble_eq_true rfl), Nat.le_trans (show ((697 + j * 62) + 2) + 60 ≤ 1200 by omega) (Nat.le_of_ble_eq_true rfl)⟩ dX2_init_124 (fun H35 L35 hP35 hk35 hS => ?_)
      have hZ35 := hS.1
      obtain ⟨ca35, hc35, hz35, hLj⟩ := hP35
      have hcl35 := hLj.lt.2
      obtain rfl : n + 24 + 2 * j + 1 = ca35 := by omega
      have hO := at_kp hO hk35 (ow_no (by omega) (by omega) (by omega))
      have hX := at_kp hX hk35 (ow_no (by omega) (by omega) (by omega))
      have hY := at_kp hY hk35 (ow_no (by omega) (by omega) (by omega))
      have hRw := LA.kp hRw hk35 (ow_no (by omega) (by omega) (by omega)) (ow_no (by omega) (by omega) (by omega))
      have hMd := LA.kp hMd hk35 (ow_no (by omega) (by omega) (by omega)) (ow_no (by omega) (by omega) (by omega))
      have hDr := LA.kp hDr hk35 (ow_no (by omega) (by omega) (by omega)) (ow_no (by omega) (by omega) (by omega))
      have hPc := PA.kp hPc hk35 (ow_no (by omega) (by omega) (by omega)) (ow_no (by omega) (by omega) (by omega)) (ow_no (by omega) (by omega) (by omega)) (ow_no (by omega) (by omega) (by omega))
      have hTr := PA.kp hTr hk35 (ow_no (by omega) (by omega) (by omega)) (ow_no (by omega) (by omega) (by omega)) (ow_no (by omega) (by omega) (by omega)) (ow_no (by omega) (by omega) (by omega))
      have hT : ∀ i : Nat, i < 4 → LA G (n + 16 + 2 * i) (n + 16 + 2 * i + 1) [] H35 := fun i hi => LA.kp (LA.n (hT i hi) o34) hk35 (ow_no (by omega) (by omega) (by omega)) (ow_no (by omega) (by omega) (by omega))
      have hU : ∀ i : Nat, i < j → LA G (n + 24 + 2 * i) (n + 24 + 2 * i + 1) (knT i) H35 := fun i hi => LA.kp (LA.n (hU i hi) o34) hk35 (ow_no (by omega) (by omega) (by omega)) (ow_no (by omega) (by omega) (by omega))
      refine h_aast (D := G.1) (r := (RX0, TX0, 2)) hx hb hK 3 4 hY rfl hLj.2.2.2.1 rfl hS (hA _ (by omega)) (vp_in_nI (n := j) (N := 7) (by omega) (by omega)) dX2_init_127 (fun H36 L36 hY z36 o36 hS => ?_)
      rw [nI_clamp (n := j) (by omega)] at hY
      have hO := at_o hO o36 (by omega)
      have hX := at_o hX o36 (by omega)
      have hRw := LA.o hRw o36 (by omega) (by omega)
      have hMd := LA.o hMd o36 (by omega) (by omega)
      have hDr := LA.o hDr o36 (by omega) (by omega)
      have hLj := LA.o hLj o36 (by omega) (by omega)
      have hPc := PA.o hPc o36 (by omega) (by omega) (by omega) (by omega)
      have hTr := PA.o hTr o36 (by omega) (by omega) (by omega) (by omega)
      have hZ36 := hS.1
      have hT : ∀ i : Nat, i < 4 → LA G (n + 16 + 2 * i) (n + 16 + 2 * i + 1) [] H36 := fun i hi => LA.o (hT i hi) o36 (by omega) (by omega)
      have hU : ∀ i : Nat, i < j → LA G (n + 24 + 2 * i) (n + 24 + 2 * i + 1) (knT i) H36 := fun i hi => LA.o (hU i hi) o36 (by omega) (by omega)
      refine lv_aload_n hx hb dX2_init_128 rfl (lv_at hl 1 rfl) ?_
      refine va_get (D := G.1) (ci := 6) (C := RX2) (T := TX2) (N := 8) hx hb hts inX2 hown hK (at_P hO) 0 rfl rfl 1 (by decide) (hts _ tw_1_138) (fun _ h9 => h9) rfl dX2_init_129 ?_
      refine lv_iload_n hx hb dX2_init_132 rfl (lv_at hl 0 rfl) ?_
      refine va_aldq (D := G.1) hx hb hK (at_P hY) 0 3 rfl rfl (vp_in_nI (n := j) (N := 7) (by omega) (by omega)) dX2_init_133 ?_
      refine v_cv (show va_rf _ = .ref (n + 24 + 2 * j) from by rw [nI_clamp (n := j) (by omega)]; unfold va_up; rw [if_pos rfl]; rfl) ?_
      refine lv_iload_n hx hb dX2_init_134 rfl (lv_at hl 0 rfl) ?_
      refine kS_a (A := A) (As := [.int (nI j)]) (rest := .ref (n + 24 + 2 * j) :: []) ⟨hx, hb, hml, hown, hts⟩ (mX2_wordOfKnown (A := A) (i := j) (by omega)) (va_cwS 1 hts (gS tw_1_71 tw_1_72 tw_1_1 tw_1_73) rfl rfl rfl (by decide +kernel) ⟨Nat.le_of_ble_eq_true rfl, Nat.le_of_ble_eq_true rfl⟩) hC hS hA  trivial rfl rfl hl.1 (Nat.le_of_ble_eq_true rfl) ⟨Nat.le_trans (show (((24 + j * 2) + 1) + 1) ≤ 38 by omega) (Nat.le_of_ble_eq_true rfl), Nat.le_trans (show (((697 + j * 62) + 2) + 60) ≤ 1200 by omega) (Nat.le_of_ble_eq_true rfl)⟩ dX2_init_135 (fun a_37 ha_37 => ?_)
      obtain rfl : a_37 = G.2.2 (20 + wkN j) := ha_37
      refine qV_V (A := A) (A1 := ow (n + 24 + 2 * j) (n + 24 + 2 * j + 1) H36.size) (b := (n + 24 + 2 * j)) (As := [.ref (G.2.2 (20 + wkN j))]) (rest := []) ⟨hx, hb, hml, hown, hts⟩ (mX0_addWord_z (A := ow (n + 24 + 2 * j) (n + 24 + 2 * j + 1) H36.size) (ca := n + 24 + 2 * j + 1) (sz := H36.size) (t := []) (i := wkN j) (wkN_lt (by omega)) (Or.inl rfl) (Or.inr (Or.inl rfl))) (cwV 1 hts (gV tw_1_81 tw_1_82 tw_1_83 tw_1_2 tw_1_84) rfl rfl rfl (by decide +kernel) ⟨Nat.le_of_ble_eq_true rfl, Nat.le_of_ble_eq_true rfl⟩) hC hS (ow_in (hA _ (by omega)) (hA _ (by omega)) hA (by omega)) ow_n (hLj.recv hK) ⟨rfl, hLj⟩ rfl rfl hl.1 (Nat.le_of_ble_eq_true rfl) ⟨Nat.le_trans (show (((24 + j * 2) + 1) + 1) ≤ 38 by omega) (Nat.le_of_ble_eq_true rfl), Nat.le_trans (show (((697 + j * 62) + 2) + 60) ≤ 1200 by omega) (Nat.le_of_ble_eq_true rfl)⟩ dX2_init_138 (fun H38 L38 hP38 hk38 hS => ?_)
      have hZ38 := hS.1
      obtain ⟨hsz9, hLj⟩ := hP38
      have hO := at_kp hO hk38 (ow_no (by omega) (by omega) (by omega))
      have hX := at_kp hX hk38 (ow_no (by omega) (by omega) (by omega))
      have hY := at_kp hY hk38 (ow_no (by omega) (by omega) (by omega))
      have hRw := LA.kp hRw hk38 (ow_no (by omega) (by omega) (by omega)) (ow_no (by omega) (by omega) (by omega))
      have hMd := LA.kp hMd hk38 (ow_no (by omega) (by omega) (by omega)) (ow_no (by omega) (by omega) (by omega))
      have hDr := LA.kp hDr hk38 (ow_no (by omega) (by omega) (by omega)) (ow_no (by omega) (by omega) (by omega))
      have hPc := PA.kp hPc hk38 (ow_no (by omega) (by omega) (by omega)) (ow_no (by omega) (by omega) (by omega)) (ow_no (by omega) (by omega) (by omega)) (ow_no (by omega) (by omega) (by omega))
      have hTr := PA.kp hTr hk38 (ow_no (by omega) (by omega) (by omega)) (ow_no (by omega) (by omega) (by omega)) (ow_no (by omega) (by omega) (by omega)) (ow_no (by omega) (by omega) (by omega))
      have hT : ∀ i : Nat, i < 4 → LA G (n + 16 + 2 * i) (n + 16 + 2 * i + 1) [] H38 := fun i hi => LA.kp (hT i hi) hk38 (ow_no (by omega) (by omega) (by omega)) (ow_no (by omega) (by omega) (by omega))
      have hU : ∀ i : Nat, i < j + 1 → LA G (n + 24 + 2 * i) (n + 24 + 2 * i + 1) (knT i) H38 := fun i hi => by rcases Nat.lt_succ_iff_lt_or_eq.mp hi with q | q; exact LA.kp (hU i q) hk38 (ow_no (by omega) (by omega) (by omega)) (ow_no (by omega) (by omega) (by omega)); rw [q, ← wkN_kn (show j < 7 by omega)]; exact hLj
      refine lv_iinc (v := nI (j + 1)) (lv' := [(1, .int (nI (j + 1))), (0, .ref a)]) hx hb dX2_init_141 hl (k := 0) rfl (nI_add j 1) (by decide) rfl (fun ls hl => ?_)
      refine lv_goto (tgt := 109) hx hb dX2_init_144 (by decide) ?_
      refine W.widen (k := 24 + (j + 1) * 2) (n := 697 + (j + 1) * 62) (by omega) (by omega) ?_
      exact ih (j + 1) (by omega) (by omega) ls H38 L38 _ (lv_sub hl [0, 1] rfl) hS (by omega) hO hX hY (fun i hi => by unfold va_up; split; (next q => rw [q]); (next q => exact hg i (by omega))) hRw hMd hDr hPc hTr hT hU
  · refine lv_aload_n hx hb dX2_init_88 rfl (lv_at hl 1 rfl) ?_
    refine va_get (D := G.1) (ci := 6) (C := RX2) (T := TX2) (N := 8) hx hb hts inX2 hown hK (at_P hO) 0 rfl rfl 0 (by decide) (hts _ tw_1_137) (fun _ h9 => h9) rfl dX2_init_89 ?_
    refine lv_iload_n hx hb dX2_init_92 rfl (lv_at hl 0 rfl) ?_
    refine h_new (D := G.1) (C := RX0) (T := TX0) (N := 2) (ci := 4) (fs := [.null, .int 0]) hx hb hts inX0 tyX0 tyX0_ok hown (hts _ tw_1_37) (hts _ tw_1_39) (hts _ tw_1_2) hK hS rfl (fun j hj => match j, hj with | 0, _ => rfl | 1, _ => rfl) (Nat.le_trans (show (16 + j * 2) + 1 ≤ 38 by omega) (Nat.le_of_ble_eq_true rfl)) (Nat.le_trans (show (449 + j * 62) + 2 ≤ 1200 by omega) (Nat.le_of_ble_eq_true rfl)) dX2_init_93 (fun w_39 H40 hw_39 hOw_39 z40 o40 hS => ?_)
    have hZ40 := hS.1
    have hMw_39 : A w_39 := hA w_39 (by omega)
    obtain rfl : n + 16 + 2 * j = w_39 := by omega
    have hO := at_n hO o40
    have hX := at_n hX o40
    have hY := at_n hY o40
    have hRw := LA.n hRw o40
    have hMd := LA.n hMd o40
    have hDr := LA.n hDr o40
    have hPc := PA.n hPc o40
    have hTr := PA.n hTr o40
    refine lv_dup hx hb dX2_init_96 rfl ?_
    refine qV_IN (A := A) (A1 := ow (n + 16 + 2 * j) (n + 16 + 2 * j) H40.size) (b := (n + 16 + 2 * j)) (As := []) (rest := .ref (n + 16 + 2 * j) :: .int (nI j) :: .ref n :: []) ⟨hx, hb, hml, hown, hts⟩ (mX0_init (A := ow (n + 16 + 2 * j) (n + 16 + 2 * j) H40.size) (a := n + 16 + 2 * j) (sz := H40.size) (Or.inl rfl)) ⟨va_cnB 0 hts (gI tw_1_42) rfl rfl rfl hC.2.2.2.2.2.1 (hts _ tw_1_2) (by decide +kernel) ⟨Nat.le_of_ble_eq_true rfl, Nat.le_of_ble_eq_true rfl⟩, rfl, hts _ tw_1_41⟩ hC hS (ow_in hMw_39 hMw_39 hA (by omega)) ow_n  ⟨rfl, hOw_39⟩ rfl rfl hl.1 (Nat.le_of_ble_eq_true rfl) ⟨Nat.le_trans (show ((16 + j * 2) + 1) + 1 ≤ 38 by omega) (Nat.le_of_ble_eq_true rfl), Nat.le_trans (show ((449 + j * 62) + 2) + 60 ≤ 1200 by omega) (Nat.le_of_ble_eq_true rfl)⟩ dX2_init_97 (fun H41 L41 hP41 hk41 hS => ?_)
    have hZ41 := hS.1
    obtain ⟨ca41, hc41, hz41, hLj⟩ := hP41
    have hcl41 := hLj.lt.2
    obtain rfl : n + 16 + 2 * j + 1 = ca41 := by omega
    have hO := at_kp hO hk41 (ow_no (by omega) (by omega) (by omega))
    have hX := at_kp hX hk41 (ow_no (by omega) (by omega) (by omega))
    have hY := at_kp hY hk41 (ow_no (by omega) (by omega) (by omega))
    have hRw := LA.kp hRw hk41 (ow_no (by omega) (by omega) (by omega)) (ow_no (by omega) (by omega) (by omega))
    have hMd := LA.kp hMd hk41 (ow_no (by omega) (by omega) (by omega)) (ow_no (by omega) (by omega) (by omega))
    have hDr := LA.kp hDr hk41 (ow_no (by omega) (by omega) (by omega)) (ow_no (by omega) (by omega) (by omega))
    have hPc := PA.kp hPc hk41 (ow_no (by omega) (by omega) (by omega)) (ow_no (by omega) (by omega) (by omega)) (ow_no (by omega) (by omega) (by omega)) (ow_no (by omega) (by omega) (by omega))
    have hTr := PA.kp hTr hk41 (ow_no (by omega) (by omega) (by omega)) (ow_no (by omega) (by omega) (by omega)) (ow_no (by omega) (by omega) (by omega)) (ow_no (by omega) (by omega) (by omega))
    have hT : ∀ i : Nat, i < j → LA G (n + 16 + 2 * i) (n + 16 + 2 * i + 1) [] H41 := fun i hi => LA.kp (LA.n (hT i hi) o40) hk41 (ow_no (by omega) (by omega) (by omega)) (ow_no (by omega) (by omega) (by omega))
    refine h_aast (D := G.1) (r := (RX0, TX0, 2)) hx hb hK 3 4 hX rfl hLj.2.2.2.1 rfl hS (hA _ (by omega)) (vp_in_nI (n := j) (N := 4) (by omega) (by omega)) dX2_init_100 (fun H42 L42 hX z42 o42 hS => ?_)
    rw [nI_clamp (n := j) (by omega)] at hX
    have hO := at_o hO o42 (by omega)
    have hY := at_o hY o42 (by omega)
    have hRw := LA.o hRw o42 (by omega) (by omega)
    have hMd := LA.o hMd o42 (by omega) (by omega)
    have hDr := LA.o hDr o42 (by omega) (by omega)
    have hLj := LA.o hLj o42 (by omega) (by omega)
    have hPc := PA.o hPc o42 (by omega) (by omega) (by omega) (by omega)
    have hTr := PA.o hTr o42 (by omega) (by omega) (by omega) (by omega)
    have hZ42 := hS.1
    have hT : ∀ i : Nat, i < j + 1 → LA G (n + 16 + 2 * i) (n + 16 + 2 * i + 1) [] H42 := fun i hi => by rcases Nat.lt_succ_iff_lt_or_eq.mp hi with q | q; exact LA.o (hT i q) o42 (by omega) (by omega); rw [q]; exact hLj
    refine lv_iinc (v := nI (j + 1)) (lv' := [(1, .int (nI (j + 1))), (0, .ref a)]) hx hb dX2_init_101 hl (k := 0) rfl (nI_add j 1) (by decide) rfl (fun ls hl => ?_)
    refine lv_goto (tgt := 83) hx hb dX2_init_104 (by decide) ?_
    refine W.widen (k := 16 + (j + 1) * 2) (n := 449 + (j + 1) * 62) (by omega) (by omega) ?_
    exact ih (j + 1) (by omega) (by omega) ls H42 L42 _ (lv_sub hl [0, 1] rfl) hS (by omega) hO hX (fun i hi => by unfold va_up; split; (next q => rw [q]); (next q => exact hf i (by omega))) hY hRw hMd hDr hPc hTr hT
end
/-! 33.mod1 -/
section
/-! The model, 1: leaves -/
/-- a row of ints of the class of all that are made here -/
def IA0 (G : Cx) (a : Nat) (t : List Nat) (H : Heap) : Prop := ∃ f : Nat → Int32, va_at G.1 vwCl (a, .inl (G.2.1 0, t.length, .inl f)) H ∧ ∀ j : Nat, j < t.length → f j = nI (t.getD j 0)
theorem IA0.mk {G : Cx} {a n : Nat} {t : List Nat} {f : Nat → Int32} {H : Heap} (h : va_at G.1 vwCl (a, .inl (G.2.1 0, n, .inl f)) H) (hn : n = t.length) (hf : ∀ j, j < n → f j = nI (t.getD j 0)) : IA0 G a t H := by
  subst hn; exact ⟨f, h, hf⟩
theorem IA0.ia {G : Cx} {a : Nat} {t : List Nat} {H : Heap} (h6 : G.2.1 6 = G.2.1 0) (h : IA0 G a t H) : IA G a t H := by
  obtain ⟨f, h1, h2⟩ := h
  exact IA.mk h6 h1 rfl h2
theorem IA0.lt {G : Cx} {a : Nat} {t : List Nat} {H : Heap} (h : IA0 G a t H) : a < H.size := by
  obtain ⟨f, h1, -⟩ := h; exact h1.lt
theorem IA0.kp {G : Cx} {a : Nat} {t : List Nat} {X : Nat → Prop} {H H1 : Heap} (h : IA0 G a t H) (hk : kp X H H1) (hX : ¬ X a) : IA0 G a t H1 := by
  obtain ⟨f, h1, h2⟩ := h; exact ⟨f, at_kp h1 hk hX, h2⟩
theorem IA0.o {G : Cx} {a b : Nat} {t : List Nat} {H H1 : Heap} (h : IA0 G a t H) (oq : ∀ q : Nat, q ≠ b → H1[q]? = H[q]?) (n : a ≠ b) : IA0 G a t H1 := by
  obtain ⟨f, h1, h2⟩ := h; exact ⟨f, at_o h1 oq n, h2⟩
theorem IA0.n {G : Cx} {a : Nat} {t : List Nat} {H H1 : Heap} (h : IA0 G a t H) (oq : ∀ q : Nat, q < H.size → H1[q]? = H[q]?) : IA0 G a t H1 := by
  obtain ⟨f, h1, h2⟩ := h; exact ⟨f, at_n h1 oq, h2⟩
theorem IA0.cell {G : Cx} {a : Nat} {t : List Nat} {H : Heap} (h : IA0 G a t H) : ∃ cv : Cell, H[a]? = some cv ∧ cv.cls = G.2.1 0 ∧ ∀ q, cv.vm ≠ .statics q := by
  obtain ⟨f, h1, -⟩ := h
  exact ⟨_, h1, rfl, fun q h => by cases h⟩
theorem rngI {n : Nat} (hn : n < 2 ^ 31) {x : Int32} : (nI 0 ≤ x ∧ x ≤ nI n) ↔ ∃ i : Nat, i ≤ n ∧ x = nI i := by
  constructor
  · intro ⟨h1, h2⟩
    have h3 : ¬ x < 0 := fun q => absurd (Int32.lt_of_lt_of_le q h1) (Int32.lt_irrefl)
    obtain ⟨j, hj, rfl⟩ := nI_of h3
    exact ⟨j, (nI_leI hj hn).mp h2, rfl⟩
  · rintro ⟨i, hi, rfl⟩
    exact ⟨nI_le (Nat.zero_le _) (by omega), nI_le hi hn⟩
theorem cutL_getD {t : List Nat} {i j k : Nat} (h : k < j - i) : (cutL t i j).getD k 0 = t.getD (i + k) 0 := by
  unfold cutL
  rw [List.getD_eq_getElem?_getD, List.getElem?_take, if_pos h, List.getElem?_drop, ← List.getD_eq_getElem?_getD]
theorem getD_app2 {t u : List Nat} {j : Nat} : (t ++ u).getD (t.length + j) 0 = u.getD j 0 := by
  rw [List.getD_eq_getElem?_getD, List.getElem?_append_right (by omega), Nat.add_sub_cancel_left, ← List.getD_eq_getElem?_getD]
theorem dX4_isIn_0 : decode cX4_isIn 0 = .ok (.iload_n 0, 1) := by decide +kernel
theorem dX4_isIn_1 : decode cX4_isIn 1 = .ok (.iload_n 1, 1) := by decide +kernel
theorem dX4_isIn_2 : decode cX4_isIn 2 = .ok (.if_icmp .lt 12, 3) := by decide +kernel
theorem dX4_isIn_5 : decode cX4_isIn 5 = .ok (.iload_n 0, 1) := by decide +kernel
theorem dX4_isIn_6 : decode cX4_isIn 6 = .ok (.iload_n 2, 1) := by decide +kernel
theorem dX4_isIn_7 : decode cX4_isIn 7 = .ok (.if_icmp .gt 7, 3) := by decide +kernel
theorem dX4_isIn_10 : decode cX4_isIn 10 = .ok (.iconst 1, 1) := by decide +kernel
theorem dX4_isIn_11 : decode cX4_isIn 11 = .ok (.goto 4, 3) := by decide +kernel
theorem dX4_isIn_14 : decode cX4_isIn 14 = .ok (.iconst 0, 1) := by decide +kernel
theorem dX4_isIn_15 : decode cX4_isIn 15 = .ok (.ireturn, 1) := by decide +kernel
theorem dX4_one_0 : decode cX4_one 0 = .ok (.iload_n 0, 1) := by decide +kernel
theorem dX4_one_1 : decode cX4_one 1 = .ok (.ifCond .eq 7, 3) := by decide +kernel
theorem dX4_one_4 : decode cX4_one 4 = .ok (.iconst 1, 1) := by decide +kernel
theorem dX4_one_5 : decode cX4_one 5 = .ok (.goto 4, 3) := by decide +kernel
theorem dX4_one_8 : decode cX4_one 8 = .ok (.iconst 0, 1) := by decide +kernel
theorem dX4_one_9 : decode cX4_one 9 = .ok (.ireturn, 1) := by decide +kernel
theorem dX4_cut_0 : decode cX4_cut 0 = .ok (.iload_n 2, 1) := by decide +kernel
theorem dX4_cut_1 : decode cX4_cut 1 = .ok (.iload_n 1, 1) := by decide +kernel
theorem dX4_cut_2 : decode cX4_cut 2 = .ok (.isub, 1) := by decide +kernel
theorem dX4_cut_3 : decode cX4_cut 3 = .ok (.newarray .int, 2) := by decide +kernel
theorem dX4_cut_5 : decode cX4_cut 5 = .ok (.astore_n 3, 1) := by decide +kernel
theorem dX4_cut_6 : decode cX4_cut 6 = .ok (.iload_n 1, 1) := by decide +kernel
theorem dX4_cut_7 : decode cX4_cut 7 = .ok (.istore 4, 2) := by decide +kernel
theorem dX4_cut_9 : decode cX4_cut 9 = .ok (.iload 4, 2) := by decide +kernel
theorem dX4_cut_11 : decode cX4_cut 11 = .ok (.iload_n 2, 1) := by decide +kernel
theorem dX4_cut_12 : decode cX4_cut 12 = .ok (.if_icmp .ge 19, 3) := by decide +kernel
theorem dX4_cut_15 : decode cX4_cut 15 = .ok (.aload_n 3, 1) := by decide +kernel
theorem dX4_cut_16 : decode cX4_cut 16 = .ok (.iload 4, 2) := by decide +kernel
theorem dX4_cut_18 : decode cX4_cut 18 = .ok (.iload_n 1, 1) := by decide +kernel
theorem dX4_cut_19 : decode cX4_cut 19 = .ok (.isub, 1) := by decide +kernel
theorem dX4_cut_20 : decode cX4_cut 20 = .ok (.aload_n 0, 1) := by decide +kernel
theorem dX4_cut_21 : decode cX4_cut 21 = .ok (.iload 4, 2) := by decide +kernel
theorem dX4_cut_23 : decode cX4_cut 23 = .ok (.iaload, 1) := by decide +kernel
theorem dX4_cut_24 : decode cX4_cut 24 = .ok (.iastore, 1) := by decide +kernel
theorem dX4_cut_25 : decode cX4_cut 25 = .ok (.iinc 4 1, 3) := by decide +kernel
theorem dX4_cut_28 : decode cX4_cut 28 = .ok (.goto (-19), 3) := by decide +kernel
theorem dX4_cut_31 : decode cX4_cut 31 = .ok (.aload_n 3, 1) := by decide +kernel
theorem dX4_cut_32 : decode cX4_cut 32 = .ok (.areturn, 1) := by decide +kernel
theorem dX4_joined_0 : decode cX4_joined 0 = .ok (.aload_n 0, 1) := by decide +kernel
theorem dX4_joined_1 : decode cX4_joined 1 = .ok (.arraylength, 1) := by decide +kernel
theorem dX4_joined_2 : decode cX4_joined 2 = .ok (.aload_n 1, 1) := by decide +kernel
theorem dX4_joined_3 : decode cX4_joined 3 = .ok (.arraylength, 1) := by decide +kernel
theorem dX4_joined_4 : decode cX4_joined 4 = .ok (.iadd, 1) := by decide +kernel
theorem dX4_joined_5 : decode cX4_joined 5 = .ok (.newarray .int, 2) := by decide +kernel
theorem dX4_joined_7 : decode cX4_joined 7 = .ok (.astore_n 2, 1) := by decide +kernel
theorem dX4_joined_8 : decode cX4_joined 8 = .ok (.iconst 0, 1) := by decide +kernel
theorem dX4_joined_9 : decode cX4_joined 9 = .ok (.istore_n 3, 1) := by decide +kernel
theorem dX4_joined_10 : decode cX4_joined 10 = .ok (.iload_n 3, 1) := by decide +kernel
theorem dX4_joined_11 : decode cX4_joined 11 = .ok (.aload_n 0, 1) := by decide +kernel
theorem dX4_joined_12 : decode cX4_joined 12 = .ok (.arraylength, 1) := by decide +kernel
theorem dX4_joined_13 : decode cX4_joined 13 = .ok (.if_icmp .ge 15, 3) := by decide +kernel
theorem dX4_joined_16 : decode cX4_joined 16 = .ok (.aload_n 2, 1) := by decide +kernel
theorem dX4_joined_17 : decode cX4_joined 17 = .ok (.iload_n 3, 1) := by decide +kernel
theorem dX4_joined_18 : decode cX4_joined 18 = .ok (.aload_n 0, 1) := by decide +kernel
theorem dX4_joined_19 : decode cX4_joined 19 = .ok (.iload_n 3, 1) := by decide +kernel
theorem dX4_joined_20 : decode cX4_joined 20 = .ok (.iaload, 1) := by decide +kernel
theorem dX4_joined_21 : decode cX4_joined 21 = .ok (.iastore, 1) := by decide +kernel
theorem dX4_joined_22 : decode cX4_joined 22 = .ok (.iinc 3 1, 3) := by decide +kernel
theorem dX4_joined_25 : decode cX4_joined 25 = .ok (.goto (-15), 3) := by decide +kernel
theorem dX4_joined_28 : decode cX4_joined 28 = .ok (.iconst 0, 1) := by decide +kernel
theorem dX4_joined_29 : decode cX4_joined 29 = .ok (.istore_n 3, 1) := by decide +kernel
theorem dX4_joined_30 : decode cX4_joined 30 = .ok (.iload_n 3, 1) := by decide +kernel
theorem dX4_joined_31 : decode cX4_joined 31 = .ok (.aload_n 1, 1) := by decide +kernel
theorem dX4_joined_32 : decode cX4_joined 32 = .ok (.arraylength, 1) := by decide +kernel
theorem dX4_joined_33 : decode cX4_joined 33 = .ok (.if_icmp .ge 18, 3) := by decide +kernel
theorem dX4_joined_36 : decode cX4_joined 36 = .ok (.aload_n 2, 1) := by decide +kernel
theorem dX4_joined_37 : decode cX4_joined 37 = .ok (.aload_n 0, 1) := by decide +kernel
theorem dX4_joined_38 : decode cX4_joined 38 = .ok (.arraylength, 1) := by decide +kernel
theorem dX4_joined_39 : decode cX4_joined 39 = .ok (.iload_n 3, 1) := by decide +kernel
theorem dX4_joined_40 : decode cX4_joined 40 = .ok (.iadd, 1) := by decide +kernel
theorem dX4_joined_41 : decode cX4_joined 41 = .ok (.aload_n 1, 1) := by decide +kernel
theorem dX4_joined_42 : decode cX4_joined 42 = .ok (.iload_n 3, 1) := by decide +kernel
theorem dX4_joined_43 : decode cX4_joined 43 = .ok (.iaload, 1) := by decide +kernel
theorem dX4_joined_44 : decode cX4_joined 44 = .ok (.iastore, 1) := by decide +kernel
theorem dX4_joined_45 : decode cX4_joined 45 = .ok (.iinc 3 1, 3) := by decide +kernel
theorem dX4_joined_48 : decode cX4_joined 48 = .ok (.goto (-18), 3) := by decide +kernel
theorem dX4_joined_51 : decode cX4_joined 51 = .ok (.aload_n 2, 1) := by decide +kernel
theorem dX4_joined_52 : decode cX4_joined 52 = .ok (.areturn, 1) := by decide +kernel
theorem dX4_isWhite_0 : decode cX4_isWhite 0 = .ok (.iload_n 0, 1) := by decide +kernel
theorem dX4_isWhite_1 : decode cX4_isWhite 1 = .ok (.bipush 32, 2) := by decide +kernel
theorem dX4_isWhite_3 : decode cX4_isWhite 3 = .ok (.if_icmp .eq 21, 3) := by decide +kernel
theorem dX4_isWhite_6 : decode cX4_isWhite 6 = .ok (.iload_n 0, 1) := by decide +kernel
theorem dX4_isWhite_7 : decode cX4_isWhite 7 = .ok (.bipush 9, 2) := by decide +kernel
theorem dX4_isWhite_9 : decode cX4_isWhite 9 = .ok (.if_icmp .eq 15, 3) := by decide +kernel
theorem dX4_isWhite_12 : decode cX4_isWhite 12 = .ok (.iload_n 0, 1) := by decide +kernel
theorem dX4_isWhite_13 : decode cX4_isWhite 13 = .ok (.bipush 10, 2) := by decide +kernel
theorem dX4_isWhite_15 : decode cX4_isWhite 15 = .ok (.if_icmp .eq 9, 3) := by decide +kernel
theorem dX4_isWhite_18 : decode cX4_isWhite 18 = .ok (.iload_n 0, 1) := by decide +kernel
theorem dX4_isWhite_19 : decode cX4_isWhite 19 = .ok (.bipush 28, 2) := by decide +kernel
theorem dX4_isWhite_21 : decode cX4_isWhite 21 = .ok (.if_icmp .ne 7, 3) := by decide +kernel
theorem dX4_isWhite_24 : decode cX4_isWhite 24 = .ok (.iconst 1, 1) := by decide +kernel
theorem dX4_isWhite_25 : decode cX4_isWhite 25 = .ok (.goto 4, 3) := by decide +kernel
theorem dX4_isWhite_28 : decode cX4_isWhite 28 = .ok (.iconst 0, 1) := by decide +kernel
theorem dX4_isWhite_29 : decode cX4_isWhite 29 = .ok (.ireturn, 1) := by decide +kernel
theorem dX4_goes_0 : decode cX4_goes 0 = .ok (.iload_n 1, 1) := by decide +kernel
theorem dX4_goes_1 : decode cX4_goes 1 = .ok (.ifCond .eq 10, 3) := by decide +kernel
theorem dX4_goes_4 : decode cX4_goes 4 = .ok (.iload_n 0, 1) := by decide +kernel
theorem dX4_goes_5 : decode cX4_goes 5 = .ok (.invokestatic 23, 3) := by decide +kernel
theorem dX4_goes_8 : decode cX4_goes 8 = .ok (.goto 14, 3) := by decide +kernel
theorem dX4_goes_11 : decode cX4_goes 11 = .ok (.iload_n 0, 1) := by decide +kernel
theorem dX4_goes_12 : decode cX4_goes 12 = .ok (.bipush 32, 2) := by decide +kernel
theorem dX4_goes_14 : decode cX4_goes 14 = .ok (.if_icmp .gt 7, 3) := by decide +kernel
theorem dX4_goes_17 : decode cX4_goes 17 = .ok (.iconst 1, 1) := by decide +kernel
theorem dX4_goes_18 : decode cX4_goes 18 = .ok (.goto 4, 3) := by decide +kernel
theorem dX4_goes_21 : decode cX4_goes 21 = .ok (.iconst 0, 1) := by decide +kernel
theorem dX4_goes_22 : decode cX4_goes 22 = .ok (.ireturn, 1) := by decide +kernel
theorem dX4_isNone_0 : decode cX4_isNone 0 = .ok (.iload_n 0, 1) := by decide +kernel
theorem dX4_isNone_1 : decode cX4_isNone 1 = .ok (.iconst 0, 1) := by decide +kernel
theorem dX4_isNone_2 : decode cX4_isNone 2 = .ok (.iconst 3, 1) := by decide +kernel
theorem dX4_isNone_3 : decode cX4_isNone 3 = .ok (.invokestatic 90, 3) := by decide +kernel
theorem dX4_isNone_6 : decode cX4_isNone 6 = .ok (.ifCond .ne 7, 3) := by decide +kernel
theorem dX4_isNone_9 : decode cX4_isNone 9 = .ok (.iconst 1, 1) := by decide +kernel
theorem dX4_isNone_10 : decode cX4_isNone 10 = .ok (.goto 4, 3) := by decide +kernel
theorem dX4_isNone_13 : decode cX4_isNone 13 = .ok (.iconst 0, 1) := by decide +kernel
theorem dX4_isNone_14 : decode cX4_isNone 14 = .ok (.ireturn, 1) := by decide +kernel
theorem dX4_isNoSign_0 : decode cX4_isNoSign 0 = .ok (.iload_n 0, 1) := by decide +kernel
theorem dX4_isNoSign_1 : decode cX4_isNoSign 1 = .ok (.iconst 0, 1) := by decide +kernel
theorem dX4_isNoSign_2 : decode cX4_isNoSign 2 = .ok (.getstatic 94, 3) := by decide +kernel
theorem dX4_isNoSign_5 : decode cX4_isNoSign 5 = .ok (.arraylength, 1) := by decide +kernel
theorem dX4_isNoSign_6 : decode cX4_isNoSign 6 = .ok (.iconst 1, 1) := by decide +kernel
theorem dX4_isNoSign_7 : decode cX4_isNoSign 7 = .ok (.isub, 1) := by decide +kernel
theorem dX4_isNoSign_8 : decode cX4_isNoSign 8 = .ok (.invokestatic 90, 3) := by decide +kernel
theorem dX4_isNoSign_11 : decode cX4_isNoSign 11 = .ok (.ifCond .ne 7, 3) := by decide +kernel
theorem dX4_isNoSign_14 : decode cX4_isNoSign 14 = .ok (.iconst 1, 1) := by decide +kernel
theorem dX4_isNoSign_15 : decode cX4_isNoSign 15 = .ok (.goto 4, 3) := by decide +kernel
theorem dX4_isNoSign_18 : decode cX4_isNoSign 18 = .ok (.iconst 0, 1) := by decide +kernel
theorem dX4_isNoSign_19 : decode cX4_isNoSign 19 = .ok (.ireturn, 1) := by decide +kernel
theorem dX4_isNoKnown_0 : decode cX4_isNoKnown 0 = .ok (.iload_n 0, 1) := by decide +kernel
theorem dX4_isNoKnown_1 : decode cX4_isNoKnown 1 = .ok (.iconst 0, 1) := by decide +kernel
theorem dX4_isNoKnown_2 : decode cX4_isNoKnown 2 = .ok (.getstatic 97, 3) := by decide +kernel
theorem dX4_isNoKnown_5 : decode cX4_isNoKnown 5 = .ok (.arraylength, 1) := by decide +kernel
theorem dX4_isNoKnown_6 : decode cX4_isNoKnown 6 = .ok (.iconst 1, 1) := by decide +kernel
theorem dX4_isNoKnown_7 : decode cX4_isNoKnown 7 = .ok (.isub, 1) := by decide +kernel
theorem dX4_isNoKnown_8 : decode cX4_isNoKnown 8 = .ok (.invokestatic 90, 3) := by decide +kernel
theorem dX4_isNoKnown_11 : decode cX4_isNoKnown 11 = .ok (.ifCond .ne 7, 3) := by decide +kernel
theorem dX4_isNoKnown_14 : decode cX4_isNoKnown 14 = .ok (.iconst 1, 1) := by decide +kernel
theorem dX4_isNoKnown_15 : decode cX4_isNoKnown 15 = .ok (.goto 4, 3) := by decide +kernel
theorem dX4_isNoKnown_18 : decode cX4_isNoKnown 18 = .ok (.iconst 0, 1) := by decide +kernel
theorem dX4_isNoKnown_19 : decode cX4_isNoKnown 19 = .ok (.ireturn, 1) := by decide +kernel
abbrev rmX4_isIn : Room := { frames := 0, cells := 0, slots := 0, locals := 0 }
theorem mX4_isIn {l : Launch} {G : Cx} {A : Nat → Prop} {x a9 b9 : Int32} : Met l yX4_isIn (.code yX4_isIn cX4_isIn 3 (some .boolean) :: GW) rmX4_isIn (PC G A [.int x, .int a9, .int b9] (fun _ => True)) (vp_Si (fun r => r = bI (decide (a9 ≤ x ∧ x ≤ b9)))) 0 0 (fun _ => False) := by
  refine mstart "SigntextModel" (by decide +kernel) rfl (Nat.le_of_ble_eq_true rfl) ?_
  intro p e s m below meth c ls hx hb hr hts hown hml hlocks hname hC hA hW hl
  have hl : lv_has ls 3 [(0, .int x), (1, .int a9), (2, .int b9)] := hl
  have hK := hC.1
  have hS : va_S A s.heap s.heap [] := va_S.rf
  refine lv_iload_n hx hb dX4_isIn_0 rfl (lv_at hl 0 rfl) ?_
  refine lv_iload_n hx hb dX4_isIn_1 rfl (lv_at hl 1 rfl) ?_
  refine lv_icmp_lt (tgt := 14) hx hb dX4_isIn_2 (by decide) (fun c_1 => ?_) (fun c_1 => ?_)
  · refine lv_iconst (v := nI 0) hx hb dX4_isIn_14 (by decide) ?_
    exact p_z (b := false) hx hb hr hlocks dX4_isIn_15 (by rw [decide_eq_false (fun q => absurd c_1 (Int32.not_lt.mpr q.1))])
  · refine lv_iload_n hx hb dX4_isIn_5 rfl (lv_at hl 0 rfl) ?_
    refine lv_iload_n hx hb dX4_isIn_6 rfl (lv_at hl 2 rfl) ?_
    refine lv_icmp_gt (tgt := 14) hx hb dX4_isIn_7 (by decide) (fun c_2 => ?_) (fun c_2 => ?_)
    · refine lv_iconst (v := nI 0) hx hb dX4_isIn_14 (by decide) ?_
      exact p_z (b := false) hx hb hr hlocks dX4_isIn_15 (by rw [decide_eq_false (fun q => absurd c_2 (Int32.not_lt.mpr q.2))])
    · refine lv_iconst (v := nI 1) hx hb dX4_isIn_10 (by decide) ?_
      refine lv_goto (tgt := 15) hx hb dX4_isIn_11 (by decide) ?_
      exact p_z (b := true) hx hb hr hlocks dX4_isIn_15 (by rw [decide_eq_true ⟨Int32.not_lt.mp c_1, Int32.not_lt.mp c_2⟩])

abbrev rmX4_isNone : Room := { frames := 1, cells := 0, slots := 0, locals := 22 }
theorem mX4_isNone {l : Launch} {G : Cx} {A : Nat → Prop} {x : Int32} : Met l yX4_isNone (.code yX4_isNone cX4_isNone 1 (some .boolean) :: GW) rmX4_isNone (PC G A [.int x] (fun _ => True)) (vp_Si (fun r => ∃ v : Bool, (v = true ↔ NT x) ∧ r = bI v)) 0 0 (fun _ => False) := by
  refine mstart "SigntextModel" (by decide +kernel) rfl (Nat.le_of_ble_eq_true rfl) ?_
  intro p e s m below meth c ls hx hb hr hts hown hml hlocks hname hC hA hW hl
  have hl : lv_has ls 1 [(0, .int x)] := hl
  have hK := hC.1
  have hS : va_S A s.heap s.heap [] := va_S.rf
  obtain ⟨z1, z2, z3, z4, z5, z6, z7, z8, z9, z10, z11, z12, z13⟩ := hC.2.2.1
  refine lv_iload_n hx hb dX4_isNone_0 rfl (lv_at hl 0 rfl) ?_
  refine lv_iconst (v := nI 0) hx hb dX4_isNone_1 (by decide) ?_
  refine lv_iconst (v := nI 3) hx hb dX4_isNone_2 (by decide) ?_
  refine kS_i (A := A) (As := [.int x, .int (nI 0), .int (nI 3)]) (rest := []) ⟨hx, hb, hml, hown, hts⟩ (mX4_isIn (A := A) ) (va_cwS 3 hts (gS tw_4_197 tw_4_198 tw_1_8 tw_4_199) rfl rfl rfl (by decide +kernel) ⟨Nat.le_of_ble_eq_true rfl, Nat.le_of_ble_eq_true rfl⟩) hC hS hA  trivial rfl rfl hl.1 (Nat.le_of_ble_eq_true rfl) ⟨Nat.zero_le _, Nat.zero_le _⟩ dX4_isNone_3 (fun r9 h9 => lv_cv h9 ?_)
  refine f_ne (tgt := 13) hx hb dX4_isNone_6 (by decide) (fun c_3 => ?_) (fun c_3 => ?_)
  · refine lv_iconst (v := nI 0) hx hb dX4_isNone_13 (by decide) ?_
    exact p_z (b := false) hx hb hr hlocks dX4_isNone_14 ⟨false, ⟨fun q => Bool.noConfusion q, fun q => absurd ((rngI (n := 3) (by decide)).mp (of_decide_eq_true c_3)) (fun ⟨i, h1, h2⟩ => q ⟨i, by omega, h2⟩)⟩, rfl⟩
  · refine lv_iconst (v := nI 1) hx hb dX4_isNone_9 (by decide) ?_
    refine lv_goto (tgt := 14) hx hb dX4_isNone_10 (by decide) ?_
    exact p_z (b := true) hx hb hr hlocks dX4_isNone_14 ⟨true, ⟨fun _ ⟨i, h1, h2⟩ => absurd ((rngI (n := 3) (by decide)).mpr ⟨i, by omega, h2⟩) (of_decide_eq_false c_3), fun _ => rfl⟩, rfl⟩

abbrev rmX4_isNoSign : Room := { frames := 1, cells := 0, slots := 0, locals := 22 }
theorem mX4_isNoSign {l : Launch} {G : Cx} {A : Nat → Prop} {x : Int32} : Met l yX4_isNoSign (.code yX4_isNoSign cX4_isNoSign 1 (some .boolean) :: GW) rmX4_isNoSign (PC G A [.int x] (fun _ => True)) (vp_Si (fun r => ∃ v : Bool, (v = true ↔ NS x) ∧ r = bI v)) 0 0 (fun _ => False) := by
  refine mstart "SigntextModel" (by decide +kernel) rfl (Nat.le_of_ble_eq_true rfl) ?_
  intro p e s m below meth c ls hx hb hr hts hown hml hlocks hname hC hA hW hl
  have hl : lv_has ls 1 [(0, .int x)] := hl
  have hK := hC.1
  have hS : va_S A s.heap s.heap [] := va_S.rf
  obtain ⟨z1, z2, z3, z4, z5, z6, z7, z8, z9, z10, z11, z12, z13⟩ := hC.2.2.1
  refine lv_iload_n hx hb dX4_isNoSign_0 rfl (lv_at hl 0 rfl) ?_
  refine lv_iconst (v := nI 0) hx hb dX4_isNoSign_1 (by decide) ?_
  refine va_gets (v := .ref (G.2.2 1)) hx hb z3 hS hown (hts _ tw_4_195) (fun _ h9 => h9) dX4_isNoSign_2 ?_
  refine va_tlen (v := nI 24) hx hb z4 hS rfl dX4_isNoSign_5 ?_
  refine lv_iconst (v := nI 1) hx hb dX4_isNoSign_6 (by decide) ?_
  refine lv_isub hx hb dX4_isNoSign_7 ?_
  refine lv_cv (pk_sub (a := 24) (b := 1) (by omega)) ?_
  refine kS_i (A := A) (As := [.int x, .int (nI 0), .int (nI (24 - 1))]) (rest := []) ⟨hx, hb, hml, hown, hts⟩ (mX4_isIn (A := A) ) (va_cwS 3 hts (gS tw_4_197 tw_4_198 tw_1_8 tw_4_199) rfl rfl rfl (by decide +kernel) ⟨Nat.le_of_ble_eq_true rfl, Nat.le_of_ble_eq_true rfl⟩) hC hS hA  trivial rfl rfl hl.1 (Nat.le_of_ble_eq_true rfl) ⟨Nat.zero_le _, Nat.zero_le _⟩ dX4_isNoSign_8 (fun r9 h9 => lv_cv h9 ?_)
  refine f_ne (tgt := 18) hx hb dX4_isNoSign_11 (by decide) (fun c_4 => ?_) (fun c_4 => ?_)
  · refine lv_iconst (v := nI 0) hx hb dX4_isNoSign_18 (by decide) ?_
    exact p_z (b := false) hx hb hr hlocks dX4_isNoSign_19 ⟨false, ⟨fun q => Bool.noConfusion q, fun q => absurd ((rngI (n := 23) (by decide)).mp (of_decide_eq_true c_4)) (fun ⟨i, h1, h2⟩ => q ⟨i, by omega, h2⟩)⟩, rfl⟩
  · refine lv_iconst (v := nI 1) hx hb dX4_isNoSign_14 (by decide) ?_
    refine lv_goto (tgt := 19) hx hb dX4_isNoSign_15 (by decide) ?_
    exact p_z (b := true) hx hb hr hlocks dX4_isNoSign_19 ⟨true, ⟨fun _ ⟨i, h1, h2⟩ => absurd ((rngI (n := 23) (by decide)).mpr ⟨i, by omega, h2⟩) (of_decide_eq_false c_4), fun _ => rfl⟩, rfl⟩

abbrev rmX4_isNoKnown : Room := { frames := 1, cells := 0, slots := 0, locals := 22 }
theorem mX4_isNoKnown {l : Launch} {G : Cx} {A : Nat → Prop} {x : Int32} : Met l yX4_isNoKnown (.code yX4_isNoKnown cX4_isNoKnown 1 (some .boolean) :: GW) rmX4_isNoKnown (PC G A [.int x] (fun _ => True)) (vp_Si (fun r => ∃ v : Bool, (v = true ↔ NK x) ∧ r = bI v)) 0 0 (fun _ => False) := by
  refine mstart "SigntextModel" (by decide +kernel) rfl (Nat.le_of_ble_eq_true rfl) ?_
  intro p e s m below meth c ls hx hb hr hts hown hml hlocks hname hC hA hW hl
  have hl : lv_has ls 1 [(0, .int x)] := hl
  have hK := hC.1
  have hS : va_S A s.heap s.heap [] := va_S.rf
  obtain ⟨z1, z2, z3, z4, z5, z6, z7, z8, z9, z10, z11, z12, z13⟩ := hC.2.2.1
  refine lv_iload_n hx hb dX4_isNoKnown_0 rfl (lv_at hl 0 rfl) ?_
  refine lv_iconst (v := nI 0) hx hb dX4_isNoKnown_1 (by decide) ?_
  refine va_gets (v := .ref (G.2.2 2)) hx hb z5 hS hown (hts _ tw_5_56) (fun _ h9 => h9) dX4_isNoKnown_2 ?_
  refine va_tlen (v := nI 7) hx hb z6 hS rfl dX4_isNoKnown_5 ?_
  refine lv_iconst (v := nI 1) hx hb dX4_isNoKnown_6 (by decide) ?_
  refine lv_isub hx hb dX4_isNoKnown_7 ?_
  refine lv_cv (pk_sub (a := 7) (b := 1) (by omega)) ?_
  refine kS_i (A := A) (As := [.int x, .int (nI 0), .int (nI (7 - 1))]) (rest := []) ⟨hx, hb, hml, hown, hts⟩ (mX4_isIn (A := A) ) (va_cwS 3 hts (gS tw_4_197 tw_4_198 tw_1_8 tw_4_199) rfl rfl rfl (by decide +kernel) ⟨Nat.le_of_ble_eq_true rfl, Nat.le_of_ble_eq_true rfl⟩) hC hS hA  trivial rfl rfl hl.1 (Nat.le_of_ble_eq_true rfl) ⟨Nat.zero_le _, Nat.zero_le _⟩ dX4_isNoKnown_8 (fun r9 h9 => lv_cv h9 ?_)
  refine f_ne (tgt := 18) hx hb dX4_isNoKnown_11 (by decide) (fun c_5 => ?_) (fun c_5 => ?_)
  · refine lv_iconst (v := nI 0) hx hb dX4_isNoKnown_18 (by decide) ?_
    exact p_z (b := false) hx hb hr hlocks dX4_isNoKnown_19 ⟨false, ⟨fun q => Bool.noConfusion q, fun q => absurd ((rngI (n := 6) (by decide)).mp (of_decide_eq_true c_5)) (fun ⟨i, h1, h2⟩ => q ⟨i, by omega, h2⟩)⟩, rfl⟩
  · refine lv_iconst (v := nI 1) hx hb dX4_isNoKnown_14 (by decide) ?_
    refine lv_goto (tgt := 19) hx hb dX4_isNoKnown_15 (by decide) ?_
    exact p_z (b := true) hx hb hr hlocks dX4_isNoKnown_19 ⟨true, ⟨fun _ ⟨i, h1, h2⟩ => absurd ((rngI (n := 6) (by decide)).mpr ⟨i, by omega, h2⟩) (of_decide_eq_false c_5), fun _ => rfl⟩, rfl⟩

abbrev rmX4_one : Room := { frames := 0, cells := 0, slots := 0, locals := 0 }
theorem mX4_one {l : Launch} {G : Cx} {A : Nat → Prop} {b : Bool} : Met l yX4_one (.code yX4_one cX4_one 1 (some .int) :: GW) rmX4_one (PC G A [.int (bI b)] (fun _ => True)) (vp_Si (fun r => r = bI b)) 0 0 (fun _ => False) := by
  refine mstart "SigntextModel" (by decide +kernel) rfl (Nat.le_of_ble_eq_true rfl) ?_
  intro p e s m below meth c ls hx hb hr hts hown hml hlocks hname hC hA hW hl
  have hl : lv_has ls 1 [(0, .int (bI b))] := hl
  have hK := hC.1
  have hS : va_S A s.heap s.heap [] := va_S.rf
  refine lv_iload_n hx hb dX4_one_0 rfl (lv_at hl 0 rfl) ?_
  refine f_eq (tgt := 8) hx hb dX4_one_1 (by decide) (fun c_6 => ?_) (fun c_6 => ?_)
  · refine lv_iconst (v := nI 0) hx hb dX4_one_8 (by decide) ?_
    subst c_6
    exact p_i hx hb hr hlocks dX4_one_9 rfl
  · refine lv_iconst (v := nI 1) hx hb dX4_one_4 (by decide) ?_
    refine lv_goto (tgt := 9) hx hb dX4_one_5 (by decide) ?_
    subst c_6
    exact p_i hx hb hr hlocks dX4_one_9 rfl

abbrev rmX4_isWhite : Room := { frames := 0, cells := 0, slots := 0, locals := 0 }
theorem mX4_isWhite {l : Launch} {G : Cx} {A : Nat → Prop} {k0 : Nat} (hk0 : k0 < 2 ^ 31) : Met l yX4_isWhite (.code yX4_isWhite cX4_isWhite 1 (some .boolean) :: GW) rmX4_isWhite (PC G A [.int (nI k0)] (fun _ => True)) (vp_Si (fun r => r = bI (goesN true k0))) 0 0 (fun _ => False) := by
  refine mstart "SigntextModel" (by decide +kernel) rfl (Nat.le_of_ble_eq_true rfl) ?_
  intro p e s m below meth c ls hx hb hr hts hown hml hlocks hname hC hA hW hl
  have hl : lv_has ls 1 [(0, .int (nI k0))] := hl
  have hK := hC.1
  have hS : va_S A s.heap s.heap [] := va_S.rf
  refine lv_iload_n hx hb dX4_isWhite_0 rfl (lv_at hl 0 rfl) ?_
  refine lv_bipush (v := nI 32) hx hb dX4_isWhite_1 (by decide) ?_
  refine b_eq (tgt := 24) hx hb dX4_isWhite_3 (by decide) (by omega) (by omega) (fun c_7 => ?_) (fun c_7 => ?_)
  · refine lv_iconst (v := nI 1) hx hb dX4_isWhite_24 (by decide) ?_
    refine lv_goto (tgt := 29) hx hb dX4_isWhite_25 (by decide) ?_
    exact p_z (b := true) hx hb hr hlocks dX4_isWhite_29 (by subst c_7; rfl)
  · refine lv_iload_n hx hb dX4_isWhite_6 rfl (lv_at hl 0 rfl) ?_
    refine lv_bipush (v := nI 9) hx hb dX4_isWhite_7 (by decide) ?_
    refine b_eq (tgt := 24) hx hb dX4_isWhite_9 (by decide) (by omega) (by omega) (fun c_8 => ?_) (fun c_8 => ?_)
    · refine lv_iconst (v := nI 1) hx hb dX4_isWhite_24 (by decide) ?_
      refine lv_goto (tgt := 29) hx hb dX4_isWhite_25 (by decide) ?_
      exact p_z (b := true) hx hb hr hlocks dX4_isWhite_29 (by subst c_8; rfl)
    · refine lv_iload_n hx hb dX4_isWhite_12 rfl (lv_at hl 0 rfl) ?_
      refine lv_bipush (v := nI 10) hx hb dX4_isWhite_13 (by decide) ?_
      refine b_eq (tgt := 24) hx hb dX4_isWhite_15 (by decide) (by omega) (by omega) (fun c_9 => ?_) (fun c_9 => ?_)
      · refine lv_iconst (v := nI 1) hx hb dX4_isWhite_24 (by decide) ?_
        refine lv_goto (tgt := 29) hx hb dX4_isWhite_25 (by decide) ?_
        exact p_z (b := true) hx hb hr hlocks dX4_isWhite_29 (by subst c_9; rfl)
      · refine lv_iload_n hx hb dX4_isWhite_18 rfl (lv_at hl 0 rfl) ?_
        refine lv_bipush (v := nI 28) hx hb dX4_isWhite_19 (by decide) ?_
        refine b_ne (tgt := 28) hx hb dX4_isWhite_21 (by decide) (by omega) (by omega) (fun c_10 => ?_) (fun c_10 => ?_)
        · refine lv_iconst (v := nI 0) hx hb dX4_isWhite_28 (by decide) ?_
          exact p_z (b := false) hx hb hr hlocks dX4_isWhite_29 (by have q : goesN true k0 = false := (by simp [goesN]; omega); rw [q])
        · refine lv_iconst (v := nI 1) hx hb dX4_isWhite_24 (by decide) ?_
          refine lv_goto (tgt := 29) hx hb dX4_isWhite_25 (by decide) ?_
          exact p_z (b := true) hx hb hr hlocks dX4_isWhite_29 (by subst c_10; rfl)

abbrev rmX4_goes : Room := { frames := 1, cells := 0, slots := 0, locals := 20 }
theorem mX4_goes {l : Launch} {G : Cx} {A : Nat → Prop} {k0 : Nat} {b : Bool} (hk0 : k0 < 2 ^ 31) : Met l yX4_goes (.code yX4_goes cX4_goes 2 (some .boolean) :: GW) rmX4_goes (PC G A [.int (nI k0), .int (bI b)] (fun _ => True)) (vp_Si (fun r => r = bI (goesN b k0))) 0 0 (fun _ => False) := by
  refine mstart "SigntextModel" (by decide +kernel) rfl (Nat.le_of_ble_eq_true rfl) ?_
  intro p e s m below meth c ls hx hb hr hts hown hml hlocks hname hC hA hW hl
  have hl : lv_has ls 2 [(0, .int (nI k0)), (1, .int (bI b))] := hl
  have hK := hC.1
  have hS : va_S A s.heap s.heap [] := va_S.rf
  refine lv_iload_n hx hb dX4_goes_0 rfl (lv_at hl 1 rfl) ?_
  refine f_eq (tgt := 11) hx hb dX4_goes_1 (by decide) (fun c_11 => ?_) (fun c_11 => ?_)
  · subst c_11
    refine lv_iload_n hx hb dX4_goes_11 rfl (lv_at hl 0 rfl) ?_
    refine lv_bipush (v := nI 32) hx hb dX4_goes_12 (by decide) ?_
    refine b_gt (tgt := 21) hx hb dX4_goes_14 (by decide) (by omega) (by omega) (fun c_12 => ?_) (fun c_12 => ?_)
    · refine lv_iconst (v := nI 0) hx hb dX4_goes_21 (by decide) ?_
      exact p_z (b := false) hx hb hr hlocks dX4_goes_22 (by have q : goesN false k0 = false := (by simp [goesN]; omega); rw [q])
    · refine lv_iconst (v := nI 1) hx hb dX4_goes_17 (by decide) ?_
      refine lv_goto (tgt := 22) hx hb dX4_goes_18 (by decide) ?_
      exact p_z (b := true) hx hb hr hlocks dX4_goes_22 (by have q : goesN false k0 = true := (by simp [goesN]; omega); rw [q])
  · subst c_11
    refine lv_iload_n hx hb dX4_goes_4 rfl (lv_at hl 0 rfl) ?_
    refine kS_i (A := A) (As := [.int (nI k0)]) (rest := []) ⟨hx, hb, hml, hown, hts⟩ (mX4_isWhite (A := A) hk0) (va_cwS 1 hts (gS tw_5_15 tw_5_16 tw_1_8 tw_5_17) rfl rfl rfl (by decide +kernel) ⟨Nat.le_of_ble_eq_true rfl, Nat.le_of_ble_eq_true rfl⟩) hC hS hA  trivial rfl rfl hl.1 (Nat.le_of_ble_eq_true rfl) ⟨Nat.zero_le _, Nat.zero_le _⟩ dX4_goes_5 (fun r9 h9 => lv_cv h9 ?_)
    refine lv_goto (tgt := 22) hx hb dX4_goes_8 (by decide) ?_
    exact p_z (b := goesN true k0) hx hb hr hlocks dX4_goes_22 rfl

abbrev rmX4_cut : Room := { frames := 1, cells := 1, slots := 61, locals := 20 }
theorem mX4_cut {l : Launch} {G : Cx} {A : Nat → Prop} {a sz i i2 : Nat} {t : List Nat} (hi : i ≤ i2) (hi2 : i2 ≤ t.length) (t61 : t.length ≤ 61) : Met l yX4_cut (.code yX4_cut cX4_cut 5 (some (.array .int)) :: GW) rmX4_cut (PC G A [.ref a, .int (nI i), .int (nI i2)] (fun H => H.size = sz ∧ IA G a t H)) (qR A (fun r H => sz ≤ r ∧ IA0 G r (cutL t i i2) H)) 1 61 (A) := by
  refine mstart "SigntextModel" (by decide +kernel) rfl (Nat.le_of_ble_eq_true rfl) ?_
  intro p e s m below meth c ls hx hb hr hts hown hml hlocks hname hC hA hW hl
  have hl : lv_has ls 5 [(0, .ref a), (1, .int (nI i)), (2, .int (nI i2))] := hl
  have hK := hC.1
  have hS : va_S A s.heap s.heap [] := va_S.rf
  obtain ⟨hsz, hI⟩ := hW
  refine lv_iload_n hx hb dX4_cut_0 rfl (lv_at hl 2 rfl) ?_
  refine lv_iload_n hx hb dX4_cut_1 rfl (lv_at hl 1 rfl) ?_
  refine lv_isub hx hb dX4_cut_2 ?_
  refine lv_cv (pk_sub (a := i2) (b := i) (by omega)) ?_
  refine h_newa (D := G.1) (atype := .int) (N := i2 - i) (z := (i2 - i, .inl (fun _ => 0))) hx hb (hts _ tw_1_70) rfl (fun h => h) hK 0 rfl hS rfl (nI_pos (by omega)) (nI_clamp (by omega)) (show (i2 - i) * _ ≤ _ from by show (i2 - i) * 4 ≤ 536870912; omega) (Nat.le_trans (show 0 + 1 ≤ 1 by omega) (Nat.le_of_ble_eq_true rfl)) (Nat.le_trans (show 0 + (i2 - i) ≤ 61 by omega) (Nat.le_of_ble_eq_true rfl)) dX4_cut_3 (fun na H13 hna hFna z13 o13 hS => ?_)
  have n13hI : a ≠ na := fun q => absurd hI.lt (by rw [q, hna]; exact Nat.lt_irrefl _)
  have hI := IA.n hI o13
  have hZ13 := hS.1
  have hMna : A na := hA na (by omega)
  refine lv_astore_n (lv' := [(3, .ref na), (0, .ref a), (1, .int (nI i)), (2, .int (nI i2))]) hx hb dX4_cut_5 rfl hl (by decide) rfl (fun ls hl => ?_)
  refine lv_iload_n hx hb dX4_cut_6 rfl (lv_at hl 2 rfl) ?_
  refine lv_istore (lv' := [(4, .int (nI i)), (3, .ref na), (0, .ref a), (1, .int (nI i)), (2, .int (nI i2))]) hx hb dX4_cut_7 hl (by decide) rfl (fun ls hl => ?_)
  have naz : sz ≤ na := by omega
  have nea := n13hI
  refine nloop (P := fun j => ∀ (ls : Array Slot) (H : Heap) (L : List Loc) (g : Nat → Int32), lv_has ls 5 [(4, .int (nI j)), (3, .ref na), (0, .ref a), (1, .int (nI i)), (2, .int (nI i2))] → va_S A s.heap H L → IA G a t H → va_at G.1 vwCl (na, .inl (G.2.1 0, i2 - i, .inl g)) H → i ≤ j → (∀ k : Nat, k < j - i → g k = nI (t.getD (i + k) 0)) → W p l e rmX4_cut s m [.ref a, .int (nI i), .int (nI i2)].toArray below meth c H L (0 + 1) (0 + (i2 - i)) (MQ below (qR A (fun r H => sz ≤ r ∧ IA0 G r (cutL t i i2) H)) [.ref a, .int (nI i), .int (nI i2)].toArray s 1 61 (A)) (F0 m 9 ls [])) i2 ?_ i hi ls H13 [] (fun _ => 0) hl hS hI hFna (Nat.le_refl _) (fun k hk => absurd hk (by omega))
  clear hl
  intro j hj ih ls H L g hl
  clear hS hI hFna
  intro hS hI hFna hij hg
  refine lv_iload hx hb dX4_cut_9 (lv_at hl 0 rfl) ?_
  refine lv_iload_n hx hb dX4_cut_11 rfl (lv_at hl 4 rfl) ?_
  refine b_ge (tgt := 31) hx hb dX4_cut_12 (by decide) (by omega) (by omega) (fun c_14 => ?_) (fun c_14 => ?_)
  · refine lv_aload_n hx hb dX4_cut_31 rfl (lv_at hl 1 rfl) ?_
    obtain rfl : j = i2 := by omega
    exact q_a hx hb hr (Or.inr ⟨_, rfl⟩) hlocks dX4_cut_32 hS (by omega) (by omega) ⟨naz, IA0.mk hFna (cutL_len hi2).symm (fun k hk => by rw [cutL_getD hk]; exact hg k hk)⟩
  · refine lv_aload_n hx hb dX4_cut_15 rfl (lv_at hl 1 rfl) ?_
    refine lv_iload hx hb dX4_cut_16 (lv_at hl 0 rfl) ?_
    refine lv_iload_n hx hb dX4_cut_18 rfl (lv_at hl 3 rfl) ?_
    refine lv_isub hx hb dX4_cut_19 ?_
    refine lv_cv (pk_sub (a := j) (b := i) (by omega)) ?_
    refine lv_aload_n hx hb dX4_cut_20 rfl (lv_at hl 2 rfl) ?_
    refine lv_iload hx hb dX4_cut_21 (lv_at hl 0 rfl) ?_
    refine h_ild hx hb hC.2.1 hI (i := j) (by omega) (by omega) dX4_cut_23 ?_
    refine h_ist (D := G.1) hx hb hK 0 hFna rfl hS hMna (vp_in_nI (n := j - i) (N := i2 - i) (by omega) (by omega)) dX4_cut_24 (fun H15 L15 hFna z15 o15 hS => ?_)
    rw [nI_clamp (n := j - i) (by omega)] at hFna
    have hI := IA.o hI o15 nea
    have hZ15 := hS.1
    refine lv_iinc (v := nI (j + 1)) (lv' := [(4, .int (nI (j + 1))), (3, .ref na), (0, .ref a), (1, .int (nI i)), (2, .int (nI i2))]) hx hb dX4_cut_25 hl (k := 0) rfl (nI_add j 1) (by decide) rfl (fun ls hl => ?_)
    refine lv_goto (tgt := 9) hx hb dX4_cut_28 (by decide) ?_
    exact ih (j + 1) (by omega) (by omega) ls H15 L15 _ (lv_sub hl [0, 1, 2, 3, 4] rfl) hS hI hFna (by omega) (fun k hk => by by_cases q : k = j - i; rw [q, pk_us, show i + (j - i) = j by omega]; rw [pk_un q]; exact hg k (by omega))

abbrev rmX4_joined : Room := { frames := 1, cells := 1, slots := 61, locals := 20 }
theorem mX4_joined {l : Launch} {G : Cx} {A : Nat → Prop} {a b sz : Nat} {t u : List Nat} (h61 : t.length + u.length ≤ 61) : Met l yX4_joined (.code yX4_joined cX4_joined 4 (some (.array .int)) :: GW) rmX4_joined (PC G A [.ref a, .ref b] (fun H => H.size = sz ∧ IA G a t H ∧ IA G b u H)) (qR A (fun r H => sz ≤ r ∧ IA0 G r (t ++ u) H)) 1 61 (A) := by
  refine mstart "SigntextModel" (by decide +kernel) rfl (Nat.le_of_ble_eq_true rfl) ?_
  intro p e s m below meth c ls hx hb hr hts hown hml hlocks hname hC hA hW hl
  have hl : lv_has ls 4 [(0, .ref a), (1, .ref b)] := hl
  have hK := hC.1
  have hS : va_S A s.heap s.heap [] := va_S.rf
  obtain ⟨hsz, hI, hJ⟩ := hW
  have haz := hI.lt
  have hbz := hJ.lt
  refine lv_aload_n hx hb dX4_joined_0 rfl (lv_at hl 0 rfl) ?_
  refine h_ilen hx hb hC.2.1 hI dX4_joined_1 ?_
  refine lv_aload_n hx hb dX4_joined_2 rfl (lv_at hl 1 rfl) ?_
  refine h_ilen hx hb hC.2.1 hJ dX4_joined_3 ?_
  refine lv_iadd hx hb dX4_joined_4 ?_
  refine lv_cv (nI_add t.length u.length) ?_
  refine h_newa (D := G.1) (atype := .int) (N := t.length + u.length) (z := (t.length + u.length, .inl (fun _ => 0))) hx hb (hts _ tw_1_70) rfl (fun h => h) hK 0 rfl hS rfl (nI_pos (by omega)) (nI_clamp (by omega)) (show (t.length + u.length) * _ ≤ _ from by show (t.length + u.length) * 4 ≤ 536870912; omega) (Nat.le_trans (show 0 + 1 ≤ 1 by omega) (Nat.le_of_ble_eq_true rfl)) (Nat.le_trans (show 0 + (t.length + u.length) ≤ 61 by omega) (Nat.le_of_ble_eq_true rfl)) dX4_joined_5 (fun na H16 hna hFna z16 o16 hS => ?_)
  have n16hI : a ≠ na := fun q => absurd hI.lt (by rw [q, hna]; exact Nat.lt_irrefl _)
  have n16hJ : b ≠ na := fun q => absurd hJ.lt (by rw [q, hna]; exact Nat.lt_irrefl _)
  have hI := IA.n hI o16
  have hJ := IA.n hJ o16
  have hZ16 := hS.1
  have hMna : A na := hA na (by omega)
  refine lv_astore_n (lv' := [(2, .ref na), (0, .ref a), (1, .ref b)]) hx hb dX4_joined_7 rfl hl (by decide) rfl (fun ls hl => ?_)
  refine lv_iconst (v := nI 0) hx hb dX4_joined_8 (by decide) ?_
  refine lv_istore_n (lv' := [(3, .int (nI 0)), (2, .ref na), (0, .ref a), (1, .ref b)]) hx hb dX4_joined_9 rfl hl (by decide) rfl (fun ls hl => ?_)
  have naz : sz ≤ na := by omega
  have nea : a ≠ na := by omega
  have neb : b ≠ na := by omega
  refine nloop (P := fun j => ∀ (ls : Array Slot) (H : Heap) (L : List Loc) (g : Nat → Int32), lv_has ls 4 [(3, .int (nI j)), (2, .ref na), (0, .ref a), (1, .ref b)] → va_S A s.heap H L → IA G a t H → IA G b u H → va_at G.1 vwCl (na, .inl (G.2.1 0, t.length + u.length, .inl g)) H → (∀ k : Nat, k < j → g k = nI (t.getD k 0)) → W p l e rmX4_joined s m [.ref a, .ref b].toArray below meth c H L (0 + 1) (0 + (t.length + u.length)) (MQ below (qR A (fun r H => sz ≤ r ∧ IA0 G r (t ++ u) H)) [.ref a, .ref b].toArray s 1 61 (A)) (F0 m 10 ls [])) t.length ?_ 0 (Nat.zero_le _) ls H16 [] (fun _ => 0) hl hS hI hJ hFna (fun k hk => absurd hk (by omega))
  clear hl
  intro j hj ih ls H L g hl
  clear hS hI hJ hFna
  intro hS hI hJ hFna hg
  refine lv_iload_n hx hb dX4_joined_10 rfl (lv_at hl 0 rfl) ?_
  refine lv_aload_n hx hb dX4_joined_11 rfl (lv_at hl 2 rfl) ?_
  refine h_ilen hx hb hC.2.1 hI dX4_joined_12 ?_
  refine b_ge (tgt := 28) hx hb dX4_joined_13 (by decide) (by omega) (by omega) (fun c_17 => ?_) (fun c_17 => ?_)
  · obtain rfl : j = t.length := by omega
    clear ih
    refine lv_iconst (v := nI 0) hx hb dX4_joined_28 (by decide) ?_
    refine lv_istore_n (lv' := [(3, .int (nI 0)), (2, .ref na), (0, .ref a), (1, .ref b)]) hx hb dX4_joined_29 rfl hl (by decide) rfl (fun ls hl => ?_)
    refine nloop (P := fun j => ∀ (ls : Array Slot) (H : Heap) (L : List Loc) (g : Nat → Int32), lv_has ls 4 [(3, .int (nI j)), (2, .ref na), (0, .ref a), (1, .ref b)] → va_S A s.heap H L → IA G a t H → IA G b u H → va_at G.1 vwCl (na, .inl (G.2.1 0, t.length + u.length, .inl g)) H → (∀ k : Nat, k < t.length + j → g k = nI ((t ++ u).getD k 0)) → W p l e rmX4_joined s m [.ref a, .ref b].toArray below meth c H L (0 + 1) (0 + (t.length + u.length)) (MQ below (qR A (fun r H => sz ≤ r ∧ IA0 G r (t ++ u) H)) [.ref a, .ref b].toArray s 1 61 (A)) (F0 m 30 ls [])) u.length ?_ 0 (Nat.zero_le _) ls H L g hl hS hI hJ hFna (fun k hk => by rw [getD_app1 (by omega)]; exact hg k (by omega))
    clear hl
    intro j hj ih ls H L g hl
    clear hS hI hJ hFna hg
    intro hS hI hJ hFna hg
    refine lv_iload_n hx hb dX4_joined_30 rfl (lv_at hl 0 rfl) ?_
    refine lv_aload_n hx hb dX4_joined_31 rfl (lv_at hl 3 rfl) ?_
    refine h_ilen hx hb hC.2.1 hJ dX4_joined_32 ?_
    refine b_ge (tgt := 51) hx hb dX4_joined_33 (by decide) (by omega) (by omega) (fun c_18 => ?_) (fun c_18 => ?_)
    · refine lv_aload_n hx hb dX4_joined_51 rfl (lv_at hl 1 rfl) ?_
      exact q_a hx hb hr (Or.inr ⟨_, rfl⟩) hlocks dX4_joined_52 hS (by omega) (by omega) ⟨naz, IA0.mk hFna (by rw [List.length_append]) (fun k hk => hg k (by omega))⟩
    · refine lv_aload_n hx hb dX4_joined_36 rfl (lv_at hl 1 rfl) ?_
      refine lv_aload_n hx hb dX4_joined_37 rfl (lv_at hl 2 rfl) ?_
      refine h_ilen hx hb hC.2.1 hI dX4_joined_38 ?_
      refine lv_iload_n hx hb dX4_joined_39 rfl (lv_at hl 0 rfl) ?_
      refine lv_iadd hx hb dX4_joined_40 ?_
      refine lv_cv (nI_add t.length j) ?_
      refine lv_aload_n hx hb dX4_joined_41 rfl (lv_at hl 3 rfl) ?_
      refine lv_iload_n hx hb dX4_joined_42 rfl (lv_at hl 0 rfl) ?_
      refine h_ild hx hb hC.2.1 hJ (i := j) (by omega) (by omega) dX4_joined_43 ?_
      refine h_ist (D := G.1) hx hb hK 0 hFna rfl hS hMna (vp_in_nI (n := t.length + j) (N := t.length + u.length) (by omega) (by omega)) dX4_joined_44 (fun H19 L19 hFna z19 o19 hS => ?_)
      rw [nI_clamp (n := t.length + j) (by omega)] at hFna
      have hI := IA.o hI o19 nea
      have hJ := IA.o hJ o19 neb
      have hZ19 := hS.1
      refine lv_iinc (v := nI (j + 1)) (lv' := [(3, .int (nI (j + 1))), (2, .ref na), (0, .ref a), (1, .ref b)]) hx hb dX4_joined_45 hl (k := 0) rfl (nI_add j 1) (by decide) rfl (fun ls hl => ?_)
      refine lv_goto (tgt := 30) hx hb dX4_joined_48 (by decide) ?_
      exact ih (j + 1) (by omega) (by omega) ls H19 L19 _ (lv_sub hl [0, 1, 2, 3] rfl) hS hI hJ hFna (fun k hk => by by_cases q : k = t.length + j; rw [q, pk_us, getD_app2]; rw [pk_un q]; exact hg k (by omega))
  · refine lv_aload_n hx hb dX4_joined_16 rfl (lv_at hl 1 rfl) ?_
    refine lv_iload_n hx hb dX4_joined_17 rfl (lv_at hl 0 rfl) ?_
    refine lv_aload_n hx hb dX4_joined_18 rfl (lv_at hl 2 rfl) ?_
    refine lv_iload_n hx hb dX4_joined_19 rfl (lv_at hl 0 rfl) ?_
    refine h_ild hx hb hC.2.1 hI (i := j) (by omega) (by omega) dX4_joined_20 ?_
    refine h_ist (D := G.1) hx hb hK 0 hFna rfl hS hMna (vp_in_nI (n := j) (N := t.length + u.length) (by omega) (by omega)) dX4_joined_21 (fun H20 L20 hFna z20 o20 hS => ?_)
    rw [nI_clamp (n := j) (by omega)] at hFna
    have hI := IA.o hI o20 nea
    have hJ := IA.o hJ o20 neb
    have hZ20 := hS.1
    refine lv_iinc (v := nI (j + 1)) (lv' := [(3, .int (nI (j + 1))), (2, .ref na), (0, .ref a), (1, .ref b)]) hx hb dX4_joined_22 hl (k := 0) rfl (nI_add j 1) (by decide) rfl (fun ls hl => ?_)
    refine lv_goto (tgt := 10) hx hb dX4_joined_25 (by decide) ?_
    exact ih (j + 1) (by omega) (by omega) ls H20 L20 _ (lv_sub hl [0, 1, 2, 3] rfl) hS hI hJ hFna (fun k hk => by by_cases q : k = j; rw [q, pk_us]; rw [pk_un q]; exact hg k (by omega))
end
/-! 34.mod2 -/
section
/-! The model, 2: readers -/
theorem lN_int {a : Nat} (h : a < 2 ^ 62) : (lN a).toInt = (a : Int) := Int64.toInt_ofNat_of_lt (by omega)
theorem cmpL {a b : Nat} (ha : a < 2 ^ 62) (hb : b < 2 ^ 62) : lg_cmp (lN a) (lN b) ≤ 0 ↔ a ≤ b := by
  have e1 : lN a > lN b ↔ b < a := by rw [gt_iff_lt, Int64.lt_iff_toInt_lt, lN_int ha, lN_int hb]; omega
  have e3 : lN a = lN b ↔ a = b := by rw [← Int64.toInt_inj, lN_int ha, lN_int hb]; omega
  unfold lg_cmp
  by_cases h : lN a > lN b
  · rw [if_pos h]; rw [e1] at h; exact ⟨fun q => absurd q (by decide), fun q => absurd h (by omega)⟩
  · rw [if_neg h]
    rw [e1] at h
    by_cases h2 : lN a = lN b
    · rw [if_pos h2]; exact ⟨fun _ => by omega, fun _ => by decide⟩
    · rw [if_neg h2]; exact ⟨fun _ => by omega, fun _ => by decide⟩
theorem dX4_little_0 : decode cX4_little 0 = .ok (.iload_n 0, 1) := by decide +kernel
theorem dX4_little_1 : decode cX4_little 1 = .ok (.bipush 65, 2) := by decide +kernel
theorem dX4_little_3 : decode cX4_little 3 = .ok (.if_icmp .eq 28, 3) := by decide +kernel
theorem dX4_little_6 : decode cX4_little 6 = .ok (.iload_n 0, 1) := by decide +kernel
theorem dX4_little_7 : decode cX4_little 7 = .ok (.bipush 66, 2) := by decide +kernel
theorem dX4_little_9 : decode cX4_little 9 = .ok (.if_icmp .eq 22, 3) := by decide +kernel
theorem dX4_little_12 : decode cX4_little 12 = .ok (.iload_n 0, 1) := by decide +kernel
theorem dX4_little_13 : decode cX4_little 13 = .ok (.bipush 67, 2) := by decide +kernel
theorem dX4_little_15 : decode cX4_little 15 = .ok (.if_icmp .eq 16, 3) := by decide +kernel
theorem dX4_little_18 : decode cX4_little 18 = .ok (.iload_n 0, 1) := by decide +kernel
theorem dX4_little_19 : decode cX4_little 19 = .ok (.bipush 88, 2) := by decide +kernel
theorem dX4_little_21 : decode cX4_little 21 = .ok (.if_icmp .eq 10, 3) := by decide +kernel
theorem dX4_little_24 : decode cX4_little 24 = .ok (.iload_n 0, 1) := by decide +kernel
theorem dX4_little_25 : decode cX4_little 25 = .ok (.sipush 201, 3) := by decide +kernel
theorem dX4_little_28 : decode cX4_little 28 = .ok (.if_icmp .ne 10, 3) := by decide +kernel
theorem dX4_little_31 : decode cX4_little 31 = .ok (.iload_n 0, 1) := by decide +kernel
theorem dX4_little_32 : decode cX4_little 32 = .ok (.bipush 32, 2) := by decide +kernel
theorem dX4_little_34 : decode cX4_little 34 = .ok (.iadd, 1) := by decide +kernel
theorem dX4_little_35 : decode cX4_little 35 = .ok (.goto 4, 3) := by decide +kernel
theorem dX4_little_38 : decode cX4_little 38 = .ok (.iload_n 0, 1) := by decide +kernel
theorem dX4_little_39 : decode cX4_little 39 = .ok (.ireturn, 1) := by decide +kernel
theorem dX4_trimmed_0 : decode cX4_trimmed 0 = .ok (.iconst 0, 1) := by decide +kernel
theorem dX4_trimmed_1 : decode cX4_trimmed 1 = .ok (.istore_n 2, 1) := by decide +kernel
theorem dX4_trimmed_2 : decode cX4_trimmed 2 = .ok (.aload_n 0, 1) := by decide +kernel
theorem dX4_trimmed_3 : decode cX4_trimmed 3 = .ok (.arraylength, 1) := by decide +kernel
theorem dX4_trimmed_4 : decode cX4_trimmed 4 = .ok (.istore_n 3, 1) := by decide +kernel
theorem dX4_trimmed_5 : decode cX4_trimmed 5 = .ok (.iload_n 2, 1) := by decide +kernel
theorem dX4_trimmed_6 : decode cX4_trimmed 6 = .ok (.iload_n 3, 1) := by decide +kernel
theorem dX4_trimmed_7 : decode cX4_trimmed 7 = .ok (.if_icmp .ge 19, 3) := by decide +kernel
theorem dX4_trimmed_10 : decode cX4_trimmed 10 = .ok (.aload_n 0, 1) := by decide +kernel
theorem dX4_trimmed_11 : decode cX4_trimmed 11 = .ok (.iload_n 2, 1) := by decide +kernel
theorem dX4_trimmed_12 : decode cX4_trimmed 12 = .ok (.iaload, 1) := by decide +kernel
theorem dX4_trimmed_13 : decode cX4_trimmed 13 = .ok (.iload_n 1, 1) := by decide +kernel
theorem dX4_trimmed_14 : decode cX4_trimmed 14 = .ok (.invokestatic 27, 3) := by decide +kernel
theorem dX4_trimmed_17 : decode cX4_trimmed 17 = .ok (.ifCond .eq 9, 3) := by decide +kernel
theorem dX4_trimmed_20 : decode cX4_trimmed 20 = .ok (.iinc 2 1, 3) := by decide +kernel
theorem dX4_trimmed_23 : decode cX4_trimmed 23 = .ok (.goto (-18), 3) := by decide +kernel
theorem dX4_trimmed_26 : decode cX4_trimmed 26 = .ok (.iload_n 3, 1) := by decide +kernel
theorem dX4_trimmed_27 : decode cX4_trimmed 27 = .ok (.iload_n 2, 1) := by decide +kernel
theorem dX4_trimmed_28 : decode cX4_trimmed 28 = .ok (.if_icmp .le 21, 3) := by decide +kernel
theorem dX4_trimmed_31 : decode cX4_trimmed 31 = .ok (.aload_n 0, 1) := by decide +kernel
theorem dX4_trimmed_32 : decode cX4_trimmed 32 = .ok (.iload_n 3, 1) := by decide +kernel
theorem dX4_trimmed_33 : decode cX4_trimmed 33 = .ok (.iconst 1, 1) := by decide +kernel
theorem dX4_trimmed_34 : decode cX4_trimmed 34 = .ok (.isub, 1) := by decide +kernel
theorem dX4_trimmed_35 : decode cX4_trimmed 35 = .ok (.iaload, 1) := by decide +kernel
theorem dX4_trimmed_36 : decode cX4_trimmed 36 = .ok (.iload_n 1, 1) := by decide +kernel
theorem dX4_trimmed_37 : decode cX4_trimmed 37 = .ok (.invokestatic 27, 3) := by decide +kernel
theorem dX4_trimmed_40 : decode cX4_trimmed 40 = .ok (.ifCond .eq 9, 3) := by decide +kernel
theorem dX4_trimmed_43 : decode cX4_trimmed 43 = .ok (.iinc 3 (-1), 3) := by decide +kernel
theorem dX4_trimmed_46 : decode cX4_trimmed 46 = .ok (.goto (-20), 3) := by decide +kernel
theorem dX4_trimmed_49 : decode cX4_trimmed 49 = .ok (.aload_n 0, 1) := by decide +kernel
theorem dX4_trimmed_50 : decode cX4_trimmed 50 = .ok (.iload_n 2, 1) := by decide +kernel
theorem dX4_trimmed_51 : decode cX4_trimmed 51 = .ok (.iload_n 3, 1) := by decide +kernel
theorem dX4_trimmed_52 : decode cX4_trimmed 52 = .ok (.invokestatic 31, 3) := by decide +kernel
theorem dX4_trimmed_55 : decode cX4_trimmed 55 = .ok (.areturn, 1) := by decide +kernel
theorem dX4_stands_0 : decode cX4_stands 0 = .ok (.iload_n 1, 1) := by decide +kernel
theorem dX4_stands_1 : decode cX4_stands 1 = .ok (.ifCond .lt 16, 3) := by decide +kernel
theorem dX4_stands_4 : decode cX4_stands 4 = .ok (.iload_n 1, 1) := by decide +kernel
theorem dX4_stands_5 : decode cX4_stands 5 = .ok (.i2l, 1) := by decide +kernel
theorem dX4_stands_6 : decode cX4_stands 6 = .ok (.aload_n 2, 1) := by decide +kernel
theorem dX4_stands_7 : decode cX4_stands 7 = .ok (.arraylength, 1) := by decide +kernel
theorem dX4_stands_8 : decode cX4_stands 8 = .ok (.i2l, 1) := by decide +kernel
theorem dX4_stands_9 : decode cX4_stands 9 = .ok (.ladd, 1) := by decide +kernel
theorem dX4_stands_10 : decode cX4_stands 10 = .ok (.aload_n 0, 1) := by decide +kernel
theorem dX4_stands_11 : decode cX4_stands 11 = .ok (.arraylength, 1) := by decide +kernel
theorem dX4_stands_12 : decode cX4_stands 12 = .ok (.i2l, 1) := by decide +kernel
theorem dX4_stands_13 : decode cX4_stands 13 = .ok (.lcmp, 1) := by decide +kernel
theorem dX4_stands_14 : decode cX4_stands 14 = .ok (.ifCond .le 5, 3) := by decide +kernel
theorem dX4_stands_17 : decode cX4_stands 17 = .ok (.iconst 0, 1) := by decide +kernel
theorem dX4_stands_18 : decode cX4_stands 18 = .ok (.ireturn, 1) := by decide +kernel
theorem dX4_stands_19 : decode cX4_stands 19 = .ok (.iconst 0, 1) := by decide +kernel
theorem dX4_stands_20 : decode cX4_stands 20 = .ok (.istore 4, 2) := by decide +kernel
theorem dX4_stands_22 : decode cX4_stands 22 = .ok (.iload 4, 2) := by decide +kernel
theorem dX4_stands_24 : decode cX4_stands 24 = .ok (.aload_n 2, 1) := by decide +kernel
theorem dX4_stands_25 : decode cX4_stands 25 = .ok (.arraylength, 1) := by decide +kernel
theorem dX4_stands_26 : decode cX4_stands 26 = .ok (.if_icmp .ge 50, 3) := by decide +kernel
theorem dX4_stands_29 : decode cX4_stands 29 = .ok (.iload_n 3, 1) := by decide +kernel
theorem dX4_stands_30 : decode cX4_stands 30 = .ok (.ifCond .eq 25, 3) := by decide +kernel
theorem dX4_stands_33 : decode cX4_stands 33 = .ok (.aload_n 0, 1) := by decide +kernel
theorem dX4_stands_34 : decode cX4_stands 34 = .ok (.iload_n 1, 1) := by decide +kernel
theorem dX4_stands_35 : decode cX4_stands 35 = .ok (.iload 4, 2) := by decide +kernel
theorem dX4_stands_37 : decode cX4_stands 37 = .ok (.iadd, 1) := by decide +kernel
theorem dX4_stands_38 : decode cX4_stands 38 = .ok (.iaload, 1) := by decide +kernel
theorem dX4_stands_39 : decode cX4_stands 39 = .ok (.invokestatic 35, 3) := by decide +kernel
theorem dX4_stands_42 : decode cX4_stands 42 = .ok (.aload_n 2, 1) := by decide +kernel
theorem dX4_stands_43 : decode cX4_stands 43 = .ok (.iload 4, 2) := by decide +kernel
theorem dX4_stands_45 : decode cX4_stands 45 = .ok (.iaload, 1) := by decide +kernel
theorem dX4_stands_46 : decode cX4_stands 46 = .ok (.invokestatic 35, 3) := by decide +kernel
theorem dX4_stands_49 : decode cX4_stands 49 = .ok (.if_icmp .eq 21, 3) := by decide +kernel
theorem dX4_stands_52 : decode cX4_stands 52 = .ok (.goto 16, 3) := by decide +kernel
theorem dX4_stands_55 : decode cX4_stands 55 = .ok (.aload_n 0, 1) := by decide +kernel
theorem dX4_stands_56 : decode cX4_stands 56 = .ok (.iload_n 1, 1) := by decide +kernel
theorem dX4_stands_57 : decode cX4_stands 57 = .ok (.iload 4, 2) := by decide +kernel
theorem dX4_stands_59 : decode cX4_stands 59 = .ok (.iadd, 1) := by decide +kernel
theorem dX4_stands_60 : decode cX4_stands 60 = .ok (.iaload, 1) := by decide +kernel
theorem dX4_stands_61 : decode cX4_stands 61 = .ok (.aload_n 2, 1) := by decide +kernel
theorem dX4_stands_62 : decode cX4_stands 62 = .ok (.iload 4, 2) := by decide +kernel
theorem dX4_stands_64 : decode cX4_stands 64 = .ok (.iaload, 1) := by decide +kernel
theorem dX4_stands_65 : decode cX4_stands 65 = .ok (.if_icmp .eq 5, 3) := by decide +kernel
theorem dX4_stands_68 : decode cX4_stands 68 = .ok (.iconst 0, 1) := by decide +kernel
theorem dX4_stands_69 : decode cX4_stands 69 = .ok (.ireturn, 1) := by decide +kernel
theorem dX4_stands_70 : decode cX4_stands 70 = .ok (.iinc 4 1, 3) := by decide +kernel
theorem dX4_stands_73 : decode cX4_stands 73 = .ok (.goto (-51), 3) := by decide +kernel
theorem dX4_stands_76 : decode cX4_stands 76 = .ok (.iconst 1, 1) := by decide +kernel
theorem dX4_stands_77 : decode cX4_stands 77 = .ok (.ireturn, 1) := by decide +kernel
theorem dX4_first_0 : decode cX4_first 0 = .ok (.iconst 0, 1) := by decide +kernel
theorem dX4_first_1 : decode cX4_first 1 = .ok (.istore_n 2, 1) := by decide +kernel
theorem dX4_first_2 : decode cX4_first 2 = .ok (.iload_n 2, 1) := by decide +kernel
theorem dX4_first_3 : decode cX4_first 3 = .ok (.aload_n 0, 1) := by decide +kernel
theorem dX4_first_4 : decode cX4_first 4 = .ok (.arraylength, 1) := by decide +kernel
theorem dX4_first_5 : decode cX4_first 5 = .ok (.if_icmp .gt 21, 3) := by decide +kernel
theorem dX4_first_8 : decode cX4_first 8 = .ok (.aload_n 0, 1) := by decide +kernel
theorem dX4_first_9 : decode cX4_first 9 = .ok (.iload_n 2, 1) := by decide +kernel
theorem dX4_first_10 : decode cX4_first 10 = .ok (.aload_n 1, 1) := by decide +kernel
theorem dX4_first_11 : decode cX4_first 11 = .ok (.iconst 0, 1) := by decide +kernel
theorem dX4_first_12 : decode cX4_first 12 = .ok (.invokestatic 39, 3) := by decide +kernel
theorem dX4_first_15 : decode cX4_first 15 = .ok (.ifCond .eq 5, 3) := by decide +kernel
theorem dX4_first_18 : decode cX4_first 18 = .ok (.iload_n 2, 1) := by decide +kernel
theorem dX4_first_19 : decode cX4_first 19 = .ok (.ireturn, 1) := by decide +kernel
theorem dX4_first_20 : decode cX4_first 20 = .ok (.iinc 2 1, 3) := by decide +kernel
theorem dX4_first_23 : decode cX4_first 23 = .ok (.goto (-21), 3) := by decide +kernel
theorem dX4_first_26 : decode cX4_first 26 = .ok (.iconst (-1), 1) := by decide +kernel
theorem dX4_first_27 : decode cX4_first 27 = .ok (.ireturn, 1) := by decide +kernel
theorem dX4_last_0 : decode cX4_last 0 = .ok (.aload_n 0, 1) := by decide +kernel
theorem dX4_last_1 : decode cX4_last 1 = .ok (.arraylength, 1) := by decide +kernel
theorem dX4_last_2 : decode cX4_last 2 = .ok (.istore_n 2, 1) := by decide +kernel
theorem dX4_last_3 : decode cX4_last 3 = .ok (.iload_n 2, 1) := by decide +kernel
theorem dX4_last_4 : decode cX4_last 4 = .ok (.ifCond .lt 21, 3) := by decide +kernel
theorem dX4_last_7 : decode cX4_last 7 = .ok (.aload_n 0, 1) := by decide +kernel
theorem dX4_last_8 : decode cX4_last 8 = .ok (.iload_n 2, 1) := by decide +kernel
theorem dX4_last_9 : decode cX4_last 9 = .ok (.aload_n 1, 1) := by decide +kernel
theorem dX4_last_10 : decode cX4_last 10 = .ok (.iconst 0, 1) := by decide +kernel
theorem dX4_last_11 : decode cX4_last 11 = .ok (.invokestatic 39, 3) := by decide +kernel
theorem dX4_last_14 : decode cX4_last 14 = .ok (.ifCond .eq 5, 3) := by decide +kernel
theorem dX4_last_17 : decode cX4_last 17 = .ok (.iload_n 2, 1) := by decide +kernel
theorem dX4_last_18 : decode cX4_last 18 = .ok (.ireturn, 1) := by decide +kernel
theorem dX4_last_19 : decode cX4_last 19 = .ok (.iinc 2 (-1), 3) := by decide +kernel
theorem dX4_last_22 : decode cX4_last 22 = .ok (.goto (-19), 3) := by decide +kernel
theorem dX4_last_25 : decode cX4_last 25 = .ok (.iconst (-1), 1) := by decide +kernel
theorem dX4_last_26 : decode cX4_last 26 = .ok (.ireturn, 1) := by decide +kernel
theorem dX4_isSame_0 : decode cX4_isSame 0 = .ok (.aload_n 0, 1) := by decide +kernel
theorem dX4_isSame_1 : decode cX4_isSame 1 = .ok (.arraylength, 1) := by decide +kernel
theorem dX4_isSame_2 : decode cX4_isSame 2 = .ok (.aload_n 1, 1) := by decide +kernel
theorem dX4_isSame_3 : decode cX4_isSame 3 = .ok (.arraylength, 1) := by decide +kernel
theorem dX4_isSame_4 : decode cX4_isSame 4 = .ok (.if_icmp .ne 17, 3) := by decide +kernel
theorem dX4_isSame_7 : decode cX4_isSame 7 = .ok (.aload_n 0, 1) := by decide +kernel
theorem dX4_isSame_8 : decode cX4_isSame 8 = .ok (.iconst 0, 1) := by decide +kernel
theorem dX4_isSame_9 : decode cX4_isSame 9 = .ok (.aload_n 1, 1) := by decide +kernel
theorem dX4_isSame_10 : decode cX4_isSame 10 = .ok (.iload_n 2, 1) := by decide +kernel
theorem dX4_isSame_11 : decode cX4_isSame 11 = .ok (.invokestatic 39, 3) := by decide +kernel
theorem dX4_isSame_14 : decode cX4_isSame 14 = .ok (.ifCond .eq 7, 3) := by decide +kernel
theorem dX4_isSame_17 : decode cX4_isSame 17 = .ok (.iconst 1, 1) := by decide +kernel
theorem dX4_isSame_18 : decode cX4_isSame 18 = .ok (.goto 4, 3) := by decide +kernel
theorem dX4_isSame_21 : decode cX4_isSame 21 = .ok (.iconst 0, 1) := by decide +kernel
theorem dX4_isSame_22 : decode cX4_isSame 22 = .ok (.ireturn, 1) := by decide +kernel
theorem dX4_hash_0 : decode cX4_hash 0 = .ok (.iconst 0, 1) := by decide +kernel
theorem dX4_hash_1 : decode cX4_hash 1 = .ok (.istore_n 1, 1) := by decide +kernel
theorem dX4_hash_2 : decode cX4_hash 2 = .ok (.aload_n 0, 1) := by decide +kernel
theorem dX4_hash_3 : decode cX4_hash 3 = .ok (.astore_n 2, 1) := by decide +kernel
theorem dX4_hash_4 : decode cX4_hash 4 = .ok (.aload_n 2, 1) := by decide +kernel
theorem dX4_hash_5 : decode cX4_hash 5 = .ok (.arraylength, 1) := by decide +kernel
theorem dX4_hash_6 : decode cX4_hash 6 = .ok (.istore_n 3, 1) := by decide +kernel
theorem dX4_hash_7 : decode cX4_hash 7 = .ok (.iconst 0, 1) := by decide +kernel
theorem dX4_hash_8 : decode cX4_hash 8 = .ok (.istore 4, 2) := by decide +kernel
theorem dX4_hash_10 : decode cX4_hash 10 = .ok (.iload 4, 2) := by decide +kernel
theorem dX4_hash_12 : decode cX4_hash 12 = .ok (.iload_n 3, 1) := by decide +kernel
theorem dX4_hash_13 : decode cX4_hash 13 = .ok (.if_icmp .ge 23, 3) := by decide +kernel
theorem dX4_hash_16 : decode cX4_hash 16 = .ok (.aload_n 2, 1) := by decide +kernel
theorem dX4_hash_17 : decode cX4_hash 17 = .ok (.iload 4, 2) := by decide +kernel
theorem dX4_hash_19 : decode cX4_hash 19 = .ok (.iaload, 1) := by decide +kernel
theorem dX4_hash_20 : decode cX4_hash 20 = .ok (.istore 5, 2) := by decide +kernel
theorem dX4_hash_22 : decode cX4_hash 22 = .ok (.iload_n 1, 1) := by decide +kernel
theorem dX4_hash_23 : decode cX4_hash 23 = .ok (.bipush 31, 2) := by decide +kernel
theorem dX4_hash_25 : decode cX4_hash 25 = .ok (.imul, 1) := by decide +kernel
theorem dX4_hash_26 : decode cX4_hash 26 = .ok (.iload 5, 2) := by decide +kernel
theorem dX4_hash_28 : decode cX4_hash 28 = .ok (.iadd, 1) := by decide +kernel
theorem dX4_hash_29 : decode cX4_hash 29 = .ok (.istore_n 1, 1) := by decide +kernel
theorem dX4_hash_30 : decode cX4_hash 30 = .ok (.iinc 4 1, 3) := by decide +kernel
theorem dX4_hash_33 : decode cX4_hash 33 = .ok (.goto (-23), 3) := by decide +kernel
theorem dX4_hash_36 : decode cX4_hash 36 = .ok (.iload_n 1, 1) := by decide +kernel
theorem dX4_hash_37 : decode cX4_hash 37 = .ok (.ireturn, 1) := by decide +kernel
abbrev rmX4_little : Room := { frames := 0, cells := 0, slots := 0, locals := 0 }
theorem mX4_little {l : Launch} {G : Cx} {A : Nat → Prop} {k0 : Nat} (hk0 : k0 < 256) : Met l yX4_little (.code yX4_little cX4_little 1 (some .int) :: GW) rmX4_little (PC G A [.int (nI k0)] (fun _ => True)) (vp_Si (fun r => r = nI (litN k0))) 0 0 (fun _ => False) := by
  refine mstart "SigntextModel" (by decide +kernel) rfl (Nat.le_of_ble_eq_true rfl) ?_
  intro p e s m below meth c ls hx hb hr hts hown hml hlocks hname hC hA hW hl
  have hl : lv_has ls 1 [(0, .int (nI k0))] := hl
  have hK := hC.1
  have hS : va_S A s.heap s.heap [] := va_S.rf
  refine lv_iload_n hx hb dX4_little_0 rfl (lv_at hl 0 rfl) ?_
  refine lv_bipush (v := nI 65) hx hb dX4_little_1 (by decide) ?_
  refine b_eq (tgt := 31) hx hb dX4_little_3 (by decide) (by omega) (by omega) (fun c_1 => ?_) (fun c_1 => ?_)
  · refine lv_iload_n hx hb dX4_little_31 rfl (lv_at hl 0 rfl) ?_
    refine lv_bipush (v := nI 32) hx hb dX4_little_32 (by decide) ?_
    refine lv_iadd hx hb dX4_little_34 ?_
    refine lv_cv (nI_add k0 32) ?_
    refine lv_goto (tgt := 39) hx hb dX4_little_35 (by decide) ?_
    exact p_i hx hb hr hlocks dX4_little_39 (by subst c_1; rfl)
  · refine lv_iload_n hx hb dX4_little_6 rfl (lv_at hl 0 rfl) ?_
    refine lv_bipush (v := nI 66) hx hb dX4_little_7 (by decide) ?_
    refine b_eq (tgt := 31) hx hb dX4_little_9 (by decide) (by omega) (by omega) (fun c_2 => ?_) (fun c_2 => ?_)
    · refine lv_iload_n hx hb dX4_little_31 rfl (lv_at hl 0 rfl) ?_
      refine lv_bipush (v := nI 32) hx hb dX4_little_32 (by decide) ?_
      refine lv_iadd hx hb dX4_little_34 ?_
      refine lv_cv (nI_add k0 32) ?_
      refine lv_goto (tgt := 39) hx hb dX4_little_35 (by decide) ?_
      exact p_i hx hb hr hlocks dX4_little_39 (by subst c_2; rfl)
    · refine lv_iload_n hx hb dX4_little_12 rfl (lv_at hl 0 rfl) ?_
      refine lv_bipush (v := nI 67) hx hb dX4_little_13 (by decide) ?_
      refine b_eq (tgt := 31) hx hb dX4_little_15 (by decide) (by omega) (by omega) (fun c_3 => ?_) (fun c_3 => ?_)
      · refine lv_iload_n hx hb dX4_little_31 rfl (lv_at hl 0 rfl) ?_
        refine lv_bipush (v := nI 32) hx hb dX4_little_32 (by decide) ?_
        refine lv_iadd hx hb dX4_little_34 ?_
        refine lv_cv (nI_add k0 32) ?_
        refine lv_goto (tgt := 39) hx hb dX4_little_35 (by decide) ?_
        exact p_i hx hb hr hlocks dX4_little_39 (by subst c_3; rfl)
      · refine lv_iload_n hx hb dX4_little_18 rfl (lv_at hl 0 rfl) ?_
        refine lv_bipush (v := nI 88) hx hb dX4_little_19 (by decide) ?_
        refine b_eq (tgt := 31) hx hb dX4_little_21 (by decide) (by omega) (by omega) (fun c_4 => ?_) (fun c_4 => ?_)
        · refine lv_iload_n hx hb dX4_little_31 rfl (lv_at hl 0 rfl) ?_
          refine lv_bipush (v := nI 32) hx hb dX4_little_32 (by decide) ?_
          refine lv_iadd hx hb dX4_little_34 ?_
          refine lv_cv (nI_add k0 32) ?_
          refine lv_goto (tgt := 39) hx hb dX4_little_35 (by decide) ?_
          exact p_i hx hb hr hlocks dX4_little_39 (by subst c_4; rfl)
        · refine lv_iload_n hx hb dX4_little_24 rfl (lv_at hl 0 rfl) ?_
          refine lv_sipush (v := nI 201) hx hb dX4_little_25 (by decide) ?_
          refine b_ne (tgt := 38) hx hb dX4_little_28 (by decide) (by omega) (by omega) (fun c_5 => ?_) (fun c_5 => ?_)
          · refine lv_iload_n hx hb dX4_little_38 rfl (lv_at hl 0 rfl) ?_
            exact p_i hx hb hr hlocks dX4_little_39 (by unfold litN; rw [if_neg (by omega)])
          · refine lv_iload_n hx hb dX4_little_31 rfl (lv_at hl 0 rfl) ?_
            refine lv_bipush (v := nI 32) hx hb dX4_little_32 (by decide) ?_
            refine lv_iadd hx hb dX4_little_34 ?_
            refine lv_cv (nI_add k0 32) ?_
            refine lv_goto (tgt := 39) hx hb dX4_little_35 (by decide) ?_
            exact p_i hx hb hr hlocks dX4_little_39 (by subst c_5; rfl)

abbrev rmX4_hash : Room := { frames := 1, cells := 0, slots := 0, locals := 20 }
theorem mX4_hash {l : Launch} {G : Cx} {A : Nat → Prop} {a : Nat} {t : List Nat} (t61 : t.length ≤ 61) : Met l yX4_hash (.code yX4_hash cX4_hash 6 (some .int) :: GW) rmX4_hash (PC G A [.ref a] (IA G a t)) (vp_Si (fun r => r = hashL t)) 0 0 (fun _ => False) := by
  refine mstart "SigntextModel" (by decide +kernel) rfl (Nat.le_of_ble_eq_true rfl) ?_
  intro p e s m below meth c ls hx hb hr hts hown hml hlocks hname hC hA hW hl
  have hl : lv_has ls 6 [(0, .ref a)] := hl
  have hK := hC.1
  have hS : va_S A s.heap s.heap [] := va_S.rf
  refine lv_iconst (v := nI 0) hx hb dX4_hash_0 (by decide) ?_
  refine lv_istore_n (lv' := [(1, .int (nI 0)), (0, .ref a)]) hx hb dX4_hash_1 rfl hl (by decide) rfl (fun ls hl => ?_)
  refine lv_aload_n hx hb dX4_hash_2 rfl (lv_at hl 1 rfl) ?_
  refine lv_astore_n (lv' := [(2, .ref a), (1, .int (nI 0)), (0, .ref a)]) hx hb dX4_hash_3 rfl hl (by decide) rfl (fun ls hl => ?_)
  refine lv_aload_n hx hb dX4_hash_4 rfl (lv_at hl 0 rfl) ?_
  refine h_ilen hx hb hC.2.1 hW dX4_hash_5 ?_
  refine lv_istore_n (lv' := [(3, .int (nI t.length)), (2, .ref a), (1, .int (nI 0)), (0, .ref a)]) hx hb dX4_hash_6 rfl hl (by decide) rfl (fun ls hl => ?_)
  refine lv_iconst (v := nI 0) hx hb dX4_hash_7 (by decide) ?_
  refine lv_istore (lv' := [(4, .int (nI 0)), (3, .int (nI t.length)), (2, .ref a), (1, .int (nI 0)), (0, .ref a)]) hx hb dX4_hash_8 hl (by decide) rfl (fun ls hl => ?_)
  have hl : lv_has ls 6 [(4, .int (nI 0)), (3, .int (nI t.length)), (2, .ref a), (1, .int (hashL (t.take 0))), (0, .ref a)] := hl
  refine nloop (P := fun j => ∀ (ls : Array Slot) , lv_has ls 6 [(4, .int (nI j)), (3, .int (nI t.length)), (2, .ref a), (1, .int (hashL (t.take j))), (0, .ref a)] → W p l e rmX4_hash s m [.ref a].toArray below meth c s.heap [] 0 0 (MQ below (vp_Si (fun r => r = hashL t)) [.ref a].toArray s 0 0 (fun _ => False)) (F0 m 10 ls [])) t.length ?_ 0 (Nat.zero_le _) ls  hl 
  clear hl
  intro j hj ih ls  hl
  refine lv_iload hx hb dX4_hash_10 (lv_at hl 0 rfl) ?_
  refine lv_iload_n hx hb dX4_hash_12 rfl (lv_at hl 1 rfl) ?_
  refine b_ge (tgt := 36) hx hb dX4_hash_13 (by decide) (by omega) (by omega) (fun c_6 => ?_) (fun c_6 => ?_)
  · refine lv_iload_n hx hb dX4_hash_36 rfl (lv_at hl 3 rfl) ?_
    exact p_i hx hb hr hlocks dX4_hash_37 (by rw [show j = t.length by omega, List.take_length])
  · refine lv_aload_n hx hb dX4_hash_16 rfl (lv_at hl 2 rfl) ?_
    refine lv_iload hx hb dX4_hash_17 (lv_at hl 0 rfl) ?_
    refine h_ild hx hb hC.2.1 hW (i := j) (by omega) (by omega) dX4_hash_19 ?_
    refine lv_istore (lv' := [(5, .int (nI (t.getD j 0))), (4, .int (nI j)), (3, .int (nI t.length)), (2, .ref a), (1, .int (hashL (t.take j))), (0, .ref a)]) hx hb dX4_hash_20 hl (by decide) rfl (fun ls hl => ?_)
    refine lv_iload_n hx hb dX4_hash_22 rfl (lv_at hl 4 rfl) ?_
    refine lv_bipush (v := nI 31) hx hb dX4_hash_23 (by decide) ?_
    refine lv_imul hx hb dX4_hash_25 ?_
    refine lv_iload hx hb dX4_hash_26 (lv_at hl 0 rfl) ?_
    refine lv_iadd hx hb dX4_hash_28 ?_
    refine lv_cv (show _ = hashL (t.take (j + 1)) by rw [hashL_succ (by omega), Int32.mul_comm]) ?_
    refine lv_istore_n (lv' := [(1, .int (hashL (t.take (j + 1)))), (5, .int (nI (t.getD j 0))), (4, .int (nI j)), (3, .int (nI t.length)), (2, .ref a), (0, .ref a)]) hx hb dX4_hash_29 rfl hl (by decide) rfl (fun ls hl => ?_)
    refine lv_iinc (v := nI (j + 1)) (lv' := [(4, .int (nI (j + 1))), (1, .int (hashL (t.take (j + 1)))), (5, .int (nI (t.getD j 0))), (3, .int (nI t.length)), (2, .ref a), (0, .ref a)]) hx hb dX4_hash_30 hl (k := 2) rfl (nI_add j 1) (by decide) rfl (fun ls hl => ?_)
    refine lv_goto (tgt := 10) hx hb dX4_hash_33 (by decide) ?_
    exact ih (j + 1) (by omega) (by omega) ls (lv_sub hl [0, 3, 4, 1, 5] rfl)

abbrev rmX4_stands : Room := { frames := 1, cells := 0, slots := 0, locals := 20 }
theorem mX4_stands {l : Launch} {G : Cx} {A : Nat → Prop} {a b : Nat} {t u : List Nat} {b0 : Bool} (tok : okc t) (uok : okc u) (t61 : t.length ≤ 61) (u61 : u.length ≤ 61) {i : Nat} (hi : i < 2 ^ 31) : Met l yX4_stands (.code yX4_stands cX4_stands 5 (some .boolean) :: GW) rmX4_stands (PC G A [.ref a, .int (nI i), .ref b, .int (bI b0)] (fun H => IA G a t H ∧ IA G b u H)) (vp_Si (fun r => ∃ v : Bool, (v = true ↔ stL b0 t u i) ∧ r = bI v)) 0 0 (fun _ => False) := by
  refine mstart "SigntextModel" (by decide +kernel) rfl (Nat.le_of_ble_eq_true rfl) ?_
  intro p e s m below meth c ls hx hb hr hts hown hml hlocks hname hC hA hW hl
  have hl : lv_has ls 5 [(0, .ref a), (1, .int (nI i)), (2, .ref b), (3, .int (bI b0))] := hl
  have hK := hC.1
  have hS : va_S A s.heap s.heap [] := va_S.rf
  obtain ⟨hI, hJ⟩ := hW
  refine lv_iload_n hx hb dX4_stands_0 rfl (lv_at hl 1 rfl) ?_
  refine z_lt (tgt := 17) hx hb dX4_stands_1 (by decide) (by omega) ?_
  refine lv_iload_n hx hb dX4_stands_4 rfl (lv_at hl 1 rfl) ?_
  refine lv_i2l hx hb dX4_stands_5 (nI_l (n := i) (by omega)) ?_
  refine lv_aload_n hx hb dX4_stands_6 rfl (lv_at hl 2 rfl) ?_
  refine h_ilen hx hb hC.2.1 hJ dX4_stands_7 ?_
  refine lv_i2l hx hb dX4_stands_8 (nI_l (n := u.length) (by omega)) ?_
  refine lv_ladd hx hb dX4_stands_9 ?_
  refine lv_cvl (lN_add i u.length) ?_
  refine lv_aload_n hx hb dX4_stands_10 rfl (lv_at hl 0 rfl) ?_
  refine h_ilen hx hb hC.2.1 hI dX4_stands_11 ?_
  refine lv_i2l hx hb dX4_stands_12 (nI_l (n := t.length) (by omega)) ?_
  refine W.lcmp hx hb dX4_stands_13 ?_
  refine lv_if_le (tgt := 19) hx hb dX4_stands_14 (by decide) (fun c_8 => ?_) (fun c_8 => ?_)
  · have c7 : i + u.length ≤ t.length := (cmpL (by omega) (by omega)).mp c_8
    refine lv_iconst (v := nI 0) hx hb dX4_stands_19 (by decide) ?_
    refine lv_istore (lv' := [(4, .int (nI 0)), (0, .ref a), (1, .int (nI i)), (2, .ref b), (3, .int (bI b0))]) hx hb dX4_stands_20 hl (by decide) rfl (fun ls hl => ?_)
    refine nloop (P := fun j => ∀ (ls : Array Slot) , lv_has ls 5 [(4, .int (nI j)), (0, .ref a), (1, .int (nI i)), (2, .ref b), (3, .int (bI b0))] → (∀ k : Nat, k < j → viewN b0 (t.getD (i + k) 0) = viewN b0 (u.getD k 0)) → W p l e rmX4_stands s m [.ref a, .int (nI i), .ref b, .int (bI b0)].toArray below meth c s.heap [] 0 0 (MQ below (vp_Si (fun r => ∃ v : Bool, (v = true ↔ stL b0 t u i) ∧ r = bI v)) [.ref a, .int (nI i), .ref b, .int (bI b0)].toArray s 0 0 (fun _ => False)) (F0 m 22 ls [])) u.length ?_ 0 (Nat.zero_le _) ls  hl (fun k hk => absurd hk (Nat.not_lt_zero k))
    clear hl
    intro j hj ih ls  hl
    intro hg
    refine lv_iload hx hb dX4_stands_22 (lv_at hl 0 rfl) ?_
    refine lv_aload_n hx hb dX4_stands_24 rfl (lv_at hl 3 rfl) ?_
    refine h_ilen hx hb hC.2.1 hJ dX4_stands_25 ?_
    refine b_ge (tgt := 76) hx hb dX4_stands_26 (by decide) (by omega) (by omega) (fun c_9 => ?_) (fun c_9 => ?_)
    · refine lv_iconst (v := nI 1) hx hb dX4_stands_76 (by decide) ?_
      exact p_z (b := true) hx hb hr hlocks dX4_stands_77 ⟨true, ⟨fun _ => ⟨c7, fun k hk => hg k (by omega)⟩, fun _ => rfl⟩, rfl⟩
    · have v1 := tok (i + j)
      have v2 := uok j
      have w1 : litN (t.getD (i + j) 0) < 300 := viewN_lt (b := true) v1
      have w2 : litN (u.getD j 0) < 300 := viewN_lt (b := true) v2
      refine lv_iload_n hx hb dX4_stands_29 rfl (lv_at hl 4 rfl) ?_
      refine f_eq (tgt := 55) hx hb dX4_stands_30 (by decide) (fun c_10 => ?_) (fun c_10 => ?_)
      · subst c_10
        refine lv_aload_n hx hb dX4_stands_55 rfl (lv_at hl 1 rfl) ?_
        refine lv_iload_n hx hb dX4_stands_56 rfl (lv_at hl 2 rfl) ?_
        refine lv_iload hx hb dX4_stands_57 (lv_at hl 0 rfl) ?_
        refine lv_iadd hx hb dX4_stands_59 ?_
        refine lv_cv (nI_add i j) ?_
        refine h_ild hx hb hC.2.1 hI (i := i + j) (by omega) (by omega) dX4_stands_60 ?_
        refine lv_aload_n hx hb dX4_stands_61 rfl (lv_at hl 3 rfl) ?_
        refine lv_iload hx hb dX4_stands_62 (lv_at hl 0 rfl) ?_
        refine h_ild hx hb hC.2.1 hJ (i := j) (by omega) (by omega) dX4_stands_64 ?_
        refine b_eq (tgt := 70) hx hb dX4_stands_65 (by decide) (by omega) (by omega) (fun c_11 => ?_) (fun c_11 => ?_)
        · refine lv_iinc (v := nI (j + 1)) (lv' := [(4, .int (nI (j + 1))), (0, .ref a), (1, .int (nI i)), (2, .ref b), (3, .int (bI false))]) hx hb dX4_stands_70 hl (k := 0) rfl (nI_add j 1) (by decide) rfl (fun ls hl => ?_)
          refine lv_goto (tgt := 22) hx hb dX4_stands_73 (by decide) ?_
          exact ih (j + 1) (by omega) (by omega) ls (lv_sub hl [0, 1, 2, 3, 4] rfl) (fun k hk => by rcases Nat.lt_succ_iff_lt_or_eq.mp hk with q | q; exact hg k q; rw [q]; exact c_11)
        · refine lv_iconst (v := nI 0) hx hb dX4_stands_68 (by decide) ?_
          exact p_z (b := false) hx hb hr hlocks dX4_stands_69 ⟨false, ⟨fun q => Bool.noConfusion q, fun q => absurd (q.2 j (by omega)) c_11⟩, rfl⟩
      · subst c_10
        refine lv_aload_n hx hb dX4_stands_33 rfl (lv_at hl 1 rfl) ?_
        refine lv_iload_n hx hb dX4_stands_34 rfl (lv_at hl 2 rfl) ?_
        refine lv_iload hx hb dX4_stands_35 (lv_at hl 0 rfl) ?_
        refine lv_iadd hx hb dX4_stands_37 ?_
        refine lv_cv (nI_add i j) ?_
        refine h_ild hx hb hC.2.1 hI (i := i + j) (by omega) (by omega) dX4_stands_38 ?_
        refine kS_i (A := A) (As := [.int (nI (t.getD (i + j) 0))]) (rest := []) ⟨hx, hb, hml, hown, hts⟩ (mX4_little (A := A) v1) (va_cwS 1 hts (gS tw_6_178 tw_6_179 tw_1_8 tw_6_180) rfl rfl rfl (by decide +kernel) ⟨Nat.le_of_ble_eq_true rfl, Nat.le_of_ble_eq_true rfl⟩) hC hS hA  trivial rfl rfl hl.1 (Nat.le_of_ble_eq_true rfl) ⟨Nat.zero_le _, Nat.zero_le _⟩ dX4_stands_39 (fun r9 h9 => lv_cv h9 ?_)
        refine lv_aload_n hx hb dX4_stands_42 rfl (lv_at hl 3 rfl) ?_
        refine lv_iload hx hb dX4_stands_43 (lv_at hl 0 rfl) ?_
        refine h_ild hx hb hC.2.1 hJ (i := j) (by omega) (by omega) dX4_stands_45 ?_
        refine kS_i (A := A) (As := [.int (nI (u.getD j 0))]) (rest := .int (nI (litN (t.getD (i + j) 0))) :: []) ⟨hx, hb, hml, hown, hts⟩ (mX4_little (A := A) v2) (va_cwS 1 hts (gS tw_6_178 tw_6_179 tw_1_8 tw_6_180) rfl rfl rfl (by decide +kernel) ⟨Nat.le_of_ble_eq_true rfl, Nat.le_of_ble_eq_true rfl⟩) hC hS hA  trivial rfl rfl hl.1 (Nat.le_of_ble_eq_true rfl) ⟨Nat.zero_le _, Nat.zero_le _⟩ dX4_stands_46 (fun r9 h9 => lv_cv h9 ?_)
        refine b_eq (tgt := 70) hx hb dX4_stands_49 (by decide) (by omega) (by omega) (fun c_12 => ?_) (fun c_12 => ?_)
        · refine lv_iinc (v := nI (j + 1)) (lv' := [(4, .int (nI (j + 1))), (0, .ref a), (1, .int (nI i)), (2, .ref b), (3, .int (bI true))]) hx hb dX4_stands_70 hl (k := 0) rfl (nI_add j 1) (by decide) rfl (fun ls hl => ?_)
          refine lv_goto (tgt := 22) hx hb dX4_stands_73 (by decide) ?_
          exact ih (j + 1) (by omega) (by omega) ls (lv_sub hl [0, 1, 2, 3, 4] rfl) (fun k hk => by rcases Nat.lt_succ_iff_lt_or_eq.mp hk with q | q; exact hg k q; rw [q]; exact c_12)
        · refine lv_goto (tgt := 68) hx hb dX4_stands_52 (by decide) ?_
          refine lv_iconst (v := nI 0) hx hb dX4_stands_68 (by decide) ?_
          exact p_z (b := false) hx hb hr hlocks dX4_stands_69 ⟨false, ⟨fun q => Bool.noConfusion q, fun q => absurd (q.2 j (by omega)) c_12⟩, rfl⟩
  · have c7 : ¬ i + u.length ≤ t.length := fun q => c_8 ((cmpL (by omega) (by omega)).mpr q)
    refine lv_iconst (v := nI 0) hx hb dX4_stands_17 (by decide) ?_
    exact p_z (b := false) hx hb hr hlocks dX4_stands_18 ⟨false, ⟨fun q => Bool.noConfusion q, fun q => absurd q.1 c7⟩, rfl⟩

theorem mX4_stands_n {l : Launch} {G : Cx} {A : Nat → Prop} {a b : Nat} {t u : List Nat} {b0 : Bool} (tok : okc t) (uok : okc u) (t61 : t.length ≤ 61) (u61 : u.length ≤ 61) {x : Int32} (hx0 : x < 0) : Met l yX4_stands (.code yX4_stands cX4_stands 5 (some .boolean) :: GW) rmX4_stands (PC G A [.ref a, .int x, .ref b, .int (bI b0)] (fun H => IA G a t H ∧ IA G b u H)) (vp_Si (fun r => r = bI false)) 0 0 (fun _ => False) := by
  refine mstart "SigntextModel" (by decide +kernel) rfl (Nat.le_of_ble_eq_true rfl) ?_
  intro p e s m below meth c ls hx hb hr hts hown hml hlocks hname hC hA hW hl
  have hl : lv_has ls 5 [(0, .ref a), (1, .int x), (2, .ref b), (3, .int (bI b0))] := hl
  have hK := hC.1
  have hS : va_S A s.heap s.heap [] := va_S.rf
  refine lv_iload_n hx hb dX4_stands_0 rfl (lv_at hl 1 rfl) ?_
  refine lv_if_lt (tgt := 17) hx hb dX4_stands_1 (by decide) (fun c_13 => ?_) (fun c_13 => ?_)
  · refine lv_iconst (v := nI 0) hx hb dX4_stands_17 (by decide) ?_
    exact p_z (b := false) hx hb hr hlocks dX4_stands_18 rfl
  · exact absurd hx0 c_13

abbrev rmX4_first : Room := { frames := 2, cells := 0, slots := 0, locals := 44 }
theorem mX4_first {l : Launch} {G : Cx} {A : Nat → Prop} {a b : Nat} {t u : List Nat} (tok : okc t) (uok : okc u) (t61 : t.length ≤ 61) (u61 : u.length ≤ 61) : Met l yX4_first (.code yX4_first cX4_first 3 (some .int) :: GW) rmX4_first (PC G A [.ref a, .ref b] (fun H => IA G a t H ∧ IA G b u H)) (vp_Si (fstR (fun k => stL false t u k))) 0 0 (fun _ => False) := by
  refine mstart "SigntextModel" (by decide +kernel) rfl (Nat.le_of_ble_eq_true rfl) ?_
  intro p e s m below meth c ls hx hb hr hts hown hml hlocks hname hC hA hW hl
  have hl : lv_has ls 3 [(0, .ref a), (1, .ref b)] := hl
  have hK := hC.1
  have hS : va_S A s.heap s.heap [] := va_S.rf
  obtain ⟨hI, hJ⟩ := hW
  refine lv_iconst (v := nI 0) hx hb dX4_first_0 (by decide) ?_
  refine lv_istore_n (lv' := [(2, .int (nI 0)), (0, .ref a), (1, .ref b)]) hx hb dX4_first_1 rfl hl (by decide) rfl (fun ls hl => ?_)
  refine nloop (P := fun j => ∀ (ls : Array Slot) , lv_has ls 3 [(2, .int (nI j)), (0, .ref a), (1, .ref b)] → (∀ k : Nat, k < j → ¬ stL false t u k) → W p l e rmX4_first s m [.ref a, .ref b].toArray below meth c s.heap [] 0 0 (MQ below (vp_Si (fstR (fun k => stL false t u k))) [.ref a, .ref b].toArray s 0 0 (fun _ => False)) (F0 m 2 ls [])) 62 ?_ 0 (Nat.zero_le _) ls  hl (fun k hk => absurd hk (Nat.not_lt_zero k))
  clear hl
  intro j hj ih ls  hl
  intro hg
  refine lv_iload_n hx hb dX4_first_2 rfl (lv_at hl 0 rfl) ?_
  refine lv_aload_n hx hb dX4_first_3 rfl (lv_at hl 1 rfl) ?_
  refine h_ilen hx hb hC.2.1 hI dX4_first_4 ?_
  refine b_gt (tgt := 26) hx hb dX4_first_5 (by decide) (by omega) (by omega) (fun c_14 => ?_) (fun c_14 => ?_)
  · refine lv_iconst (v := (-1)) hx hb dX4_first_26 (by decide) ?_
    exact p_i hx hb hr hlocks dX4_first_27 (Or.inr ⟨fun k q => by rcases Nat.lt_or_ge k j with h | h; exact hg k h q; exact absurd q.1 (by omega), rfl⟩)
  · refine lv_aload_n hx hb dX4_first_8 rfl (lv_at hl 1 rfl) ?_
    refine lv_iload_n hx hb dX4_first_9 rfl (lv_at hl 0 rfl) ?_
    refine lv_aload_n hx hb dX4_first_10 rfl (lv_at hl 2 rfl) ?_
    refine lv_iconst (v := nI 0) hx hb dX4_first_11 (by decide) ?_
    refine kS_i (A := A) (As := [.ref a, .int (nI j), .ref b, .int (bI false)]) (rest := []) ⟨hx, hb, hml, hown, hts⟩ (mX4_stands (A := A) (i := j) (b0 := false) tok uok t61 u61 (by omega)) (va_cwS 4 hts (gS tw_6_175 tw_6_176 tw_1_8 tw_6_177) rfl rfl rfl (by decide +kernel) ⟨Nat.le_of_ble_eq_true rfl, Nat.le_of_ble_eq_true rfl⟩) hC hS hA  ⟨hI, hJ⟩ rfl rfl hl.1 (Nat.le_of_ble_eq_true rfl) ⟨Nat.zero_le _, Nat.zero_le _⟩ dX4_first_12 (fun r_15 hr_15 => ?_)
    obtain ⟨v, hv, rfl⟩ := hr_15
    refine f_eq (tgt := 20) hx hb dX4_first_15 (by decide) (fun c_16 => ?_) (fun c_16 => ?_)
    · subst c_16
      refine lv_iinc (v := nI (j + 1)) (lv' := [(2, .int (nI (j + 1))), (0, .ref a), (1, .ref b)]) hx hb dX4_first_20 hl (k := 0) rfl (nI_add j 1) (by decide) rfl (fun ls hl => ?_)
      refine lv_goto (tgt := 2) hx hb dX4_first_23 (by decide) ?_
      exact ih (j + 1) (by omega) (by omega) ls hl (fun k hk => by rcases Nat.lt_succ_iff_lt_or_eq.mp hk with q | q; exact hg k q; rw [q]; exact fun z => Bool.noConfusion (hv.mpr z))
    · refine lv_iload_n hx hb dX4_first_18 rfl (lv_at hl 0 rfl) ?_
      exact p_i hx hb hr hlocks dX4_first_19 (Or.inl ⟨j, hv.mp c_16, hg, rfl⟩)

abbrev rmX4_last : Room := { frames := 2, cells := 0, slots := 0, locals := 44 }
theorem mX4_last {l : Launch} {G : Cx} {A : Nat → Prop} {a b : Nat} {t u : List Nat} (tok : okc t) (uok : okc u) (t61 : t.length ≤ 61) (u61 : u.length ≤ 61) : Met l yX4_last (.code yX4_last cX4_last 3 (some .int) :: GW) rmX4_last (PC G A [.ref a, .ref b] (fun H => IA G a t H ∧ IA G b u H)) (vp_Si (lstR (fun k => stL false t u k))) 0 0 (fun _ => False) := by
  refine mstart "SigntextModel" (by decide +kernel) rfl (Nat.le_of_ble_eq_true rfl) ?_
  intro p e s m below meth c ls hx hb hr hts hown hml hlocks hname hC hA hW hl
  have hl : lv_has ls 3 [(0, .ref a), (1, .ref b)] := hl
  have hK := hC.1
  have hS : va_S A s.heap s.heap [] := va_S.rf
  obtain ⟨hI, hJ⟩ := hW
  refine lv_aload_n hx hb dX4_last_0 rfl (lv_at hl 0 rfl) ?_
  refine h_ilen hx hb hC.2.1 hI dX4_last_1 ?_
  refine lv_istore_n (lv' := [(2, .int (nI t.length)), (0, .ref a), (1, .ref b)]) hx hb dX4_last_2 rfl hl (by decide) rfl (fun ls hl => ?_)
  rw [← nI_pred t.length] at hl
  refine dloop (P := fun j => ∀ (ls : Array Slot) , lv_has ls 3 [(2, .int (nI j - 1)), (0, .ref a), (1, .ref b)] → j ≤ t.length + 1 → (∀ k : Nat, j ≤ k → ¬ stL false t u k) → W p l e rmX4_last s m [.ref a, .ref b].toArray below meth c s.heap [] 0 0 (MQ below (vp_Si (lstR (fun k => stL false t u k))) [.ref a, .ref b].toArray s 0 0 (fun _ => False)) (F0 m 3 ls [])) ?_ (t.length + 1) ls  hl (Nat.le_refl _) (fun k h1 q => absurd q.1 (by omega))
  clear hl
  intro j ih ls  hl
  intro hj hg
  cases j with
  | zero =>
    refine lv_iload_n hx hb dX4_last_3 rfl (lv_at hl 0 rfl) ?_
    refine lv_if_lt (tgt := 25) hx hb dX4_last_4 (by decide) (fun _ => ?_) (fun q => absurd (by decide) q)
    refine lv_iconst (v := (-1)) hx hb dX4_last_25 (by decide) ?_
    exact p_i hx hb hr hlocks dX4_last_26 (Or.inr ⟨fun k q => hg k (Nat.zero_le _) q, rfl⟩)
  | succ j =>
    rw [nI_pred] at hl
    refine lv_iload_n hx hb dX4_last_3 rfl (lv_at hl 0 rfl) ?_
    refine z_lt (tgt := 25) hx hb dX4_last_4 (by decide) (by omega) ?_
    refine lv_aload_n hx hb dX4_last_7 rfl (lv_at hl 1 rfl) ?_
    refine lv_iload_n hx hb dX4_last_8 rfl (lv_at hl 0 rfl) ?_
    refine lv_aload_n hx hb dX4_last_9 rfl (lv_at hl 2 rfl) ?_
    refine lv_iconst (v := nI 0) hx hb dX4_last_10 (by decide) ?_
    refine kS_i (A := A) (As := [.ref a, .int (nI j), .ref b, .int (bI false)]) (rest := []) ⟨hx, hb, hml, hown, hts⟩ (mX4_stands (A := A) (i := j) (b0 := false) tok uok t61 u61 (by omega)) (va_cwS 4 hts (gS tw_6_175 tw_6_176 tw_1_8 tw_6_177) rfl rfl rfl (by decide +kernel) ⟨Nat.le_of_ble_eq_true rfl, Nat.le_of_ble_eq_true rfl⟩) hC hS hA  ⟨hI, hJ⟩ rfl rfl hl.1 (Nat.le_of_ble_eq_true rfl) ⟨Nat.zero_le _, Nat.zero_le _⟩ dX4_last_11 (fun r_18 hr_18 => ?_)
    obtain ⟨v, hv, rfl⟩ := hr_18
    refine f_eq (tgt := 19) hx hb dX4_last_14 (by decide) (fun c_19 => ?_) (fun c_19 => ?_)
    · subst c_19
      refine lv_iinc (v := nI j - 1) (lv' := [(2, .int (nI j - 1)), (0, .ref a), (1, .ref b)]) hx hb dX4_last_19 hl (k := 0) rfl (m1_eq j) (by decide) rfl (fun ls hl => ?_)
      refine lv_goto (tgt := 3) hx hb dX4_last_22 (by decide) ?_
      exact ih j (Nat.lt_succ_self j) ls hl (by omega) (fun k h1 => by rcases Nat.lt_or_ge j k with q | q; exact hg k q; rw [show k = j by omega]; exact fun z => Bool.noConfusion (hv.mpr z))
    · refine lv_iload_n hx hb dX4_last_17 rfl (lv_at hl 0 rfl) ?_
      exact p_i hx hb hr hlocks dX4_last_18 (Or.inl ⟨j, hv.mp c_19, fun k h1 => hg k h1, rfl⟩)

abbrev rmX4_isSame : Room := { frames := 2, cells := 0, slots := 0, locals := 44 }
theorem mX4_isSame {l : Launch} {G : Cx} {A : Nat → Prop} {a b : Nat} {t u : List Nat} {b0 : Bool} (tok : okc t) (uok : okc u) (t61 : t.length ≤ 61) (u61 : u.length ≤ 61) : Met l yX4_isSame (.code yX4_isSame cX4_isSame 3 (some .boolean) :: GW) rmX4_isSame (PC G A [.ref a, .ref b, .int (bI b0)] (fun H => IA G a t H ∧ IA G b u H)) (vp_Si (fun r => ∃ v : Bool, (v = true ↔ t.length = u.length ∧ stL b0 t u 0) ∧ r = bI v)) 0 0 (fun _ => False) := by
  refine mstart "SigntextModel" (by decide +kernel) rfl (Nat.le_of_ble_eq_true rfl) ?_
  intro p e s m below meth c ls hx hb hr hts hown hml hlocks hname hC hA hW hl
  have hl : lv_has ls 3 [(0, .ref a), (1, .ref b), (2, .int (bI b0))] := hl
  have hK := hC.1
  have hS : va_S A s.heap s.heap [] := va_S.rf
  obtain ⟨hI, hJ⟩ := hW
  refine lv_aload_n hx hb dX4_isSame_0 rfl (lv_at hl 0 rfl) ?_
  refine h_ilen hx hb hC.2.1 hI dX4_isSame_1 ?_
  refine lv_aload_n hx hb dX4_isSame_2 rfl (lv_at hl 1 rfl) ?_
  refine h_ilen hx hb hC.2.1 hJ dX4_isSame_3 ?_
  refine b_ne (tgt := 21) hx hb dX4_isSame_4 (by decide) (by omega) (by omega) (fun c_20 => ?_) (fun c_20 => ?_)
  · refine lv_iconst (v := nI 0) hx hb dX4_isSame_21 (by decide) ?_
    exact p_z (b := false) hx hb hr hlocks dX4_isSame_22 ⟨false, ⟨fun q => Bool.noConfusion q, fun q => absurd q.1 c_20⟩, rfl⟩
  · refine lv_aload_n hx hb dX4_isSame_7 rfl (lv_at hl 0 rfl) ?_
    refine lv_iconst (v := nI 0) hx hb dX4_isSame_8 (by decide) ?_
    refine lv_aload_n hx hb dX4_isSame_9 rfl (lv_at hl 1 rfl) ?_
    refine lv_iload_n hx hb dX4_isSame_10 rfl (lv_at hl 2 rfl) ?_
    refine kS_i (A := A) (As := [.ref a, .int (nI 0), .ref b, .int (bI b0)]) (rest := []) ⟨hx, hb, hml, hown, hts⟩ (mX4_stands (A := A) (i := 0) (b0 := b0) tok uok t61 u61 (by omega)) (va_cwS 4 hts (gS tw_6_175 tw_6_176 tw_1_8 tw_6_177) rfl rfl rfl (by decide +kernel) ⟨Nat.le_of_ble_eq_true rfl, Nat.le_of_ble_eq_true rfl⟩) hC hS hA  ⟨hI, hJ⟩ rfl rfl hl.1 (Nat.le_of_ble_eq_true rfl) ⟨Nat.zero_le _, Nat.zero_le _⟩ dX4_isSame_11 (fun r_21 hr_21 => ?_)
    obtain ⟨v, hv, rfl⟩ := hr_21
    refine f_eq (tgt := 21) hx hb dX4_isSame_14 (by decide) (fun c_22 => ?_) (fun c_22 => ?_)
    · refine lv_iconst (v := nI 0) hx hb dX4_isSame_21 (by decide) ?_
      exact p_z (b := false) hx hb hr hlocks dX4_isSame_22 ⟨false, ⟨fun q => Bool.noConfusion q, fun q => absurd (hv.mpr q.2) (by rw [c_22]; decide)⟩, rfl⟩
    · refine lv_iconst (v := nI 1) hx hb dX4_isSame_17 (by decide) ?_
      refine lv_goto (tgt := 22) hx hb dX4_isSame_18 (by decide) ?_
      exact p_z (b := true) hx hb hr hlocks dX4_isSame_22 ⟨true, ⟨fun _ => ⟨c_20, hv.mp c_22⟩, fun _ => rfl⟩, rfl⟩

abbrev rmX4_trimmed : Room := { frames := 2, cells := 1, slots := 61, locals := 44 }
theorem mX4_trimmed {l : Launch} {G : Cx} {A : Nat → Prop} {a sz : Nat} {t : List Nat} {b : Bool} (tok : okc t) (t61 : t.length ≤ 61) : Met l yX4_trimmed (.code yX4_trimmed cX4_trimmed 4 (some (.array .int)) :: GW) rmX4_trimmed (PC G A [.ref a, .int (bI b)] (fun H => H.size = sz ∧ IA G a t H)) (qR A (fun r H => sz ≤ r ∧ ∃ e9, isTe b t e9 ∧ IA0 G r (cutL t (tbL b t) e9) H)) 1 61 (A) := by
  refine mstart "SigntextModel" (by decide +kernel) rfl (Nat.le_of_ble_eq_true rfl) ?_
  intro p e s m below meth c ls hx hb hr hts hown hml hlocks hname hC hA hW hl
  have hl : lv_has ls 4 [(0, .ref a), (1, .int (bI b))] := hl
  have hK := hC.1
  have hS : va_S A s.heap s.heap [] := va_S.rf
  obtain ⟨hsz, hI⟩ := hW
  have tb9 := tbL_le b t
  refine lv_iconst (v := nI 0) hx hb dX4_trimmed_0 (by decide) ?_
  refine lv_istore_n (lv' := [(2, .int (nI 0)), (0, .ref a), (1, .int (bI b))]) hx hb dX4_trimmed_1 rfl hl (by decide) rfl (fun ls hl => ?_)
  refine lv_aload_n hx hb dX4_trimmed_2 rfl (lv_at hl 1 rfl) ?_
  refine h_ilen hx hb hC.2.1 hI dX4_trimmed_3 ?_
  refine lv_istore_n (lv' := [(3, .int (nI t.length)), (2, .int (nI 0)), (0, .ref a), (1, .int (bI b))]) hx hb dX4_trimmed_4 rfl hl (by decide) rfl (fun ls hl => ?_)
  refine nloop (P := fun j => ∀ (ls : Array Slot) , lv_has ls 4 [(3, .int (nI t.length)), (2, .int (nI j)), (0, .ref a), (1, .int (bI b))] → (∀ k : Nat, k < j → goesN b (t.getD k 0) = true) → W p l e rmX4_trimmed s m [.ref a, .int (bI b)].toArray below meth c s.heap [] 0 0 (MQ below (qR A (fun r H => sz ≤ r ∧ ∃ e9, isTe b t e9 ∧ IA0 G r (cutL t (tbL b t) e9) H)) [.ref a, .int (bI b)].toArray s 1 61 (A)) (F0 m 5 ls [])) t.length ?_ 0 (Nat.zero_le _) ls  hl (fun k hk => absurd hk (Nat.not_lt_zero k))
  clear hl
  intro j hj ih ls  hl
  intro hg
  have k26 : ∀ (j : Nat) (ls : Array Slot), lv_has ls 4 [(3, .int (nI j)), (2, .int (nI (tbL b t))), (0, .ref a), (1, .int (bI b))] → j ≤ t.length → tbL b t ≤ j → (∀ k : Nat, j ≤ k → k < t.length → goesN b (t.getD k 0) = true) → W p l e rmX4_trimmed s m [.ref a, .int (bI b)].toArray below meth c s.heap [] 0 0 (MQ below (qR A (fun r H => sz ≤ r ∧ ∃ e9, isTe b t e9 ∧ IA0 G r (cutL t (tbL b t) e9) H)) [.ref a, .int (bI b)].toArray s 1 61 (A)) (F0 m 26 ls []) := by
    clear hl ih hg
    refine dloop ?_
    intro j ih ls hl hj hj2 hg
    refine lv_iload_n hx hb dX4_trimmed_26 rfl (lv_at hl 0 rfl) ?_
    refine lv_iload_n hx hb dX4_trimmed_27 rfl (lv_at hl 1 rfl) ?_
    refine b_le (tgt := 49) hx hb dX4_trimmed_28 (by decide) (by omega) (by omega) (fun c_23 => ?_) (fun c_23 => ?_)
    · refine lv_aload_n hx hb dX4_trimmed_49 rfl (lv_at hl 2 rfl) ?_
      refine lv_iload_n hx hb dX4_trimmed_50 rfl (lv_at hl 1 rfl) ?_
      refine lv_iload_n hx hb dX4_trimmed_51 rfl (lv_at hl 0 rfl) ?_
      refine qR_S (A := A) (A1 := nw s.heap.size)  (As := [.ref a, .int (nI (tbL b t)), .int (nI j)]) (rest := []) ⟨hx, hb, hml, hown, hts⟩ (mX4_cut (A := nw s.heap.size) (sz := sz) (t := t) (i := tbL b t) (i2 := j) hj2 hj t61) (va_cwS 3 hts (gS tw_4_226 tw_4_227 tw_1_8 tw_4_228) rfl rfl rfl (by decide +kernel) ⟨Nat.le_of_ble_eq_true rfl, Nat.le_of_ble_eq_true rfl⟩) hC hS (nw_in hA (Nat.le_refl _)) nw_n  ⟨hsz, hI⟩ rfl rfl hl.1 (Nat.le_of_ble_eq_true rfl) ⟨Nat.le_trans (show 0 + 1 ≤ 1 by omega) (Nat.le_of_ble_eq_true rfl), Nat.le_trans (show 0 + 61 ≤ 61 by omega) (Nat.le_of_ble_eq_true rfl)⟩ dX4_trimmed_52 (fun rv24 H24 L24 hP24 hk24 hS => ?_)
      have hZ24 := hS.1
      exact q_a hx hb hr (Or.inr ⟨_, rfl⟩) hlocks dX4_trimmed_55 hS (by omega) (by omega) ⟨hP24.1, j, ⟨hj2, hj, hg, fun q => absurd q (by omega)⟩, hP24.2⟩
    · obtain ⟨i, rfl⟩ : ∃ i, j = i + 1 := ⟨j - 1, by omega⟩
      refine lv_aload_n hx hb dX4_trimmed_31 rfl (lv_at hl 2 rfl) ?_
      refine lv_iload_n hx hb dX4_trimmed_32 rfl (lv_at hl 0 rfl) ?_
      refine lv_iconst (v := nI 1) hx hb dX4_trimmed_33 (by decide) ?_
      refine lv_isub hx hb dX4_trimmed_34 ?_
      refine lv_cv (nI_pred i) ?_
      refine h_ild hx hb hC.2.1 hI (i := i) (by omega) (by omega) dX4_trimmed_35 ?_
      refine lv_iload_n hx hb dX4_trimmed_36 rfl (lv_at hl 3 rfl) ?_
      have toki := tok i
      refine kS_i (A := A) (As := [.int (nI (t.getD i 0)), .int (bI b)]) (rest := []) ⟨hx, hb, hml, hown, hts⟩ (mX4_goes (A := A) (k0 := t.getD i 0) (b := b) (by omega)) (va_cwS 2 hts (gS tw_5_12 tw_5_13 tw_1_8 tw_5_14) rfl rfl rfl (by decide +kernel) ⟨Nat.le_of_ble_eq_true rfl, Nat.le_of_ble_eq_true rfl⟩) hC hS hA  trivial rfl rfl hl.1 (Nat.le_of_ble_eq_true rfl) ⟨Nat.zero_le _, Nat.zero_le _⟩ dX4_trimmed_37 (fun r9 h9 => lv_cv h9 ?_)
      refine f_eq (tgt := 49) hx hb dX4_trimmed_40 (by decide) (fun c_25 => ?_) (fun c_25 => ?_)
      · refine lv_aload_n hx hb dX4_trimmed_49 rfl (lv_at hl 2 rfl) ?_
        refine lv_iload_n hx hb dX4_trimmed_50 rfl (lv_at hl 1 rfl) ?_
        refine lv_iload_n hx hb dX4_trimmed_51 rfl (lv_at hl 0 rfl) ?_
        refine qR_S (A := A) (A1 := nw s.heap.size)  (As := [.ref a, .int (nI (tbL b t)), .int (nI (i + 1))]) (rest := []) ⟨hx, hb, hml, hown, hts⟩ (mX4_cut (A := nw s.heap.size) (sz := sz) (t := t) (i := tbL b t) (i2 := i + 1) hj2 hj t61) (va_cwS 3 hts (gS tw_4_226 tw_4_227 tw_1_8 tw_4_228) rfl rfl rfl (by decide +kernel) ⟨Nat.le_of_ble_eq_true rfl, Nat.le_of_ble_eq_true rfl⟩) hC hS (nw_in hA (Nat.le_refl _)) nw_n  ⟨hsz, hI⟩ rfl rfl hl.1 (Nat.le_of_ble_eq_true rfl) ⟨Nat.le_trans (show 0 + 1 ≤ 1 by omega) (Nat.le_of_ble_eq_true rfl), Nat.le_trans (show 0 + 61 ≤ 61 by omega) (Nat.le_of_ble_eq_true rfl)⟩ dX4_trimmed_52 (fun rv26 H26 L26 hP26 hk26 hS => ?_)
        have hZ26 := hS.1
        exact q_a hx hb hr (Or.inr ⟨_, rfl⟩) hlocks dX4_trimmed_55 hS (by omega) (by omega) ⟨hP26.1, i + 1, ⟨hj2, hj, hg, fun _ => c_25⟩, hP26.2⟩
      · refine lv_iinc (v := nI i) (lv' := [(3, .int (nI i)), (2, .int (nI (tbL b t))), (0, .ref a), (1, .int (bI b))]) hx hb dX4_trimmed_43 hl (k := 0) rfl (pk_m1 i) (by decide) rfl (fun ls hl => ?_)
        refine lv_goto (tgt := 26) hx hb dX4_trimmed_46 (by decide) ?_
        exact ih i (Nat.lt_succ_self i) ls (lv_sub hl [0, 1, 2, 3] rfl) (by omega) (by omega) (fun k h1 h2 => by rcases Nat.lt_or_ge i k with q | q; exact hg k q h2; rw [show k = i by omega]; exact c_25)
  refine lv_iload_n hx hb dX4_trimmed_5 rfl (lv_at hl 1 rfl) ?_
  refine lv_iload_n hx hb dX4_trimmed_6 rfl (lv_at hl 0 rfl) ?_
  refine b_ge (tgt := 26) hx hb dX4_trimmed_7 (by decide) (by omega) (by omega) (fun c_27 => ?_) (fun c_27 => ?_)
  · have e : nI j = nI (tbL b t) := tbL_eq (by omega) hg (fun q => absurd q (by omega))
    rw [e] at hl
    exact k26 t.length ls (lv_sub hl [0, 1, 2, 3] rfl) (Nat.le_refl _) tb9 (fun k h1 h2 => absurd h2 (by omega))
  · refine lv_aload_n hx hb dX4_trimmed_10 rfl (lv_at hl 2 rfl) ?_
    refine lv_iload_n hx hb dX4_trimmed_11 rfl (lv_at hl 1 rfl) ?_
    refine h_ild hx hb hC.2.1 hI (i := j) (by omega) (by omega) dX4_trimmed_12 ?_
    refine lv_iload_n hx hb dX4_trimmed_13 rfl (lv_at hl 3 rfl) ?_
    have tokj := tok j
    refine kS_i (A := A) (As := [.int (nI (t.getD j 0)), .int (bI b)]) (rest := []) ⟨hx, hb, hml, hown, hts⟩ (mX4_goes (A := A) (k0 := t.getD j 0) (b := b) (by omega)) (va_cwS 2 hts (gS tw_5_12 tw_5_13 tw_1_8 tw_5_14) rfl rfl rfl (by decide +kernel) ⟨Nat.le_of_ble_eq_true rfl, Nat.le_of_ble_eq_true rfl⟩) hC hS hA  trivial rfl rfl hl.1 (Nat.le_of_ble_eq_true rfl) ⟨Nat.zero_le _, Nat.zero_le _⟩ dX4_trimmed_14 (fun r9 h9 => lv_cv h9 ?_)
    refine f_eq (tgt := 26) hx hb dX4_trimmed_17 (by decide) (fun c_28 => ?_) (fun c_28 => ?_)
    · have e : nI j = nI (tbL b t) := tbL_eq (by omega) hg (fun _ => c_28)
      rw [e] at hl
      exact k26 t.length ls (lv_sub hl [0, 1, 2, 3] rfl) (Nat.le_refl _) tb9 (fun k h1 h2 => absurd h2 (by omega))
    · refine lv_iinc (v := nI (j + 1)) (lv' := [(2, .int (nI (j + 1))), (3, .int (nI t.length)), (0, .ref a), (1, .int (bI b))]) hx hb dX4_trimmed_20 hl (k := 1) rfl (nI_add j 1) (by decide) rfl (fun ls hl => ?_)
      refine lv_goto (tgt := 5) hx hb dX4_trimmed_23 (by decide) ?_
      exact ih (j + 1) (by omega) (by omega) ls (lv_sub hl [1, 0, 2, 3] rfl) (fun k hk => by rcases Nat.lt_succ_iff_lt_or_eq.mp hk with q | q; exact hg k q; rw [q]; exact c_28)
end
/-! 35.list1 -/
section
/-! ArrayList, 1: its readers, its iterator -/
theorem dJx35411_init_45d68_0 : decode cJx35411_init_45d68 0 = .ok (.aload_n 0, 1) := by decide +kernel
theorem dJx35411_init_45d68_1 : decode cJx35411_init_45d68 1 = .ok (.aload_n 1, 1) := by decide +kernel
theorem dJx35411_init_45d68_2 : decode cJx35411_init_45d68 2 = .ok (.putfield 1, 3) := by decide +kernel
theorem dJx35411_init_45d68_5 : decode cJx35411_init_45d68 5 = .ok (.aload_n 0, 1) := by decide +kernel
theorem dJx35411_init_45d68_6 : decode cJx35411_init_45d68 6 = .ok (.invokespecial 7, 3) := by decide +kernel
theorem dJx35411_init_45d68_9 : decode cJx35411_init_45d68 9 = .ok (.aload_n 0, 1) := by decide +kernel
theorem dJx35411_init_45d68_10 : decode cJx35411_init_45d68 10 = .ok (.iconst (-1), 1) := by decide +kernel
theorem dJx35411_init_45d68_11 : decode cJx35411_init_45d68 11 = .ok (.putfield 13, 3) := by decide +kernel
theorem dJx35411_init_45d68_14 : decode cJx35411_init_45d68 14 = .ok (.aload_n 0, 1) := by decide +kernel
theorem dJx35411_init_45d68_15 : decode cJx35411_init_45d68 15 = .ok (.aload_n 0, 1) := by decide +kernel
theorem dJx35411_init_45d68_16 : decode cJx35411_init_45d68 16 = .ok (.getfield 1, 3) := by decide +kernel
theorem dJx35411_init_45d68_19 : decode cJx35411_init_45d68 19 = .ok (.getfield 17, 3) := by decide +kernel
theorem dJx35411_init_45d68_22 : decode cJx35411_init_45d68 22 = .ok (.putfield 22, 3) := by decide +kernel
theorem dJx35411_init_45d68_25 : decode cJx35411_init_45d68 25 = .ok (.return_, 1) := by decide +kernel
theorem dJx35411_hasNext_aae02_0 : decode cJx35411_hasNext_aae02 0 = .ok (.aload_n 0, 1) := by decide +kernel
theorem dJx35411_hasNext_aae02_1 : decode cJx35411_hasNext_aae02 1 = .ok (.getfield 25, 3) := by decide +kernel
theorem dJx35411_hasNext_aae02_4 : decode cJx35411_hasNext_aae02 4 = .ok (.aload_n 0, 1) := by decide +kernel
theorem dJx35411_hasNext_aae02_5 : decode cJx35411_hasNext_aae02 5 = .ok (.getfield 1, 3) := by decide +kernel
theorem dJx35411_hasNext_aae02_8 : decode cJx35411_hasNext_aae02 8 = .ok (.getfield 28, 3) := by decide +kernel
theorem dJx35411_hasNext_aae02_11 : decode cJx35411_hasNext_aae02 11 = .ok (.if_icmp .eq 7, 3) := by decide +kernel
theorem dJx35411_hasNext_aae02_14 : decode cJx35411_hasNext_aae02 14 = .ok (.iconst 1, 1) := by decide +kernel
theorem dJx35411_hasNext_aae02_15 : decode cJx35411_hasNext_aae02 15 = .ok (.goto 4, 3) := by decide +kernel
theorem dJx35411_hasNext_aae02_18 : decode cJx35411_hasNext_aae02 18 = .ok (.iconst 0, 1) := by decide +kernel
theorem dJx35411_hasNext_aae02_19 : decode cJx35411_hasNext_aae02 19 = .ok (.ireturn, 1) := by decide +kernel
theorem dJx35411_next_0502b_0 : decode cJx35411_next_0502b 0 = .ok (.aload_n 0, 1) := by decide +kernel
theorem dJx35411_next_0502b_1 : decode cJx35411_next_0502b 1 = .ok (.invokevirtual 31, 3) := by decide +kernel
theorem dJx35411_next_0502b_4 : decode cJx35411_next_0502b 4 = .ok (.aload_n 0, 1) := by decide +kernel
theorem dJx35411_next_0502b_5 : decode cJx35411_next_0502b 5 = .ok (.getfield 25, 3) := by decide +kernel
theorem dJx35411_next_0502b_8 : decode cJx35411_next_0502b 8 = .ok (.istore_n 1, 1) := by decide +kernel
theorem dJx35411_next_0502b_9 : decode cJx35411_next_0502b 9 = .ok (.iload_n 1, 1) := by decide +kernel
theorem dJx35411_next_0502b_10 : decode cJx35411_next_0502b 10 = .ok (.aload_n 0, 1) := by decide +kernel
theorem dJx35411_next_0502b_11 : decode cJx35411_next_0502b 11 = .ok (.getfield 1, 3) := by decide +kernel
theorem dJx35411_next_0502b_14 : decode cJx35411_next_0502b 14 = .ok (.getfield 28, 3) := by decide +kernel
theorem dJx35411_next_0502b_17 : decode cJx35411_next_0502b 17 = .ok (.if_icmp .lt 11, 3) := by decide +kernel
theorem dJx35411_next_0502b_20 : decode cJx35411_next_0502b 20 = .ok (.new 34, 3) := by decide +kernel
theorem dJx35411_next_0502b_23 : decode cJx35411_next_0502b 23 = .ok (.dup, 1) := by decide +kernel
theorem dJx35411_next_0502b_24 : decode cJx35411_next_0502b 24 = .ok (.invokespecial 36, 3) := by decide +kernel
theorem dJx35411_next_0502b_27 : decode cJx35411_next_0502b 27 = .ok (.athrow, 1) := by decide +kernel
theorem dJx35411_next_0502b_28 : decode cJx35411_next_0502b 28 = .ok (.aload_n 0, 1) := by decide +kernel
theorem dJx35411_next_0502b_29 : decode cJx35411_next_0502b 29 = .ok (.getfield 1, 3) := by decide +kernel
theorem dJx35411_next_0502b_32 : decode cJx35411_next_0502b 32 = .ok (.getfield 37, 3) := by decide +kernel
theorem dJx35411_next_0502b_35 : decode cJx35411_next_0502b 35 = .ok (.astore_n 2, 1) := by decide +kernel
theorem dJx35411_next_0502b_36 : decode cJx35411_next_0502b 36 = .ok (.iload_n 1, 1) := by decide +kernel
theorem dJx35411_next_0502b_37 : decode cJx35411_next_0502b 37 = .ok (.aload_n 2, 1) := by decide +kernel
theorem dJx35411_next_0502b_38 : decode cJx35411_next_0502b 38 = .ok (.arraylength, 1) := by decide +kernel
theorem dJx35411_next_0502b_39 : decode cJx35411_next_0502b 39 = .ok (.if_icmp .lt 11, 3) := by decide +kernel
theorem dJx35411_next_0502b_42 : decode cJx35411_next_0502b 42 = .ok (.new 41, 3) := by decide +kernel
theorem dJx35411_next_0502b_45 : decode cJx35411_next_0502b 45 = .ok (.dup, 1) := by decide +kernel
theorem dJx35411_next_0502b_46 : decode cJx35411_next_0502b 46 = .ok (.invokespecial 43, 3) := by decide +kernel
theorem dJx35411_next_0502b_49 : decode cJx35411_next_0502b 49 = .ok (.athrow, 1) := by decide +kernel
theorem dJx35411_next_0502b_50 : decode cJx35411_next_0502b 50 = .ok (.aload_n 0, 1) := by decide +kernel
theorem dJx35411_next_0502b_51 : decode cJx35411_next_0502b 51 = .ok (.iload_n 1, 1) := by decide +kernel
theorem dJx35411_next_0502b_52 : decode cJx35411_next_0502b 52 = .ok (.iconst 1, 1) := by decide +kernel
theorem dJx35411_next_0502b_53 : decode cJx35411_next_0502b 53 = .ok (.iadd, 1) := by decide +kernel
theorem dJx35411_next_0502b_54 : decode cJx35411_next_0502b 54 = .ok (.putfield 25, 3) := by decide +kernel
theorem dJx35411_next_0502b_57 : decode cJx35411_next_0502b 57 = .ok (.aload_n 2, 1) := by decide +kernel
theorem dJx35411_next_0502b_58 : decode cJx35411_next_0502b 58 = .ok (.aload_n 0, 1) := by decide +kernel
theorem dJx35411_next_0502b_59 : decode cJx35411_next_0502b 59 = .ok (.iload_n 1, 1) := by decide +kernel
theorem dJx35411_next_0502b_60 : decode cJx35411_next_0502b 60 = .ok (.dup_x1, 1) := by decide +kernel
theorem dJx35411_next_0502b_61 : decode cJx35411_next_0502b 61 = .ok (.putfield 13, 3) := by decide +kernel
theorem dJx35411_next_0502b_64 : decode cJx35411_next_0502b 64 = .ok (.aaload, 1) := by decide +kernel
theorem dJx35411_next_0502b_65 : decode cJx35411_next_0502b 65 = .ok (.areturn, 1) := by decide +kernel
theorem dJx35411_checkForComodification_da8c8_0 : decode cJx35411_checkForComodification_da8c8 0 = .ok (.aload_n 0, 1) := by decide +kernel
theorem dJx35411_checkForComodification_da8c8_1 : decode cJx35411_checkForComodification_da8c8 1 = .ok (.getfield 1, 3) := by decide +kernel
theorem dJx35411_checkForComodification_da8c8_4 : decode cJx35411_checkForComodification_da8c8 4 = .ok (.getfield 17, 3) := by decide +kernel
theorem dJx35411_checkForComodification_da8c8_7 : decode cJx35411_checkForComodification_da8c8 7 = .ok (.aload_n 0, 1) := by decide +kernel
theorem dJx35411_checkForComodification_da8c8_8 : decode cJx35411_checkForComodification_da8c8 8 = .ok (.getfield 22, 3) := by decide +kernel
theorem dJx35411_checkForComodification_da8c8_11 : decode cJx35411_checkForComodification_da8c8 11 = .ok (.if_icmp .eq 11, 3) := by decide +kernel
theorem dJx35411_checkForComodification_da8c8_14 : decode cJx35411_checkForComodification_da8c8 14 = .ok (.new 41, 3) := by decide +kernel
theorem dJx35411_checkForComodification_da8c8_17 : decode cJx35411_checkForComodification_da8c8 17 = .ok (.dup, 1) := by decide +kernel
theorem dJx35411_checkForComodification_da8c8_18 : decode cJx35411_checkForComodification_da8c8 18 = .ok (.invokespecial 43, 3) := by decide +kernel
theorem dJx35411_checkForComodification_da8c8_21 : decode cJx35411_checkForComodification_da8c8 21 = .ok (.athrow, 1) := by decide +kernel
theorem dJx35411_checkForComodification_da8c8_22 : decode cJx35411_checkForComodification_da8c8 22 = .ok (.return_, 1) := by decide +kernel
theorem dJx4a65c_size_8abf5_0 : decode cJx4a65c_size_8abf5 0 = .ok (.aload_n 0, 1) := by decide +kernel
theorem dJx4a65c_size_8abf5_1 : decode cJx4a65c_size_8abf5 1 = .ok (.getfield 48, 3) := by decide +kernel
theorem dJx4a65c_size_8abf5_4 : decode cJx4a65c_size_8abf5 4 = .ok (.ireturn, 1) := by decide +kernel
theorem dJx4a65c_isEmpty_aae02_0 : decode cJx4a65c_isEmpty_aae02 0 = .ok (.aload_n 0, 1) := by decide +kernel
theorem dJx4a65c_isEmpty_aae02_1 : decode cJx4a65c_isEmpty_aae02 1 = .ok (.getfield 48, 3) := by decide +kernel
theorem dJx4a65c_isEmpty_aae02_4 : decode cJx4a65c_isEmpty_aae02 4 = .ok (.ifCond .ne 7, 3) := by decide +kernel
theorem dJx4a65c_isEmpty_aae02_7 : decode cJx4a65c_isEmpty_aae02 7 = .ok (.iconst 1, 1) := by decide +kernel
theorem dJx4a65c_isEmpty_aae02_8 : decode cJx4a65c_isEmpty_aae02 8 = .ok (.goto 4, 3) := by decide +kernel
theorem dJx4a65c_isEmpty_aae02_11 : decode cJx4a65c_isEmpty_aae02 11 = .ok (.iconst 0, 1) := by decide +kernel
theorem dJx4a65c_isEmpty_aae02_12 : decode cJx4a65c_isEmpty_aae02 12 = .ok (.ireturn, 1) := by decide +kernel
theorem dJx4a65c_elementData_915e3_0 : decode cJx4a65c_elementData_915e3 0 = .ok (.aload_n 0, 1) := by decide +kernel
theorem dJx4a65c_elementData_915e3_1 : decode cJx4a65c_elementData_915e3 1 = .ok (.getfield 9, 3) := by decide +kernel
theorem dJx4a65c_elementData_915e3_4 : decode cJx4a65c_elementData_915e3 4 = .ok (.iload_n 1, 1) := by decide +kernel
theorem dJx4a65c_elementData_915e3_5 : decode cJx4a65c_elementData_915e3 5 = .ok (.aaload, 1) := by decide +kernel
theorem dJx4a65c_elementData_915e3_6 : decode cJx4a65c_elementData_915e3 6 = .ok (.areturn, 1) := by decide +kernel
theorem dJx4a65c_get_915e3_0 : decode cJx4a65c_get_915e3 0 = .ok (.iload_n 1, 1) := by decide +kernel
theorem dJx4a65c_get_915e3_1 : decode cJx4a65c_get_915e3 1 = .ok (.aload_n 0, 1) := by decide +kernel
theorem dJx4a65c_get_915e3_2 : decode cJx4a65c_get_915e3 2 = .ok (.getfield 48, 3) := by decide +kernel
theorem dJx4a65c_get_915e3_5 : decode cJx4a65c_get_915e3 5 = .ok (.invokestatic 118, 3) := by decide +kernel
theorem dJx4a65c_get_915e3_8 : decode cJx4a65c_get_915e3 8 = .ok (.pop, 1) := by decide +kernel
theorem dJx4a65c_get_915e3_9 : decode cJx4a65c_get_915e3 9 = .ok (.aload_n 0, 1) := by decide +kernel
theorem dJx4a65c_get_915e3_10 : decode cJx4a65c_get_915e3 10 = .ok (.iload_n 1, 1) := by decide +kernel
theorem dJx4a65c_get_915e3_11 : decode cJx4a65c_get_915e3 11 = .ok (.invokevirtual 123, 3) := by decide +kernel
theorem dJx4a65c_get_915e3_14 : decode cJx4a65c_get_915e3 14 = .ok (.areturn, 1) := by decide +kernel
theorem dJx4a65c_iterator_32c93_0 : decode cJx4a65c_iterator_32c93 0 = .ok (.new 267, 3) := by decide +kernel
theorem dJx4a65c_iterator_32c93_3 : decode cJx4a65c_iterator_32c93 3 = .ok (.dup, 1) := by decide +kernel
theorem dJx4a65c_iterator_32c93_4 : decode cJx4a65c_iterator_32c93 4 = .ok (.aload_n 0, 1) := by decide +kernel
theorem dJx4a65c_iterator_32c93_5 : decode cJx4a65c_iterator_32c93 5 = .ok (.invokespecial 269, 3) := by decide +kernel
theorem dJx4a65c_iterator_32c93_8 : decode cJx4a65c_iterator_32c93 8 = .ok (.areturn, 1) := by decide +kernel
theorem dJ15_checkIndex_7cf53_0 : decode cJ15_checkIndex_7cf53 0 = .ok (.iload_n 0, 1) := by decide +kernel
theorem dJ15_checkIndex_7cf53_1 : decode cJ15_checkIndex_7cf53 1 = .ok (.iload_n 1, 1) := by decide +kernel
theorem dJ15_checkIndex_7cf53_2 : decode cJ15_checkIndex_7cf53 2 = .ok (.aconst_null, 1) := by decide +kernel
theorem dJ15_checkIndex_7cf53_3 : decode cJ15_checkIndex_7cf53 3 = .ok (.invokestatic 105, 3) := by decide +kernel
theorem dJ15_checkIndex_7cf53_6 : decode cJ15_checkIndex_7cf53 6 = .ok (.ireturn, 1) := by decide +kernel
abbrev rmJx4a65c_size_8abf5 : Room := { frames := 1, cells := 0, slots := 0, locals := 20 }
theorem mJx4a65c_size_8abf5 {l : Launch} {G : Cx} {A : Nat → Prop} {pa ed n : Nat} {md : Int32} (hn : n < 2 ^ 31) : Met l yJx4a65c_size_8abf5 (.code yJx4a65c_size_8abf5 cJx4a65c_size_8abf5 1 (some .int) :: GW) rmJx4a65c_size_8abf5 (PC G A [.ref pa] (fun H => va_at G.1 vwCl (pa, .inr (3, [.int md, .ref ed, .int (nI n)])) H)) (vp_Si (fun r => r = nI n)) 0 0 (fun _ => False) := by
  refine mstart "java/util/ArrayList" (by decide +kernel) rfl (Nat.le_of_ble_eq_true rfl) ?_
  intro p e s m below meth c ls hx hb hr hts hown hml hlocks hname hC hA hW hl
  have hl : lv_has ls 1 [(0, .ref pa)] := hl
  have hK := hC.1
  have hS : va_S A s.heap s.heap [] := va_S.rf
  have hO := hW
  refine lv_aload_n hx hb dJx4a65c_size_8abf5_0 rfl (lv_at hl 0 rfl) ?_
  refine va_get (D := G.1) (ci := 3) (C := RJx4a65c) (T := TJx4a65c) (N := 3) hx hb hts inJx4a65c hown hK (at_P hO) 0 rfl rfl 2 (by decide) (hts _ tw_4_160) (fun _ h9 => h9) rfl dJx4a65c_size_8abf5_1 ?_
  exact p_i hx hb hr hlocks dJx4a65c_size_8abf5_4 rfl

abbrev rmJx4a65c_isEmpty_aae02 : Room := { frames := 1, cells := 0, slots := 0, locals := 20 }
theorem mJx4a65c_isEmpty_aae02 {l : Launch} {G : Cx} {A : Nat → Prop} {pa ed n : Nat} {md : Int32} (hn : n < 2 ^ 31) : Met l yJx4a65c_isEmpty_aae02 (.code yJx4a65c_isEmpty_aae02 cJx4a65c_isEmpty_aae02 1 (some .boolean) :: GW) rmJx4a65c_isEmpty_aae02 (PC G A [.ref pa] (fun H => va_at G.1 vwCl (pa, .inr (3, [.int md, .ref ed, .int (nI n)])) H)) (vp_Si (fun r => r = bI (decide (n = 0)))) 0 0 (fun _ => False) := by
  refine mstart "java/util/ArrayList" (by decide +kernel) rfl (Nat.le_of_ble_eq_true rfl) ?_
  intro p e s m below meth c ls hx hb hr hts hown hml hlocks hname hC hA hW hl
  have hl : lv_has ls 1 [(0, .ref pa)] := hl
  have hK := hC.1
  have hS : va_S A s.heap s.heap [] := va_S.rf
  have hO := hW
  refine lv_aload_n hx hb dJx4a65c_isEmpty_aae02_0 rfl (lv_at hl 0 rfl) ?_
  refine va_get (D := G.1) (ci := 3) (C := RJx4a65c) (T := TJx4a65c) (N := 3) hx hb hts inJx4a65c hown hK (at_P hO) 0 rfl rfl 2 (by decide) (hts _ tw_4_160) (fun _ h9 => h9) rfl dJx4a65c_isEmpty_aae02_1 ?_
  refine z_ne (tgt := 11) hx hb dJx4a65c_isEmpty_aae02_4 (by decide) (by omega) (fun c_1 => ?_) (fun c_1 => ?_)
  · refine lv_iconst (v := nI 0) hx hb dJx4a65c_isEmpty_aae02_11 (by decide) ?_
    exact p_z (b := false) hx hb hr hlocks dJx4a65c_isEmpty_aae02_12 (by rw [decide_eq_false c_1])
  · refine lv_iconst (v := nI 1) hx hb dJx4a65c_isEmpty_aae02_7 (by decide) ?_
    refine lv_goto (tgt := 12) hx hb dJx4a65c_isEmpty_aae02_8 (by decide) ?_
    exact p_z (b := true) hx hb hr hlocks dJx4a65c_isEmpty_aae02_12 (by rw [decide_eq_true c_1])

abbrev rmJx4a65c_elementData_915e3 : Room := { frames := 1, cells := 0, slots := 0, locals := 20 }
theorem mJx4a65c_elementData_915e3 {l : Launch} {G : Cx} {A : Nat → Prop} {pa ed n cap : Nat} {md : Int32} {f : Nat → Option Nat} {j q : Nat} (hj : j < n) (hnc : n ≤ cap) (hc31 : cap < 2 ^ 31) (hf : f j = some q) : Met l yJx4a65c_elementData_915e3 (.code yJx4a65c_elementData_915e3 cJx4a65c_elementData_915e3 2 (some (.object "java/lang/Object")) :: GW) rmJx4a65c_elementData_915e3 (PC G A [.ref pa, .int (nI j)] (fun H => va_at G.1 vwCl (pa, .inr (3, [.int md, .ref ed, .int (nI n)])) H ∧ va_at G.1 vwCl (ed, .inl (G.2.1 5, cap, .inr (.inr (.inr (.inr f))))) H)) (pR (fun r => r = q)) 0 0 (fun _ => False) := by
  refine mstart "java/util/ArrayList" (by decide +kernel) rfl (Nat.le_of_ble_eq_true rfl) ?_
  intro p e s m below meth c ls hx hb hr hts hown hml hlocks hname hC hA hW hl
  have hl : lv_has ls 2 [(0, .ref pa), (1, .int (nI j))] := hl
  have hK := hC.1
  have hS : va_S A s.heap s.heap [] := va_S.rf
  obtain ⟨hO, hE⟩ := hW
  refine lv_aload_n hx hb dJx4a65c_elementData_915e3_0 rfl (lv_at hl 0 rfl) ?_
  refine va_get (D := G.1) (ci := 3) (C := RJx4a65c) (T := TJx4a65c) (N := 3) hx hb hts inJx4a65c hown hK (at_P hO) 0 rfl rfl 1 (by decide) (hts _ tw_4_157) (fun _ h9 => h9) rfl dJx4a65c_elementData_915e3_1 ?_
  refine lv_iload_n hx hb dJx4a65c_elementData_915e3_4 rfl (lv_at hl 1 rfl) ?_
  refine va_aldq (D := G.1) hx hb hK (at_P hE) 0 5 rfl rfl (vp_in_nI (n := j) (N := cap) (by omega) (by omega)) dJx4a65c_elementData_915e3_5 ?_
  refine v_cv (show va_rf _ = .ref q from by rw [nI_clamp (n := j) (by omega), hf]; rfl) ?_
  exact p_a hx hb hr (Or.inl ⟨_, rfl⟩) hlocks dJx4a65c_elementData_915e3_6 rfl

abbrev rmJ15_checkIndex_7cf53 : Room := { frames := 1, cells := 0, slots := 0, locals := 22 }
theorem mJ15_checkIndex_7cf53 {l : Launch} {G : Cx} {A : Nat → Prop} {j n : Nat} (hj : j < n) (hn : n < 2 ^ 31) : Met l yJ15_checkIndex_7cf53 (.code yJ15_checkIndex_7cf53 cJ15_checkIndex_7cf53 2 (some .int) :: GW) rmJ15_checkIndex_7cf53 (PC G A [.int (nI j), .int (nI n)] (fun _ => True)) (vp_Si (fun r => r = nI j)) 0 0 (fun _ => False) := by
  refine mstart "java/util/Objects" (by decide +kernel) rfl (Nat.le_of_ble_eq_true rfl) ?_
  intro p e s m below meth c ls hx hb hr hts hown hml hlocks hname hC hA hW hl
  have hl : lv_has ls 2 [(0, .int (nI j)), (1, .int (nI n))] := hl
  have hK := hC.1
  have hS : va_S A s.heap s.heap [] := va_S.rf
  refine lv_iload_n hx hb dJ15_checkIndex_7cf53_0 rfl (lv_at hl 0 rfl) ?_
  refine lv_iload_n hx hb dJ15_checkIndex_7cf53_1 rfl (lv_at hl 1 rfl) ?_
  refine lv_null hx hb dJ15_checkIndex_7cf53_2 ?_
  refine kS_i (A := A) (As := [.int (nI j), .int (nI n), .null]) (rest := []) ⟨hx, hb, hml, hown, hts⟩ (mJ3_checkIndex_8e157_n (fa := 0) (A := A) hj hn) (va_cwS 3 hts (gS tw_5_159 tw_1_112 tw_1_6 tw_1_113) rfl rfl rfl (by decide +kernel) ⟨Nat.le_of_ble_eq_true rfl, Nat.le_of_ble_eq_true rfl⟩) hC hS hA  trivial rfl rfl hl.1 (Nat.le_of_ble_eq_true rfl) ⟨Nat.zero_le _, Nat.zero_le _⟩ dJ15_checkIndex_7cf53_3 (fun r9 h9 => lv_cv h9 ?_)
  exact p_i hx hb hr hlocks dJ15_checkIndex_7cf53_6 rfl

abbrev rmJx4a65c_get_915e3 : Room := { frames := 2, cells := 0, slots := 0, locals := 43 }
theorem mJx4a65c_get_915e3 {l : Launch} {G : Cx} {A : Nat → Prop} {pa ed n cap : Nat} {md : Int32} {f : Nat → Option Nat} {j q : Nat} (hj : j < n) (hnc : n ≤ cap) (hc31 : cap < 2 ^ 31) (hf : f j = some q) : Met l yJx4a65c_get_915e3 (.code yJx4a65c_get_915e3 cJx4a65c_get_915e3 2 (some (.object "java/lang/Object")) :: GW) rmJx4a65c_get_915e3 (PC G A [.ref pa, .int (nI j)] (fun H => va_at G.1 vwCl (pa, .inr (3, [.int md, .ref ed, .int (nI n)])) H ∧ va_at G.1 vwCl (ed, .inl (G.2.1 5, cap, .inr (.inr (.inr (.inr f))))) H)) (pR (fun r => r = q)) 0 0 (fun _ => False) := by
  refine mstart "java/util/ArrayList" (by decide +kernel) rfl (Nat.le_of_ble_eq_true rfl) ?_
  intro p e s m below meth c ls hx hb hr hts hown hml hlocks hname hC hA hW hl
  have hl : lv_has ls 2 [(0, .ref pa), (1, .int (nI j))] := hl
  have hK := hC.1
  have hS : va_S A s.heap s.heap [] := va_S.rf
  obtain ⟨hO, hE⟩ := hW
  refine lv_iload_n hx hb dJx4a65c_get_915e3_0 rfl (lv_at hl 1 rfl) ?_
  refine lv_aload_n hx hb dJx4a65c_get_915e3_1 rfl (lv_at hl 0 rfl) ?_
  refine va_get (D := G.1) (ci := 3) (C := RJx4a65c) (T := TJx4a65c) (N := 3) hx hb hts inJx4a65c hown hK (at_P hO) 0 rfl rfl 2 (by decide) (hts _ tw_4_160) (fun _ h9 => h9) rfl dJx4a65c_get_915e3_2 ?_
  refine kS_i (A := A) (As := [.int (nI j), .int (nI n)]) (rest := []) ⟨hx, hb, hml, hown, hts⟩ (mJ15_checkIndex_7cf53 (A := A) hj (by omega)) (va_cwS 2 hts (gS tw_5_156 tw_5_157 tw_1_23 tw_5_158) rfl rfl rfl (by decide +kernel) ⟨Nat.le_of_ble_eq_true rfl, Nat.le_of_ble_eq_true rfl⟩) hC hS hA  trivial rfl rfl hl.1 (Nat.le_of_ble_eq_true rfl) ⟨Nat.zero_le _, Nat.zero_le _⟩ dJx4a65c_get_915e3_5 (fun r9 h9 => lv_cv h9 ?_)
  refine lv_pop hx hb dJx4a65c_get_915e3_8 rfl ?_
  refine lv_aload_n hx hb dJx4a65c_get_915e3_9 rfl (lv_at hl 0 rfl) ?_
  refine lv_iload_n hx hb dJx4a65c_get_915e3_10 rfl (lv_at hl 1 rfl) ?_
  refine kV_a (A := A) (b := pa) (As := [.int (nI j)]) (rest := []) ⟨hx, hb, hml, hown, hts⟩ (mJx4a65c_elementData_915e3 (A := A) hj hnc hc31 hf) (cwV 1 hts (gV tw_5_160 tw_5_161 tw_5_162 tw_1_11 tw_5_163) rfl rfl rfl (by decide +kernel) ⟨Nat.le_of_ble_eq_true rfl, Nat.le_of_ble_eq_true rfl⟩) hC hS hA (at_recv hK hO (q := (RJx4a65c, TJx4a65c, 3)) rfl) ⟨hO, hE⟩ rfl rfl hl.1 (Nat.le_of_ble_eq_true rfl) ⟨Nat.zero_le _, Nat.zero_le _⟩ dJx4a65c_get_915e3_11 (fun a_2 ha_2 => ?_)
  obtain rfl : a_2 = q := ha_2
  exact p_a hx hb hr (Or.inl ⟨_, rfl⟩) hlocks dJx4a65c_get_915e3_14 rfl

abbrev rmJx35411_hasNext_aae02 : Room := { frames := 1, cells := 0, slots := 0, locals := 20 }
theorem mJx35411_hasNext_aae02 {l : Launch} {G : Cx} {A : Nat → Prop} {ia pa ed n cu : Nat} {md lr : Int32} (hn : n < 2 ^ 31) (hcu : cu < 2 ^ 31) : Met l yJx35411_hasNext_aae02 (.code yJx35411_hasNext_aae02 cJx35411_hasNext_aae02 1 (some .boolean) :: GW) rmJx35411_hasNext_aae02 (PC G A [.ref ia] (fun H => va_at G.1 vwCl (ia, .inr (2, [.int (nI cu), .int lr, .int md, .ref pa])) H ∧ va_at G.1 vwCl (pa, .inr (3, [.int md, .ref ed, .int (nI n)])) H)) (vp_Si (fun r => r = bI (decide (cu ≠ n)))) 0 0 (fun _ => False) := by
  refine mstart "java/util/ArrayList$Itr" (by decide +kernel) rfl (Nat.le_of_ble_eq_true rfl) ?_
  intro p e s m below meth c ls hx hb hr hts hown hml hlocks hname hC hA hW hl
  have hl : lv_has ls 1 [(0, .ref ia)] := hl
  have hK := hC.1
  have hS : va_S A s.heap s.heap [] := va_S.rf
  obtain ⟨hI, hO⟩ := hW
  refine lv_aload_n hx hb dJx35411_hasNext_aae02_0 rfl (lv_at hl 0 rfl) ?_
  refine va_get (D := G.1) (ci := 2) (C := RJx35411) (T := TJx35411) (N := 4) hx hb hts inJx35411 hown hK (at_P hI) 0 rfl rfl 0 (by decide) (hts _ tw_7_45) (fun _ h9 => h9) rfl dJx35411_hasNext_aae02_1 ?_
  refine lv_aload_n hx hb dJx35411_hasNext_aae02_4 rfl (lv_at hl 0 rfl) ?_
  refine va_get (D := G.1) (ci := 2) (C := RJx35411) (T := TJx35411) (N := 4) hx hb hts inJx35411 hown hK (at_P hI) 0 rfl rfl 3 (by decide) (hts _ tw_7_48) (fun _ h9 => h9) rfl dJx35411_hasNext_aae02_5 ?_
  refine va_getN (D := G.1) (ci := 3) (C := RJx4a65c) (T := TJx4a65c) (N := 3) hx hb hts inJx4a65c hown hK (at_P hO) 0 rfl rfl 2 (by decide) (va_Nw.use rfl hC.2.2.2.2.2.2.2.2.2.2.2.2.1) (fun _ h9 => h9) rfl dJx35411_hasNext_aae02_8 ?_
  refine b_eq (tgt := 18) hx hb dJx35411_hasNext_aae02_11 (by decide) (by omega) (by omega) (fun c_3 => ?_) (fun c_3 => ?_)
  · refine lv_iconst (v := nI 0) hx hb dJx35411_hasNext_aae02_18 (by decide) ?_
    exact p_z (b := false) hx hb hr hlocks dJx35411_hasNext_aae02_19 (by rw [decide_eq_false (fun q => q c_3)])
  · refine lv_iconst (v := nI 1) hx hb dJx35411_hasNext_aae02_14 (by decide) ?_
    refine lv_goto (tgt := 19) hx hb dJx35411_hasNext_aae02_15 (by decide) ?_
    exact p_z (b := true) hx hb hr hlocks dJx35411_hasNext_aae02_19 (by rw [decide_eq_true c_3])

abbrev rmJx35411_checkForComodification_da8c8 : Room := { frames := 1, cells := 0, slots := 0, locals := 20 }
theorem mJx35411_checkForComodification_da8c8 {l : Launch} {G : Cx} {A : Nat → Prop} {ia pa ed n cu : Nat} {md lr : Int32} : Met l yJx35411_checkForComodification_da8c8 (.code yJx35411_checkForComodification_da8c8 cJx35411_checkForComodification_da8c8 1 (none : Option Jvm.ClassFile.FieldType) :: GW) rmJx35411_checkForComodification_da8c8 (PC G A [.ref ia] (fun H => va_at G.1 vwCl (ia, .inr (2, [.int (nI cu), .int lr, .int md, .ref pa])) H ∧ va_at G.1 vwCl (pa, .inr (3, [.int md, .ref ed, .int (nI n)])) H)) (pV) 0 0 (fun _ => False) := by
  refine mstart "java/util/ArrayList$Itr" (by decide +kernel) rfl (Nat.le_of_ble_eq_true rfl) ?_
  intro p e s m below meth c ls hx hb hr hts hown hml hlocks hname hC hA hW hl
  have hl : lv_has ls 1 [(0, .ref ia)] := hl
  have hK := hC.1
  have hS : va_S A s.heap s.heap [] := va_S.rf
  obtain ⟨hI, hO⟩ := hW
  refine lv_aload_n hx hb dJx35411_checkForComodification_da8c8_0 rfl (lv_at hl 0 rfl) ?_
  refine va_get (D := G.1) (ci := 2) (C := RJx35411) (T := TJx35411) (N := 4) hx hb hts inJx35411 hown hK (at_P hI) 0 rfl rfl 3 (by decide) (hts _ tw_7_48) (fun _ h9 => h9) rfl dJx35411_checkForComodification_da8c8_1 ?_
  refine va_get (D := G.1) (ci := 3) (C := RJx4a65c) (T := TJx4a65c) (N := 3) hx hb hts inJx4a65c hown hK (at_P hO) 0 rfl rfl 0 (by decide) (hts _ tw_4_162) (fun x9 h9 => u_same (hts _ tw_4_163) x9 h9) rfl dJx35411_checkForComodification_da8c8_4 ?_
  refine lv_aload_n hx hb dJx35411_checkForComodification_da8c8_7 rfl (lv_at hl 0 rfl) ?_
  refine va_get (D := G.1) (ci := 2) (C := RJx35411) (T := TJx35411) (N := 4) hx hb hts inJx35411 hown hK (at_P hI) 0 rfl rfl 2 (by decide) (hts _ tw_7_47) (fun _ h9 => h9) rfl dJx35411_checkForComodification_da8c8_8 ?_
  refine lv_icmp_eq (tgt := 22) hx hb dJx35411_checkForComodification_da8c8_11 (by decide) (fun c_4 => ?_) (fun c_4 => ?_)
  · exact p_v hx hb hr hlocks dJx35411_checkForComodification_da8c8_22
  · exact absurd rfl c_4

abbrev rmJx35411_init_45d68 : Room := { frames := 1, cells := 0, slots := 0, locals := 20 }
theorem mJx35411_init_45d68 {l : Launch} {G : Cx} {A : Nat → Prop} {ia pa ed n : Nat} {md : Int32} (hAi : A ia) (hne : pa ≠ ia) : Met l yJx35411_init_45d68 (.code yJx35411_init_45d68 cJx35411_init_45d68 2 (none : Option Jvm.ClassFile.FieldType) :: GW) rmJx35411_init_45d68 (PC G A [.ref ia, .ref pa] (fun H => va_at G.1 vwCl (ia, .inr (2, [.int 0, .int 0, .int 0, .null])) H ∧ va_at G.1 vwCl (pa, .inr (3, [.int md, .ref ed, .int (nI n)])) H)) (qV A (fun H => va_at G.1 vwCl (ia, .inr (2, [.int 0, .int (-1), .int md, .ref pa])) H ∧ va_at G.1 vwCl (pa, .inr (3, [.int md, .ref ed, .int (nI n)])) H)) 0 0 (A) := by
  refine mstart "java/util/ArrayList$Itr" (by decide +kernel) rfl (Nat.le_of_ble_eq_true rfl) ?_
  intro p e s m below meth c ls hx hb hr hts hown hml hlocks hname hC hA hW hl
  have hl : lv_has ls 2 [(0, .ref ia), (1, .ref pa)] := hl
  have hK := hC.1
  have hS : va_S A s.heap s.heap [] := va_S.rf
  obtain ⟨hI, hO⟩ := hW
  refine lv_aload_n hx hb dJx35411_init_45d68_0 rfl (lv_at hl 0 rfl) ?_
  refine lv_aload_n hx hb dJx35411_init_45d68_1 rfl (lv_at hl 1 rfl) ?_
  refine h_putF (D := G.1) (ci := 2) (C := RJx35411) (T := TJx35411) (N := 4) hx hb hts inJx35411 tyJx35411 tyJx35411_ok nmJx35411 hown hK hI hS hAi rfl 3 (by decide) (hts _ tw_7_48) (fun _ h9 => h9) rfl hname rfl (tyJx35411_ok 3 (by decide)) rfl rfl (Nat.le_of_ble_eq_true rfl) dJx35411_init_45d68_2 (fun H5 L5 hI z5 o5 hS => ?_)
  have hI : va_at G.1 vwCl (ia, .inr (2, [.int 0, .int 0, .int 0, .ref pa])) H5 := hI
  have hO := at_o hO o5 hne
  have hZ5 := hS.1
  refine lv_aload_n hx hb dJx35411_init_45d68_5 rfl (lv_at hl 0 rfl) ?_
  refine W.objInit hx hb hown (hts _ tw_7_44) (hts _ tw_1_35) (hts _ tw_1_36) rfl (by rw [hml]; exact hl.1) rfl dJx35411_init_45d68_6 (Nat.le_of_ble_eq_true rfl) (Nat.le_of_ble_eq_true rfl) ?_
  refine W.eq (g2 := F0 m 9 ls []) rfl ?_
  refine lv_aload_n hx hb dJx35411_init_45d68_9 rfl (lv_at hl 0 rfl) ?_
  refine lv_iconst (v := (-1)) hx hb dJx35411_init_45d68_10 (by decide) ?_
  refine h_put (D := G.1) (ci := 2) (C := RJx35411) (T := TJx35411) (N := 4) hx hb hts inJx35411 tyJx35411 tyJx35411_ok nmJx35411 hown hK hI hS hAi rfl 1 (by decide) (hts _ tw_7_46) (fun _ h9 => h9) rfl (tyJx35411_ok 1 (by decide)) rfl rfl (Nat.le_of_ble_eq_true rfl) dJx35411_init_45d68_11 (fun H6 L6 hI z6 o6 hS => ?_)
  have hI : va_at G.1 vwCl (ia, .inr (2, [.int 0, .int (-1), .int 0, .ref pa])) H6 := hI
  have hO := at_o hO o6 hne
  have hZ6 := hS.1
  refine lv_aload_n hx hb dJx35411_init_45d68_14 rfl (lv_at hl 0 rfl) ?_
  refine lv_aload_n hx hb dJx35411_init_45d68_15 rfl (lv_at hl 0 rfl) ?_
  refine va_get (D := G.1) (ci := 2) (C := RJx35411) (T := TJx35411) (N := 4) hx hb hts inJx35411 hown hK (at_P hI) 0 rfl rfl 3 (by decide) (hts _ tw_7_48) (fun _ h9 => h9) rfl dJx35411_init_45d68_16 ?_
  refine va_get (D := G.1) (ci := 3) (C := RJx4a65c) (T := TJx4a65c) (N := 3) hx hb hts inJx4a65c hown hK (at_P hO) 0 rfl rfl 0 (by decide) (hts _ tw_4_162) (fun x9 h9 => u_same (hts _ tw_4_163) x9 h9) rfl dJx35411_init_45d68_19 ?_
  refine h_put (D := G.1) (ci := 2) (C := RJx35411) (T := TJx35411) (N := 4) hx hb hts inJx35411 tyJx35411 tyJx35411_ok nmJx35411 hown hK hI hS hAi rfl 2 (by decide) (hts _ tw_7_47) (fun _ h9 => h9) rfl (tyJx35411_ok 2 (by decide)) rfl rfl (Nat.le_of_ble_eq_true rfl) dJx35411_init_45d68_22 (fun H7 L7 hI z7 o7 hS => ?_)
  have hI : va_at G.1 vwCl (ia, .inr (2, [.int 0, .int (-1), .int md, .ref pa])) H7 := hI
  have hO := at_o hO o7 hne
  have hZ7 := hS.1
  exact q_v hx hb hr hlocks dJx35411_init_45d68_25 hS (Nat.le_refl _) (Nat.le_refl _) ⟨hI, hO⟩

abbrev rmJx4a65c_iterator_32c93 : Room := { frames := 2, cells := 1, slots := 4, locals := 41 }
theorem mJx4a65c_iterator_32c93 {l : Launch} {G : Cx} {A : Nat → Prop} {pa ed n : Nat} {md : Int32} : Met l yJx4a65c_iterator_32c93 (.code yJx4a65c_iterator_32c93 cJx4a65c_iterator_32c93 1 (some (.object "java/util/Iterator")) :: GW) rmJx4a65c_iterator_32c93 (PC G A [.ref pa] (fun H => va_at G.1 vwCl (pa, .inr (3, [.int md, .ref ed, .int (nI n)])) H)) (qR A (fun ia H => A ia ∧ va_at G.1 vwCl (ia, .inr (2, [.int 0, .int (-1), .int md, .ref pa])) H ∧ va_at G.1 vwCl (pa, .inr (3, [.int md, .ref ed, .int (nI n)])) H)) 1 4 (A) := by
  refine mstart "java/util/ArrayList" (by decide +kernel) rfl (Nat.le_of_ble_eq_true rfl) ?_
  intro p e s m below meth c ls hx hb hr hts hown hml hlocks hname hC hA hW hl
  have hl : lv_has ls 1 [(0, .ref pa)] := hl
  have hK := hC.1
  have hS : va_S A s.heap s.heap [] := va_S.rf
  have hO := hW
  refine h_new (D := G.1) (C := RJx35411) (T := TJx35411) (N := 4) (ci := 2) (fs := [.int 0, .int 0, .int 0, .null]) hx hb hts inJx35411 tyJx35411 tyJx35411_ok hown (hts _ tw_7_39) (hts _ tw_7_40) (hts _ tw_1_28) hK hS rfl (fun j hj => match j, hj with | 0, _ => rfl | 1, _ => rfl | 2, _ => rfl | 3, _ => rfl) (Nat.le_trans (show 0 + 1 ≤ 1 by omega) (Nat.le_of_ble_eq_true rfl)) (Nat.le_trans (show 0 + 4 ≤ 4 by omega) (Nat.le_of_ble_eq_true rfl)) dJx4a65c_iterator_32c93_0 (fun ia H8 hia hOia z8 o8 hS => ?_)
  have n8hO : pa ≠ ia := fun q => absurd hO.lt (by rw [q, hia]; exact Nat.lt_irrefl _)
  have hO := at_n hO o8
  have hZ8 := hS.1
  have hMia : A ia := hA ia (by omega)
  refine lv_dup hx hb dJx4a65c_iterator_32c93_3 rfl ?_
  refine lv_aload_n hx hb dJx4a65c_iterator_32c93_4 rfl (lv_at hl 0 rfl) ?_
  refine qV_I (A := A) (A1 := ow ia ia H8.size) (b := ia) (As := [.ref pa]) (rest := .ref ia :: []) ⟨hx, hb, hml, hown, hts⟩ (mJx35411_init_45d68 (A := ow ia ia H8.size) (md := md) (n := n) (ed := ed) (Or.inl rfl) n8hO) (cwI 1 hts (gI tw_7_43) rfl rfl rfl (hts _ tw_1_28) (hts _ tw_7_41) (hts _ tw_7_42) rfl (by decide +kernel) ⟨Nat.le_of_ble_eq_true rfl, Nat.le_of_ble_eq_true rfl⟩) hC hS (ow_in hMia hMia hA (by omega)) ow_n  ⟨hOia, hO⟩ rfl rfl hl.1 (Nat.le_of_ble_eq_true rfl) ⟨Nat.le_trans (show (0 + 1) ≤ 1 by omega) (Nat.le_of_ble_eq_true rfl), Nat.le_trans (show (0 + 4) ≤ 4 by omega) (Nat.le_of_ble_eq_true rfl)⟩ dJx4a65c_iterator_32c93_5 (fun H9 L9 hP9 hk9 hS => ?_)
  have hZ9 := hS.1
  exact q_a hx hb hr (Or.inl ⟨_, rfl⟩) hlocks dJx4a65c_iterator_32c93_8 hS (by omega) (by omega) ⟨hMia, hP9⟩

abbrev rmJx35411_next_0502b : Room := { frames := 2, cells := 0, slots := 0, locals := 40 }
theorem mJx35411_next_0502b {l : Launch} {G : Cx} {A : Nat → Prop} {ia pa ed n cap cu q : Nat} {md lr : Int32} {f : Nat → Option Nat} (hAi : A ia) (hj : cu < n) (hnc : n ≤ cap) (hc31 : cap < 2 ^ 31) (hf : f cu = some q) (d1 : pa ≠ ia) (d2 : ed ≠ ia) : Met l yJx35411_next_0502b (.code yJx35411_next_0502b cJx35411_next_0502b 3 (some (.object "java/lang/Object")) :: GW) rmJx35411_next_0502b (PC G A [.ref ia] (fun H => va_at G.1 vwCl (ia, .inr (2, [.int (nI cu), .int lr, .int md, .ref pa])) H ∧ va_at G.1 vwCl (pa, .inr (3, [.int md, .ref ed, .int (nI n)])) H ∧ va_at G.1 vwCl (ed, .inl (G.2.1 5, cap, .inr (.inr (.inr (.inr f))))) H)) (qR A (fun r H => r = q ∧ va_at G.1 vwCl (ia, .inr (2, [.int (nI (cu + 1)), .int (nI cu), .int md, .ref pa])) H ∧ va_at G.1 vwCl (pa, .inr (3, [.int md, .ref ed, .int (nI n)])) H ∧ va_at G.1 vwCl (ed, .inl (G.2.1 5, cap, .inr (.inr (.inr (.inr f))))) H)) 0 0 (A) := by
  refine mstart "java/util/ArrayList$Itr" (by decide +kernel) rfl (Nat.le_of_ble_eq_true rfl) ?_
  intro p e s m below meth c ls hx hb hr hts hown hml hlocks hname hC hA hW hl
  have hl : lv_has ls 3 [(0, .ref ia)] := hl
  have hK := hC.1
  have hS : va_S A s.heap s.heap [] := va_S.rf
  obtain ⟨hI, hO, hE⟩ := hW
  refine lv_aload_n hx hb dJx35411_next_0502b_0 rfl (lv_at hl 0 rfl) ?_
  refine kV_v (A := A) (b := ia) (As := []) (rest := []) ⟨hx, hb, hml, hown, hts⟩ (mJx35411_checkForComodification_da8c8 (A := A) (cu := cu) (lr := lr) (md := md) (ed := ed) (n := n)) (cwV 0 hts (gV tw_7_77 tw_7_78 tw_7_79 tw_1_28 tw_7_80) rfl rfl rfl (by decide +kernel) ⟨Nat.le_of_ble_eq_true rfl, Nat.le_of_ble_eq_true rfl⟩) hC hS hA (at_recv hK hI (q := (RJx35411, TJx35411, 4)) rfl) ⟨hI, hO⟩ rfl rfl hl.1 (Nat.le_of_ble_eq_true rfl) ⟨Nat.zero_le _, Nat.zero_le _⟩ dJx35411_next_0502b_1 ?_
  refine lv_aload_n hx hb dJx35411_next_0502b_4 rfl (lv_at hl 0 rfl) ?_
  refine va_get (D := G.1) (ci := 2) (C := RJx35411) (T := TJx35411) (N := 4) hx hb hts inJx35411 hown hK (at_P hI) 0 rfl rfl 0 (by decide) (hts _ tw_7_45) (fun _ h9 => h9) rfl dJx35411_next_0502b_5 ?_
  refine lv_istore_n (lv' := [(1, .int (nI cu)), (0, .ref ia)]) hx hb dJx35411_next_0502b_8 rfl hl (by decide) rfl (fun ls hl => ?_)
  refine lv_iload_n hx hb dJx35411_next_0502b_9 rfl (lv_at hl 0 rfl) ?_
  refine lv_aload_n hx hb dJx35411_next_0502b_10 rfl (lv_at hl 1 rfl) ?_
  refine va_get (D := G.1) (ci := 2) (C := RJx35411) (T := TJx35411) (N := 4) hx hb hts inJx35411 hown hK (at_P hI) 0 rfl rfl 3 (by decide) (hts _ tw_7_48) (fun _ h9 => h9) rfl dJx35411_next_0502b_11 ?_
  refine va_getN (D := G.1) (ci := 3) (C := RJx4a65c) (T := TJx4a65c) (N := 3) hx hb hts inJx4a65c hown hK (at_P hO) 0 rfl rfl 2 (by decide) (va_Nw.use rfl hC.2.2.2.2.2.2.2.2.2.2.2.2.1) (fun _ h9 => h9) rfl dJx35411_next_0502b_14 ?_
  refine b_lt (tgt := 28) hx hb dJx35411_next_0502b_17 (by decide) (by omega) (by omega) (fun c_10 => ?_) (fun c_10 => ?_)
  · refine lv_aload_n hx hb dJx35411_next_0502b_28 rfl (lv_at hl 1 rfl) ?_
    refine va_get (D := G.1) (ci := 2) (C := RJx35411) (T := TJx35411) (N := 4) hx hb hts inJx35411 hown hK (at_P hI) 0 rfl rfl 3 (by decide) (hts _ tw_7_48) (fun _ h9 => h9) rfl dJx35411_next_0502b_29 ?_
    refine va_get (D := G.1) (ci := 3) (C := RJx4a65c) (T := TJx4a65c) (N := 3) hx hb hts inJx4a65c hown hK (at_P hO) 0 rfl rfl 1 (by decide) (hts _ tw_4_158) (fun _ h9 => h9) rfl dJx35411_next_0502b_32 ?_
    refine lv_astore_n (lv' := [(2, .ref ed), (1, .int (nI cu)), (0, .ref ia)]) hx hb dJx35411_next_0502b_35 rfl hl (by decide) rfl (fun ls hl => ?_)
    refine lv_iload_n hx hb dJx35411_next_0502b_36 rfl (lv_at hl 1 rfl) ?_
    refine lv_aload_n hx hb dJx35411_next_0502b_37 rfl (lv_at hl 0 rfl) ?_
    refine va_alen hx hb hK (at_P hE) 0 5 (v := nI cap) rfl rfl rfl dJx35411_next_0502b_38 ?_
    refine b_lt (tgt := 50) hx hb dJx35411_next_0502b_39 (by decide) (by omega) (by omega) (fun c_11 => ?_) (fun c_11 => ?_)
    · refine lv_aload_n hx hb dJx35411_next_0502b_50 rfl (lv_at hl 2 rfl) ?_
      refine lv_iload_n hx hb dJx35411_next_0502b_51 rfl (lv_at hl 1 rfl) ?_
      refine lv_iconst (v := nI 1) hx hb dJx35411_next_0502b_52 (by decide) ?_
      refine lv_iadd hx hb dJx35411_next_0502b_53 ?_
      refine lv_cv (nI_add cu 1) ?_
      refine h_put (D := G.1) (ci := 2) (C := RJx35411) (T := TJx35411) (N := 4) hx hb hts inJx35411 tyJx35411 tyJx35411_ok nmJx35411 hown hK hI hS hAi rfl 0 (by decide) (hts _ tw_7_45) (fun _ h9 => h9) rfl (tyJx35411_ok 0 (by decide)) rfl rfl (Nat.le_of_ble_eq_true rfl) dJx35411_next_0502b_54 (fun H12 L12 hI z12 o12 hS => ?_)
      have hI : va_at G.1 vwCl (ia, .inr (2, [.int (nI (cu + 1)), .int lr, .int md, .ref pa])) H12 := hI
      have hO := at_o hO o12 d1
      have hE := at_o hE o12 d2
      have hZ12 := hS.1
      refine lv_aload_n hx hb dJx35411_next_0502b_57 rfl (lv_at hl 0 rfl) ?_
      refine lv_aload_n hx hb dJx35411_next_0502b_58 rfl (lv_at hl 2 rfl) ?_
      refine lv_iload_n hx hb dJx35411_next_0502b_59 rfl (lv_at hl 1 rfl) ?_
      refine lv_dup_x1 hx hb dJx35411_next_0502b_60 rfl rfl ?_
      refine h_put (D := G.1) (ci := 2) (C := RJx35411) (T := TJx35411) (N := 4) hx hb hts inJx35411 tyJx35411 tyJx35411_ok nmJx35411 hown hK hI hS hAi rfl 1 (by decide) (hts _ tw_7_46) (fun _ h9 => h9) rfl (tyJx35411_ok 1 (by decide)) rfl rfl (Nat.le_of_ble_eq_true rfl) dJx35411_next_0502b_61 (fun H13 L13 hI z13 o13 hS => ?_)
      have hI : va_at G.1 vwCl (ia, .inr (2, [.int (nI (cu + 1)), .int (nI cu), .int md, .ref pa])) H13 := hI
      have hO := at_o hO o13 d1
      have hE := at_o hE o13 d2
      have hZ13 := hS.1
      refine va_aldq (D := G.1) hx hb hK (at_P hE) 0 5 rfl rfl (vp_in_nI (n := cu) (N := cap) (by omega) (by omega)) dJx35411_next_0502b_64 ?_
      refine v_cv (show va_rf _ = .ref q from by rw [nI_clamp (n := cu) (by omega), hf]; rfl) ?_
      exact q_a hx hb hr (Or.inl ⟨_, rfl⟩) hlocks dJx35411_next_0502b_65 hS (Nat.le_refl _) (Nat.le_refl _) ⟨rfl, hI, hO, hE⟩
    · exact absurd c_11 (by omega)
  · exact absurd c_10 (by omega)
end
/-! 36.mod3 -/
section
/-! The model, 3: Out; more leaves -/
theorem sg_n {x : Int32} (h : x < 0) : sgI x = -1 := if_pos h
theorem sg_p {x : Int32} (h : 0 < x) : sgI x = 1 := by
  unfold sgI
  rw [if_neg (fun q => Int32.lt_irrefl (Int32.lt_trans h q)), if_neg (fun q => by rw [q] at h; exact Int32.lt_irrefl h)]
theorem sg_0 {x : Int32} (h1 : x ≤ 0) (h2 : 0 ≤ x) : sgI x = 0 := by
  have : x = 0 := Int32.le_antisymm h1 h2
  rw [this]; decide
theorem sg_p9 {x : Int32} (h1 : ¬ x = 0) (h2 : 0 ≤ x) : sgI x = 1 := by
  unfold sgI
  rw [if_neg (Int32.not_lt.mpr h2), if_neg h1]
theorem dX3_init_0 : decode cX3_init 0 = .ok (.aload_n 0, 1) := by decide +kernel
theorem dX3_init_1 : decode cX3_init 1 = .ok (.invokespecial 1, 3) := by decide +kernel
theorem dX3_init_4 : decode cX3_init 4 = .ok (.return_, 1) := by decide +kernel
theorem dX4_truth_0 : decode cX4_truth 0 = .ok (.iload_n 0, 1) := by decide +kernel
theorem dX4_truth_1 : decode cX4_truth 1 = .ok (.ifCond .eq 29, 3) := by decide +kernel
theorem dX4_truth_4 : decode cX4_truth 4 = .ok (.iconst 4, 1) := by decide +kernel
theorem dX4_truth_5 : decode cX4_truth 5 = .ok (.newarray .int, 2) := by decide +kernel
theorem dX4_truth_7 : decode cX4_truth 7 = .ok (.dup, 1) := by decide +kernel
theorem dX4_truth_8 : decode cX4_truth 8 = .ok (.iconst 0, 1) := by decide +kernel
theorem dX4_truth_9 : decode cX4_truth 9 = .ok (.bipush 116, 2) := by decide +kernel
theorem dX4_truth_11 : decode cX4_truth 11 = .ok (.iastore, 1) := by decide +kernel
theorem dX4_truth_12 : decode cX4_truth 12 = .ok (.dup, 1) := by decide +kernel
theorem dX4_truth_13 : decode cX4_truth 13 = .ok (.iconst 1, 1) := by decide +kernel
theorem dX4_truth_14 : decode cX4_truth 14 = .ok (.bipush 114, 2) := by decide +kernel
theorem dX4_truth_16 : decode cX4_truth 16 = .ok (.iastore, 1) := by decide +kernel
theorem dX4_truth_17 : decode cX4_truth 17 = .ok (.dup, 1) := by decide +kernel
theorem dX4_truth_18 : decode cX4_truth 18 = .ok (.iconst 2, 1) := by decide +kernel
theorem dX4_truth_19 : decode cX4_truth 19 = .ok (.bipush 117, 2) := by decide +kernel
theorem dX4_truth_21 : decode cX4_truth 21 = .ok (.iastore, 1) := by decide +kernel
theorem dX4_truth_22 : decode cX4_truth 22 = .ok (.dup, 1) := by decide +kernel
theorem dX4_truth_23 : decode cX4_truth 23 = .ok (.iconst 3, 1) := by decide +kernel
theorem dX4_truth_24 : decode cX4_truth 24 = .ok (.bipush 101, 2) := by decide +kernel
theorem dX4_truth_26 : decode cX4_truth 26 = .ok (.iastore, 1) := by decide +kernel
theorem dX4_truth_27 : decode cX4_truth 27 = .ok (.goto 31, 3) := by decide +kernel
theorem dX4_truth_30 : decode cX4_truth 30 = .ok (.iconst 5, 1) := by decide +kernel
theorem dX4_truth_31 : decode cX4_truth 31 = .ok (.newarray .int, 2) := by decide +kernel
theorem dX4_truth_33 : decode cX4_truth 33 = .ok (.dup, 1) := by decide +kernel
theorem dX4_truth_34 : decode cX4_truth 34 = .ok (.iconst 0, 1) := by decide +kernel
theorem dX4_truth_35 : decode cX4_truth 35 = .ok (.bipush 102, 2) := by decide +kernel
theorem dX4_truth_37 : decode cX4_truth 37 = .ok (.iastore, 1) := by decide +kernel
theorem dX4_truth_38 : decode cX4_truth 38 = .ok (.dup, 1) := by decide +kernel
theorem dX4_truth_39 : decode cX4_truth 39 = .ok (.iconst 1, 1) := by decide +kernel
theorem dX4_truth_40 : decode cX4_truth 40 = .ok (.bipush 97, 2) := by decide +kernel
theorem dX4_truth_42 : decode cX4_truth 42 = .ok (.iastore, 1) := by decide +kernel
theorem dX4_truth_43 : decode cX4_truth 43 = .ok (.dup, 1) := by decide +kernel
theorem dX4_truth_44 : decode cX4_truth 44 = .ok (.iconst 2, 1) := by decide +kernel
theorem dX4_truth_45 : decode cX4_truth 45 = .ok (.bipush 108, 2) := by decide +kernel
theorem dX4_truth_47 : decode cX4_truth 47 = .ok (.iastore, 1) := by decide +kernel
theorem dX4_truth_48 : decode cX4_truth 48 = .ok (.dup, 1) := by decide +kernel
theorem dX4_truth_49 : decode cX4_truth 49 = .ok (.iconst 3, 1) := by decide +kernel
theorem dX4_truth_50 : decode cX4_truth 50 = .ok (.bipush 115, 2) := by decide +kernel
theorem dX4_truth_52 : decode cX4_truth 52 = .ok (.iastore, 1) := by decide +kernel
theorem dX4_truth_53 : decode cX4_truth 53 = .ok (.dup, 1) := by decide +kernel
theorem dX4_truth_54 : decode cX4_truth 54 = .ok (.iconst 4, 1) := by decide +kernel
theorem dX4_truth_55 : decode cX4_truth 55 = .ok (.bipush 101, 2) := by decide +kernel
theorem dX4_truth_57 : decode cX4_truth 57 = .ok (.iastore, 1) := by decide +kernel
theorem dX4_truth_58 : decode cX4_truth 58 = .ok (.areturn, 1) := by decide +kernel
theorem dX4_order_0 : decode cX4_order 0 = .ok (.iconst 0, 1) := by decide +kernel
theorem dX4_order_1 : decode cX4_order 1 = .ok (.istore_n 3, 1) := by decide +kernel
theorem dX4_order_2 : decode cX4_order 2 = .ok (.iload_n 3, 1) := by decide +kernel
theorem dX4_order_3 : decode cX4_order 3 = .ok (.aload_n 0, 1) := by decide +kernel
theorem dX4_order_4 : decode cX4_order 4 = .ok (.arraylength, 1) := by decide +kernel
theorem dX4_order_5 : decode cX4_order 5 = .ok (.if_icmp .ge 69, 3) := by decide +kernel
theorem dX4_order_8 : decode cX4_order 8 = .ok (.iload_n 3, 1) := by decide +kernel
theorem dX4_order_9 : decode cX4_order 9 = .ok (.aload_n 1, 1) := by decide +kernel
theorem dX4_order_10 : decode cX4_order 10 = .ok (.arraylength, 1) := by decide +kernel
theorem dX4_order_11 : decode cX4_order 11 = .ok (.if_icmp .ge 63, 3) := by decide +kernel
theorem dX4_order_14 : decode cX4_order 14 = .ok (.iload_n 2, 1) := by decide +kernel
theorem dX4_order_15 : decode cX4_order 15 = .ok (.ifCond .eq 19, 3) := by decide +kernel
theorem dX4_order_18 : decode cX4_order 18 = .ok (.aload_n 0, 1) := by decide +kernel
theorem dX4_order_19 : decode cX4_order 19 = .ok (.iload_n 3, 1) := by decide +kernel
theorem dX4_order_20 : decode cX4_order 20 = .ok (.iaload, 1) := by decide +kernel
theorem dX4_order_21 : decode cX4_order 21 = .ok (.invokestatic 35, 3) := by decide +kernel
theorem dX4_order_24 : decode cX4_order 24 = .ok (.aload_n 1, 1) := by decide +kernel
theorem dX4_order_25 : decode cX4_order 25 = .ok (.iload_n 3, 1) := by decide +kernel
theorem dX4_order_26 : decode cX4_order 26 = .ok (.iaload, 1) := by decide +kernel
theorem dX4_order_27 : decode cX4_order 27 = .ok (.invokestatic 35, 3) := by decide +kernel
theorem dX4_order_30 : decode cX4_order 30 = .ok (.isub, 1) := by decide +kernel
theorem dX4_order_31 : decode cX4_order 31 = .ok (.goto 10, 3) := by decide +kernel
theorem dX4_order_34 : decode cX4_order 34 = .ok (.aload_n 0, 1) := by decide +kernel
theorem dX4_order_35 : decode cX4_order 35 = .ok (.iload_n 3, 1) := by decide +kernel
theorem dX4_order_36 : decode cX4_order 36 = .ok (.iaload, 1) := by decide +kernel
theorem dX4_order_37 : decode cX4_order 37 = .ok (.aload_n 1, 1) := by decide +kernel
theorem dX4_order_38 : decode cX4_order 38 = .ok (.iload_n 3, 1) := by decide +kernel
theorem dX4_order_39 : decode cX4_order 39 = .ok (.iaload, 1) := by decide +kernel
theorem dX4_order_40 : decode cX4_order 40 = .ok (.isub, 1) := by decide +kernel
theorem dX4_order_41 : decode cX4_order 41 = .ok (.istore 4, 2) := by decide +kernel
theorem dX4_order_43 : decode cX4_order 43 = .ok (.iload 4, 2) := by decide +kernel
theorem dX4_order_45 : decode cX4_order 45 = .ok (.ifCond .eq 23, 3) := by decide +kernel
theorem dX4_order_48 : decode cX4_order 48 = .ok (.iload_n 2, 1) := by decide +kernel
theorem dX4_order_49 : decode cX4_order 49 = .ok (.ifCond .eq 16, 3) := by decide +kernel
theorem dX4_order_52 : decode cX4_order 52 = .ok (.iload 4, 2) := by decide +kernel
theorem dX4_order_54 : decode cX4_order 54 = .ok (.ifCond .ge 7, 3) := by decide +kernel
theorem dX4_order_57 : decode cX4_order 57 = .ok (.iconst (-1), 1) := by decide +kernel
theorem dX4_order_58 : decode cX4_order 58 = .ok (.goto 9, 3) := by decide +kernel
theorem dX4_order_61 : decode cX4_order 61 = .ok (.iconst 1, 1) := by decide +kernel
theorem dX4_order_62 : decode cX4_order 62 = .ok (.goto 5, 3) := by decide +kernel
theorem dX4_order_65 : decode cX4_order 65 = .ok (.iload 4, 2) := by decide +kernel
theorem dX4_order_67 : decode cX4_order 67 = .ok (.ireturn, 1) := by decide +kernel
theorem dX4_order_68 : decode cX4_order 68 = .ok (.iinc 3 1, 3) := by decide +kernel
theorem dX4_order_71 : decode cX4_order 71 = .ok (.goto (-69), 3) := by decide +kernel
theorem dX4_order_74 : decode cX4_order 74 = .ok (.aload_n 0, 1) := by decide +kernel
theorem dX4_order_75 : decode cX4_order 75 = .ok (.arraylength, 1) := by decide +kernel
theorem dX4_order_76 : decode cX4_order 76 = .ok (.aload_n 1, 1) := by decide +kernel
theorem dX4_order_77 : decode cX4_order 77 = .ok (.arraylength, 1) := by decide +kernel
theorem dX4_order_78 : decode cX4_order 78 = .ok (.isub, 1) := by decide +kernel
theorem dX4_order_79 : decode cX4_order 79 = .ok (.istore_n 3, 1) := by decide +kernel
theorem dX4_order_80 : decode cX4_order 80 = .ok (.iload_n 2, 1) := by decide +kernel
theorem dX4_order_81 : decode cX4_order 81 = .ok (.ifCond .eq 31, 3) := by decide +kernel
theorem dX4_order_84 : decode cX4_order 84 = .ok (.iload_n 3, 1) := by decide +kernel
theorem dX4_order_85 : decode cX4_order 85 = .ok (.ifCond .le 7, 3) := by decide +kernel
theorem dX4_order_88 : decode cX4_order 88 = .ok (.iconst 1, 1) := by decide +kernel
theorem dX4_order_89 : decode cX4_order 89 = .ok (.goto 4, 3) := by decide +kernel
theorem dX4_order_92 : decode cX4_order 92 = .ok (.iconst 0, 1) := by decide +kernel
theorem dX4_order_93 : decode cX4_order 93 = .ok (.invokestatic 17, 3) := by decide +kernel
theorem dX4_order_96 : decode cX4_order 96 = .ok (.iload_n 3, 1) := by decide +kernel
theorem dX4_order_97 : decode cX4_order 97 = .ok (.ifCond .ge 7, 3) := by decide +kernel
theorem dX4_order_100 : decode cX4_order 100 = .ok (.iconst 1, 1) := by decide +kernel
theorem dX4_order_101 : decode cX4_order 101 = .ok (.goto 4, 3) := by decide +kernel
theorem dX4_order_104 : decode cX4_order 104 = .ok (.iconst 0, 1) := by decide +kernel
theorem dX4_order_105 : decode cX4_order 105 = .ok (.invokestatic 17, 3) := by decide +kernel
theorem dX4_order_108 : decode cX4_order 108 = .ok (.isub, 1) := by decide +kernel
theorem dX4_order_109 : decode cX4_order 109 = .ok (.goto 4, 3) := by decide +kernel
theorem dX4_order_112 : decode cX4_order 112 = .ok (.iload_n 3, 1) := by decide +kernel
theorem dX4_order_113 : decode cX4_order 113 = .ok (.ireturn, 1) := by decide +kernel
abbrev rmX3_init : Room := { frames := 1, cells := 0, slots := 0, locals := 20 }
theorem mX3_init {l : Launch} {G : Cx} {A : Nat → Prop} {a : Nat} {x : Int64} {v : Value} : Met l yX3_init (.code yX3_init cX3_init 1 (none : Option Jvm.ClassFile.FieldType) :: GW) rmX3_init (PC G A [.ref a] (fun H => va_at G.1 vwCl (a, .inr (7, [.long x, v])) H)) (qV A (fun H => va_at G.1 vwCl (a, .inr (7, [.long x, v])) H)) 0 0 (A) := by
  refine mstart "SigntextLaw$Out" (by decide +kernel) rfl (Nat.le_of_ble_eq_true rfl) ?_
  intro p e s m below meth c ls hx hb hr hts hown hml hlocks hname hC hA hW hl
  have hl : lv_has ls 1 [(0, .ref a)] := hl
  have hK := hC.1
  have hS : va_S A s.heap s.heap [] := va_S.rf
  refine lv_aload_n hx hb dX3_init_0 rfl (lv_at hl 0 rfl) ?_
  refine W.objInit hx hb hown (hts _ tw_2_226) (hts _ tw_1_35) (hts _ tw_1_36) rfl (by rw [hml]; exact hl.1) rfl dX3_init_1 (Nat.le_of_ble_eq_true rfl) (Nat.le_of_ble_eq_true rfl) ?_
  refine W.eq (g2 := F0 m 4 ls []) rfl ?_
  exact q_v hx hb hr hlocks dX3_init_4 hS (Nat.le_refl _) (Nat.le_refl _) hW

abbrev rmX4_truth : Room := { frames := 1, cells := 1, slots := 5, locals := 20 }
theorem mX4_truth {l : Launch} {G : Cx} {A : Nat → Prop} {b : Bool} {sz : Nat} : Met l yX4_truth (.code yX4_truth cX4_truth 1 (some (.array .int)) :: GW) rmX4_truth (PC G A [.int (bI b)] (fun H => H.size = sz)) (qR A (fun r H => sz ≤ r ∧ IA0 G r (stx (if b then 7 else 8)) H)) 1 5 (A) := by
  refine mstart "SigntextModel" (by decide +kernel) rfl (Nat.le_of_ble_eq_true rfl) ?_
  intro p e s m below meth c ls hx hb hr hts hown hml hlocks hname hC hA hW hl
  have hl : lv_has ls 1 [(0, .int (bI b))] := hl
  have hK := hC.1
  have hS : va_S A s.heap s.heap [] := va_S.rf
  refine lv_iload_n hx hb dX4_truth_0 rfl (lv_at hl 0 rfl) ?_
  refine f_eq (tgt := 30) hx hb dX4_truth_1 (by decide) (fun c_1 => ?_) (fun c_1 => ?_)
  · subst c_1
    refine lv_iconst (v := nI 5) hx hb dX4_truth_30 (by decide) ?_
    refine h_newa (D := G.1) (atype := .int) (N := 5) (z := (5, .inl (fun _ => 0))) hx hb (hts _ tw_1_70) rfl (fun h => h) hK 0 rfl hS rfl (nI_pos (by omega)) (nI_clamp (by omega)) (show 5 * _ ≤ _ from by show 5 * 4 ≤ 536870912; omega) (Nat.le_trans (show 0 + 1 ≤ 1 by omega) (Nat.le_of_ble_eq_true rfl)) (Nat.le_trans (show 0 + 5 ≤ 5 by omega) (Nat.le_of_ble_eq_true rfl)) dX4_truth_31 (fun na H2 hna hFna z2 o2 hS => ?_)
    have hZ2 := hS.1
    have hMna : A na := hA na (by omega)
    refine lv_dup hx hb dX4_truth_33 rfl ?_
    refine lv_iconst (v := nI 0) hx hb dX4_truth_34 (by decide) ?_
    refine lv_bipush (v := nI 102) hx hb dX4_truth_35 (by decide) ?_
    refine h_ist (D := G.1) hx hb hK 0 hFna rfl hS hMna (vp_in_nI (n := 0) (N := 5) (by omega) (by omega)) dX4_truth_37 (fun H3 L3 hFna z3 o3 hS => ?_)
    rw [nI_clamp (n := 0) (by omega)] at hFna
    have hZ3 := hS.1
    refine lv_dup hx hb dX4_truth_38 rfl ?_
    refine lv_iconst (v := nI 1) hx hb dX4_truth_39 (by decide) ?_
    refine lv_bipush (v := nI 97) hx hb dX4_truth_40 (by decide) ?_
    refine h_ist (D := G.1) hx hb hK 0 hFna rfl hS hMna (vp_in_nI (n := 1) (N := 5) (by omega) (by omega)) dX4_truth_42 (fun H4 L4 hFna z4 o4 hS => ?_)
    rw [nI_clamp (n := 1) (by omega)] at hFna
    have hZ4 := hS.1
    refine lv_dup hx hb dX4_truth_43 rfl ?_
    refine lv_iconst (v := nI 2) hx hb dX4_truth_44 (by decide) ?_
    refine lv_bipush (v := nI 108) hx hb dX4_truth_45 (by decide) ?_
    refine h_ist (D := G.1) hx hb hK 0 hFna rfl hS hMna (vp_in_nI (n := 2) (N := 5) (by omega) (by omega)) dX4_truth_47 (fun H5 L5 hFna z5 o5 hS => ?_)
    rw [nI_clamp (n := 2) (by omega)] at hFna
    have hZ5 := hS.1
    refine lv_dup hx hb dX4_truth_48 rfl ?_
    refine lv_iconst (v := nI 3) hx hb dX4_truth_49 (by decide) ?_
    refine lv_bipush (v := nI 115) hx hb dX4_truth_50 (by decide) ?_
    refine h_ist (D := G.1) hx hb hK 0 hFna rfl hS hMna (vp_in_nI (n := 3) (N := 5) (by omega) (by omega)) dX4_truth_52 (fun H6 L6 hFna z6 o6 hS => ?_)
    rw [nI_clamp (n := 3) (by omega)] at hFna
    have hZ6 := hS.1
    refine lv_dup hx hb dX4_truth_53 rfl ?_
    refine lv_iconst (v := nI 4) hx hb dX4_truth_54 (by decide) ?_
    refine lv_bipush (v := nI 101) hx hb dX4_truth_55 (by decide) ?_
    refine h_ist (D := G.1) hx hb hK 0 hFna rfl hS hMna (vp_in_nI (n := 4) (N := 5) (by omega) (by omega)) dX4_truth_57 (fun H7 L7 hFna z7 o7 hS => ?_)
    rw [nI_clamp (n := 4) (by omega)] at hFna
    have hZ7 := hS.1
    exact q_a hx hb hr (Or.inr ⟨_, rfl⟩) hlocks dX4_truth_58 hS (by omega) (by omega) ⟨by omega, IA0.mk hFna rfl (fun j hj => match j, hj with | 0, _ => rfl | 1, _ => rfl | 2, _ => rfl | 3, _ => rfl | 4, _ => rfl)⟩
  · subst c_1
    refine lv_iconst (v := nI 4) hx hb dX4_truth_4 (by decide) ?_
    refine h_newa (D := G.1) (atype := .int) (N := 4) (z := (4, .inl (fun _ => 0))) hx hb (hts _ tw_1_70) rfl (fun h => h) hK 0 rfl hS rfl (nI_pos (by omega)) (nI_clamp (by omega)) (show 4 * _ ≤ _ from by show 4 * 4 ≤ 536870912; omega) (Nat.le_trans (show 0 + 1 ≤ 1 by omega) (Nat.le_of_ble_eq_true rfl)) (Nat.le_trans (show 0 + 4 ≤ 5 by omega) (Nat.le_of_ble_eq_true rfl)) dX4_truth_5 (fun na H8 hna hFna z8 o8 hS => ?_)
    have hZ8 := hS.1
    have hMna : A na := hA na (by omega)
    refine lv_dup hx hb dX4_truth_7 rfl ?_
    refine lv_iconst (v := nI 0) hx hb dX4_truth_8 (by decide) ?_
    refine lv_bipush (v := nI 116) hx hb dX4_truth_9 (by decide) ?_
    refine h_ist (D := G.1) hx hb hK 0 hFna rfl hS hMna (vp_in_nI (n := 0) (N := 4) (by omega) (by omega)) dX4_truth_11 (fun H9 L9 hFna z9 o9 hS => ?_)
    rw [nI_clamp (n := 0) (by omega)] at hFna
    have hZ9 := hS.1
    refine lv_dup hx hb dX4_truth_12 rfl ?_
    refine lv_iconst (v := nI 1) hx hb dX4_truth_13 (by decide) ?_
    refine lv_bipush (v := nI 114) hx hb dX4_truth_14 (by decide) ?_
    refine h_ist (D := G.1) hx hb hK 0 hFna rfl hS hMna (vp_in_nI (n := 1) (N := 4) (by omega) (by omega)) dX4_truth_16 (fun H10 L10 hFna z10 o10 hS => ?_)
    rw [nI_clamp (n := 1) (by omega)] at hFna
    have hZ10 := hS.1
    refine lv_dup hx hb dX4_truth_17 rfl ?_
    refine lv_iconst (v := nI 2) hx hb dX4_truth_18 (by decide) ?_
    refine lv_bipush (v := nI 117) hx hb dX4_truth_19 (by decide) ?_
    refine h_ist (D := G.1) hx hb hK 0 hFna rfl hS hMna (vp_in_nI (n := 2) (N := 4) (by omega) (by omega)) dX4_truth_21 (fun H11 L11 hFna z11 o11 hS => ?_)
    rw [nI_clamp (n := 2) (by omega)] at hFna
    have hZ11 := hS.1
    refine lv_dup hx hb dX4_truth_22 rfl ?_
    refine lv_iconst (v := nI 3) hx hb dX4_truth_23 (by decide) ?_
    refine lv_bipush (v := nI 101) hx hb dX4_truth_24 (by decide) ?_
    refine h_ist (D := G.1) hx hb hK 0 hFna rfl hS hMna (vp_in_nI (n := 3) (N := 4) (by omega) (by omega)) dX4_truth_26 (fun H12 L12 hFna z12 o12 hS => ?_)
    rw [nI_clamp (n := 3) (by omega)] at hFna
    have hZ12 := hS.1
    refine lv_goto (tgt := 58) hx hb dX4_truth_27 (by decide) ?_
    exact q_a hx hb hr (Or.inr ⟨_, rfl⟩) hlocks dX4_truth_58 hS (by omega) (by omega) ⟨by omega, IA0.mk hFna rfl (fun j hj => match j, hj with | 0, _ => rfl | 1, _ => rfl | 2, _ => rfl | 3, _ => rfl)⟩

abbrev rmX4_order : Room := { frames := 1, cells := 0, slots := 0, locals := 20 }
theorem mX4_order {l : Launch} {G : Cx} {A : Nat → Prop} {a b : Nat} {t u : List Nat} {b0 : Bool} (tok : okc t) (uok : okc u) (t61 : t.length ≤ 61) (u61 : u.length ≤ 61) : Met l yX4_order (.code yX4_order cX4_order 5 (some .int) :: GW) rmX4_order (PC G A [.ref a, .ref b, .int (bI b0)] (fun H => IA G a t H ∧ IA G b u H)) (vp_Si (fun r => ∃ o9, ordR b0 t u o9 ∧ r = if b0 then sgI o9 else o9)) 0 0 (fun _ => False) := by
  refine mstart "SigntextModel" (by decide +kernel) rfl (Nat.le_of_ble_eq_true rfl) ?_
  intro p e s m below meth c ls hx hb hr hts hown hml hlocks hname hC hA hW hl
  have hl : lv_has ls 5 [(0, .ref a), (1, .ref b), (2, .int (bI b0))] := hl
  have hK := hC.1
  have hS : va_S A s.heap s.heap [] := va_S.rf
  obtain ⟨hI, hJ⟩ := hW
  refine lv_iconst (v := nI 0) hx hb dX4_order_0 (by decide) ?_
  refine lv_istore_n (lv' := [(3, .int (nI 0)), (0, .ref a), (1, .ref b), (2, .int (bI b0))]) hx hb dX4_order_1 rfl hl (by decide) rfl (fun ls hl => ?_)
  refine nloop (P := fun j => ∀ (ls : Array Slot) , lv_has ls 5 [(3, .int (nI j)), (0, .ref a), (1, .ref b), (2, .int (bI b0))] → (∀ k : Nat, k < j → k < u.length → viewN b0 (t.getD k 0) = viewN b0 (u.getD k 0)) → W p l e rmX4_order s m [.ref a, .ref b, .int (bI b0)].toArray below meth c s.heap [] 0 0 (MQ below (vp_Si (fun r => ∃ o9, ordR b0 t u o9 ∧ r = if b0 then sgI o9 else o9)) [.ref a, .ref b, .int (bI b0)].toArray s 0 0 (fun _ => False)) (F0 m 2 ls [])) t.length ?_ 0 (Nat.zero_le _) ls  hl (fun k hk => absurd hk (Nat.not_lt_zero k))
  clear hl
  intro j hj ih ls  hl
  intro hg
  refine lv_iload_n hx hb dX4_order_2 rfl (lv_at hl 0 rfl) ?_
  refine lv_aload_n hx hb dX4_order_3 rfl (lv_at hl 1 rfl) ?_
  refine h_ilen hx hb hC.2.1 hI dX4_order_4 ?_
  refine b_ge (tgt := 74) hx hb dX4_order_5 (by decide) (by omega) (by omega) (fun c_13 => ?_) (fun c_13 => ?_)
  · have hO9 : ordR b0 t u (nI t.length - nI u.length) := Or.inr ⟨(fun k h1 h2 => hg k (by omega) h2), rfl⟩
    refine lv_aload_n hx hb dX4_order_74 rfl (lv_at hl 1 rfl) ?_
    refine h_ilen hx hb hC.2.1 hI dX4_order_75 ?_
    refine lv_aload_n hx hb dX4_order_76 rfl (lv_at hl 2 rfl) ?_
    refine h_ilen hx hb hC.2.1 hJ dX4_order_77 ?_
    refine lv_isub hx hb dX4_order_78 ?_
    refine lv_istore_n (lv' := [(3, .int (nI t.length - nI u.length)), (0, .ref a), (1, .ref b), (2, .int (bI b0))]) hx hb dX4_order_79 rfl hl (by decide) rfl (fun ls hl => ?_)
    refine lv_iload_n hx hb dX4_order_80 rfl (lv_at hl 3 rfl) ?_
    refine f_eq (tgt := 112) hx hb dX4_order_81 (by decide) (fun c_14 => ?_) (fun c_14 => ?_)
    · subst c_14
      refine lv_iload_n hx hb dX4_order_112 rfl (lv_at hl 0 rfl) ?_
      exact p_i hx hb hr hlocks dX4_order_113 ⟨_, hO9, rfl⟩
    · subst c_14
      generalize nI t.length - nI u.length = d9 at hl hO9
      refine lv_iload_n hx hb dX4_order_84 rfl (lv_at hl 0 rfl) ?_
      refine lv_if_le (tgt := 92) hx hb dX4_order_85 (by decide) (fun c_15 => ?_) (fun c_15 => ?_)
      · refine lv_iconst (v := nI 0) hx hb dX4_order_92 (by decide) ?_
        refine kS_i (A := A) (As := [.int (bI false)]) (rest := []) ⟨hx, hb, hml, hown, hts⟩ (mX4_one (A := A) ) (va_cwS 1 hts (gS tw_5_26 tw_5_27 tw_1_8 tw_5_28) rfl rfl rfl (by decide +kernel) ⟨Nat.le_of_ble_eq_true rfl, Nat.le_of_ble_eq_true rfl⟩) hC hS hA  trivial rfl rfl hl.1 (Nat.le_of_ble_eq_true rfl) ⟨Nat.zero_le _, Nat.zero_le _⟩ dX4_order_93 (fun r9 h9 => lv_cv h9 ?_)
        refine lv_iload_n hx hb dX4_order_96 rfl (lv_at hl 0 rfl) ?_
        refine lv_if_ge (tgt := 104) hx hb dX4_order_97 (by decide) (fun c_16 => ?_) (fun c_16 => ?_)
        · refine lv_iconst (v := nI 0) hx hb dX4_order_104 (by decide) ?_
          refine kS_i (A := A) (As := [.int (bI false)]) (rest := .int (bI false) :: []) ⟨hx, hb, hml, hown, hts⟩ (mX4_one (A := A) ) (va_cwS 1 hts (gS tw_5_26 tw_5_27 tw_1_8 tw_5_28) rfl rfl rfl (by decide +kernel) ⟨Nat.le_of_ble_eq_true rfl, Nat.le_of_ble_eq_true rfl⟩) hC hS hA  trivial rfl rfl hl.1 (Nat.le_of_ble_eq_true rfl) ⟨Nat.zero_le _, Nat.zero_le _⟩ dX4_order_105 (fun r9 h9 => lv_cv h9 ?_)
          refine lv_isub hx hb dX4_order_108 ?_
          refine lv_goto (tgt := 113) hx hb dX4_order_109 (by decide) ?_
          exact p_i hx hb hr hlocks dX4_order_113 ⟨_, hO9, (show _ = sgI d9 from (sg_0 c_15 c_16).symm)⟩
        · refine lv_iconst (v := nI 1) hx hb dX4_order_100 (by decide) ?_
          refine lv_goto (tgt := 105) hx hb dX4_order_101 (by decide) ?_
          refine kS_i (A := A) (As := [.int (bI true)]) (rest := .int (bI false) :: []) ⟨hx, hb, hml, hown, hts⟩ (mX4_one (A := A) ) (va_cwS 1 hts (gS tw_5_26 tw_5_27 tw_1_8 tw_5_28) rfl rfl rfl (by decide +kernel) ⟨Nat.le_of_ble_eq_true rfl, Nat.le_of_ble_eq_true rfl⟩) hC hS hA  trivial rfl rfl hl.1 (Nat.le_of_ble_eq_true rfl) ⟨Nat.zero_le _, Nat.zero_le _⟩ dX4_order_105 (fun r9 h9 => lv_cv h9 ?_)
          refine lv_isub hx hb dX4_order_108 ?_
          refine lv_goto (tgt := 113) hx hb dX4_order_109 (by decide) ?_
          exact p_i hx hb hr hlocks dX4_order_113 ⟨_, hO9, (show _ = sgI d9 from (sg_n (Int32.not_le.mp c_16)).symm)⟩
      · refine lv_iconst (v := nI 1) hx hb dX4_order_88 (by decide) ?_
        refine lv_goto (tgt := 93) hx hb dX4_order_89 (by decide) ?_
        refine kS_i (A := A) (As := [.int (bI true)]) (rest := []) ⟨hx, hb, hml, hown, hts⟩ (mX4_one (A := A) ) (va_cwS 1 hts (gS tw_5_26 tw_5_27 tw_1_8 tw_5_28) rfl rfl rfl (by decide +kernel) ⟨Nat.le_of_ble_eq_true rfl, Nat.le_of_ble_eq_true rfl⟩) hC hS hA  trivial rfl rfl hl.1 (Nat.le_of_ble_eq_true rfl) ⟨Nat.zero_le _, Nat.zero_le _⟩ dX4_order_93 (fun r9 h9 => lv_cv h9 ?_)
        refine lv_iload_n hx hb dX4_order_96 rfl (lv_at hl 0 rfl) ?_
        refine lv_if_ge (tgt := 104) hx hb dX4_order_97 (by decide) (fun c_17 => ?_) (fun c_17 => ?_)
        · refine lv_iconst (v := nI 0) hx hb dX4_order_104 (by decide) ?_
          refine kS_i (A := A) (As := [.int (bI false)]) (rest := .int (bI true) :: []) ⟨hx, hb, hml, hown, hts⟩ (mX4_one (A := A) ) (va_cwS 1 hts (gS tw_5_26 tw_5_27 tw_1_8 tw_5_28) rfl rfl rfl (by decide +kernel) ⟨Nat.le_of_ble_eq_true rfl, Nat.le_of_ble_eq_true rfl⟩) hC hS hA  trivial rfl rfl hl.1 (Nat.le_of_ble_eq_true rfl) ⟨Nat.zero_le _, Nat.zero_le _⟩ dX4_order_105 (fun r9 h9 => lv_cv h9 ?_)
          refine lv_isub hx hb dX4_order_108 ?_
          refine lv_goto (tgt := 113) hx hb dX4_order_109 (by decide) ?_
          exact p_i hx hb hr hlocks dX4_order_113 ⟨_, hO9, (show _ = sgI d9 from (sg_p (Int32.not_le.mp c_15)).symm)⟩
        · refine lv_iconst (v := nI 1) hx hb dX4_order_100 (by decide) ?_
          refine lv_goto (tgt := 105) hx hb dX4_order_101 (by decide) ?_
          refine kS_i (A := A) (As := [.int (bI true)]) (rest := .int (bI true) :: []) ⟨hx, hb, hml, hown, hts⟩ (mX4_one (A := A) ) (va_cwS 1 hts (gS tw_5_26 tw_5_27 tw_1_8 tw_5_28) rfl rfl rfl (by decide +kernel) ⟨Nat.le_of_ble_eq_true rfl, Nat.le_of_ble_eq_true rfl⟩) hC hS hA  trivial rfl rfl hl.1 (Nat.le_of_ble_eq_true rfl) ⟨Nat.zero_le _, Nat.zero_le _⟩ dX4_order_105 (fun r9 h9 => lv_cv h9 ?_)
          refine lv_isub hx hb dX4_order_108 ?_
          refine lv_goto (tgt := 113) hx hb dX4_order_109 (by decide) ?_
          exact absurd (Int32.not_le.mp c_15) (fun q => Int32.lt_irrefl (Int32.lt_trans q (Int32.not_le.mp c_17)))
  · refine lv_iload_n hx hb dX4_order_8 rfl (lv_at hl 0 rfl) ?_
    refine lv_aload_n hx hb dX4_order_9 rfl (lv_at hl 2 rfl) ?_
    refine h_ilen hx hb hC.2.1 hJ dX4_order_10 ?_
    refine b_ge (tgt := 74) hx hb dX4_order_11 (by decide) (by omega) (by omega) (fun c_18 => ?_) (fun c_18 => ?_)
    · have hO9 : ordR b0 t u (nI t.length - nI u.length) := Or.inr ⟨(fun k h1 h2 => hg k (by omega) h2), rfl⟩
      refine lv_aload_n hx hb dX4_order_74 rfl (lv_at hl 1 rfl) ?_
      refine h_ilen hx hb hC.2.1 hI dX4_order_75 ?_
      refine lv_aload_n hx hb dX4_order_76 rfl (lv_at hl 2 rfl) ?_
      refine h_ilen hx hb hC.2.1 hJ dX4_order_77 ?_
      refine lv_isub hx hb dX4_order_78 ?_
      refine lv_istore_n (lv' := [(3, .int (nI t.length - nI u.length)), (0, .ref a), (1, .ref b), (2, .int (bI b0))]) hx hb dX4_order_79 rfl hl (by decide) rfl (fun ls hl => ?_)
      refine lv_iload_n hx hb dX4_order_80 rfl (lv_at hl 3 rfl) ?_
      refine f_eq (tgt := 112) hx hb dX4_order_81 (by decide) (fun c_19 => ?_) (fun c_19 => ?_)
      · subst c_19
        refine lv_iload_n hx hb dX4_order_112 rfl (lv_at hl 0 rfl) ?_
        exact p_i hx hb hr hlocks dX4_order_113 ⟨_, hO9, rfl⟩
      · subst c_19
        generalize nI t.length - nI u.length = d9 at hl hO9
        refine lv_iload_n hx hb dX4_order_84 rfl (lv_at hl 0 rfl) ?_
        refine lv_if_le (tgt := 92) hx hb dX4_order_85 (by decide) (fun c_20 => ?_) (fun c_20 => ?_)
        · refine lv_iconst (v := nI 0) hx hb dX4_order_92 (by decide) ?_
          refine kS_i (A := A) (As := [.int (bI false)]) (rest := []) ⟨hx, hb, hml, hown, hts⟩ (mX4_one (A := A) ) (va_cwS 1 hts (gS tw_5_26 tw_5_27 tw_1_8 tw_5_28) rfl rfl rfl (by decide +kernel) ⟨Nat.le_of_ble_eq_true rfl, Nat.le_of_ble_eq_true rfl⟩) hC hS hA  trivial rfl rfl hl.1 (Nat.le_of_ble_eq_true rfl) ⟨Nat.zero_le _, Nat.zero_le _⟩ dX4_order_93 (fun r9 h9 => lv_cv h9 ?_)
          refine lv_iload_n hx hb dX4_order_96 rfl (lv_at hl 0 rfl) ?_
          refine lv_if_ge (tgt := 104) hx hb dX4_order_97 (by decide) (fun c_21 => ?_) (fun c_21 => ?_)
          · refine lv_iconst (v := nI 0) hx hb dX4_order_104 (by decide) ?_
            refine kS_i (A := A) (As := [.int (bI false)]) (rest := .int (bI false) :: []) ⟨hx, hb, hml, hown, hts⟩ (mX4_one (A := A) ) (va_cwS 1 hts (gS tw_5_26 tw_5_27 tw_1_8 tw_5_28) rfl rfl rfl (by decide +kernel) ⟨Nat.le_of_ble_eq_true rfl, Nat.le_of_ble_eq_true rfl⟩) hC hS hA  trivial rfl rfl hl.1 (Nat.le_of_ble_eq_true rfl) ⟨Nat.zero_le _, Nat.zero_le _⟩ dX4_order_105 (fun r9 h9 => lv_cv h9 ?_)
            refine lv_isub hx hb dX4_order_108 ?_
            refine lv_goto (tgt := 113) hx hb dX4_order_109 (by decide) ?_
            exact p_i hx hb hr hlocks dX4_order_113 ⟨_, hO9, (show _ = sgI d9 from (sg_0 c_20 c_21).symm)⟩
          · refine lv_iconst (v := nI 1) hx hb dX4_order_100 (by decide) ?_
            refine lv_goto (tgt := 105) hx hb dX4_order_101 (by decide) ?_
            refine kS_i (A := A) (As := [.int (bI true)]) (rest := .int (bI false) :: []) ⟨hx, hb, hml, hown, hts⟩ (mX4_one (A := A) ) (va_cwS 1 hts (gS tw_5_26 tw_5_27 tw_1_8 tw_5_28) rfl rfl rfl (by decide +kernel) ⟨Nat.le_of_ble_eq_true rfl, Nat.le_of_ble_eq_true rfl⟩) hC hS hA  trivial rfl rfl hl.1 (Nat.le_of_ble_eq_true rfl) ⟨Nat.zero_le _, Nat.zero_le _⟩ dX4_order_105 (fun r9 h9 => lv_cv h9 ?_)
            refine lv_isub hx hb dX4_order_108 ?_
            refine lv_goto (tgt := 113) hx hb dX4_order_109 (by decide) ?_
            exact p_i hx hb hr hlocks dX4_order_113 ⟨_, hO9, (show _ = sgI d9 from (sg_n (Int32.not_le.mp c_21)).symm)⟩
        · refine lv_iconst (v := nI 1) hx hb dX4_order_88 (by decide) ?_
          refine lv_goto (tgt := 93) hx hb dX4_order_89 (by decide) ?_
          refine kS_i (A := A) (As := [.int (bI true)]) (rest := []) ⟨hx, hb, hml, hown, hts⟩ (mX4_one (A := A) ) (va_cwS 1 hts (gS tw_5_26 tw_5_27 tw_1_8 tw_5_28) rfl rfl rfl (by decide +kernel) ⟨Nat.le_of_ble_eq_true rfl, Nat.le_of_ble_eq_true rfl⟩) hC hS hA  trivial rfl rfl hl.1 (Nat.le_of_ble_eq_true rfl) ⟨Nat.zero_le _, Nat.zero_le _⟩ dX4_order_93 (fun r9 h9 => lv_cv h9 ?_)
          refine lv_iload_n hx hb dX4_order_96 rfl (lv_at hl 0 rfl) ?_
          refine lv_if_ge (tgt := 104) hx hb dX4_order_97 (by decide) (fun c_22 => ?_) (fun c_22 => ?_)
          · refine lv_iconst (v := nI 0) hx hb dX4_order_104 (by decide) ?_
            refine kS_i (A := A) (As := [.int (bI false)]) (rest := .int (bI true) :: []) ⟨hx, hb, hml, hown, hts⟩ (mX4_one (A := A) ) (va_cwS 1 hts (gS tw_5_26 tw_5_27 tw_1_8 tw_5_28) rfl rfl rfl (by decide +kernel) ⟨Nat.le_of_ble_eq_true rfl, Nat.le_of_ble_eq_true rfl⟩) hC hS hA  trivial rfl rfl hl.1 (Nat.le_of_ble_eq_true rfl) ⟨Nat.zero_le _, Nat.zero_le _⟩ dX4_order_105 (fun r9 h9 => lv_cv h9 ?_)
            refine lv_isub hx hb dX4_order_108 ?_
            refine lv_goto (tgt := 113) hx hb dX4_order_109 (by decide) ?_
            exact p_i hx hb hr hlocks dX4_order_113 ⟨_, hO9, (show _ = sgI d9 from (sg_p (Int32.not_le.mp c_20)).symm)⟩
          · refine lv_iconst (v := nI 1) hx hb dX4_order_100 (by decide) ?_
            refine lv_goto (tgt := 105) hx hb dX4_order_101 (by decide) ?_
            refine kS_i (A := A) (As := [.int (bI true)]) (rest := .int (bI true) :: []) ⟨hx, hb, hml, hown, hts⟩ (mX4_one (A := A) ) (va_cwS 1 hts (gS tw_5_26 tw_5_27 tw_1_8 tw_5_28) rfl rfl rfl (by decide +kernel) ⟨Nat.le_of_ble_eq_true rfl, Nat.le_of_ble_eq_true rfl⟩) hC hS hA  trivial rfl rfl hl.1 (Nat.le_of_ble_eq_true rfl) ⟨Nat.zero_le _, Nat.zero_le _⟩ dX4_order_105 (fun r9 h9 => lv_cv h9 ?_)
            refine lv_isub hx hb dX4_order_108 ?_
            refine lv_goto (tgt := 113) hx hb dX4_order_109 (by decide) ?_
            exact absurd (Int32.not_le.mp c_20) (fun q => Int32.lt_irrefl (Int32.lt_trans q (Int32.not_le.mp c_22)))
    · have v1 := tok j
      have v2 := uok j
      have w1 : litN (t.getD j 0) < 300 := viewN_lt (b := true) v1
      have w2 : litN (u.getD j 0) < 300 := viewN_lt (b := true) v2
      have y1 := viewN_lt (b := false) v1
      have y2 := viewN_lt (b := false) v2
      have y3 := viewN_lt (b := true) v1
      have y4 := viewN_lt (b := true) v2
      refine lv_iload_n hx hb dX4_order_14 rfl (lv_at hl 3 rfl) ?_
      refine f_eq (tgt := 34) hx hb dX4_order_15 (by decide) (fun c_23 => ?_) (fun c_23 => ?_)
      · subst c_23
        refine lv_aload_n hx hb dX4_order_34 rfl (lv_at hl 1 rfl) ?_
        refine lv_iload_n hx hb dX4_order_35 rfl (lv_at hl 0 rfl) ?_
        refine h_ild hx hb hC.2.1 hI (i := j) (by omega) (by omega) dX4_order_36 ?_
        refine lv_aload_n hx hb dX4_order_37 rfl (lv_at hl 2 rfl) ?_
        refine lv_iload_n hx hb dX4_order_38 rfl (lv_at hl 0 rfl) ?_
        refine h_ild hx hb hC.2.1 hJ (i := j) (by omega) (by omega) dX4_order_39 ?_
        refine lv_isub hx hb dX4_order_40 ?_
        refine lv_istore (lv' := [(4, .int (nI (t.getD j 0) - nI (u.getD j 0))), (3, .int (nI j)), (0, .ref a), (1, .ref b), (2, .int (bI false))]) hx hb dX4_order_41 hl (by decide) rfl (fun ls hl => ?_)
        refine lv_iload hx hb dX4_order_43 (lv_at hl 0 rfl) ?_
        refine lv_if_eq (tgt := 68) hx hb dX4_order_45 (by decide) (fun c_24 => ?_) (fun c_24 => ?_)
        · refine lv_iinc (v := nI (j + 1)) (lv' := [(3, .int (nI (j + 1))), (4, .int (nI (t.getD j 0) - nI (u.getD j 0))), (0, .ref a), (1, .ref b), (2, .int (bI false))]) hx hb dX4_order_68 hl (k := 1) rfl (nI_add j 1) (by decide) rfl (fun ls hl => ?_)
          refine lv_goto (tgt := 2) hx hb dX4_order_71 (by decide) ?_
          exact ih (j + 1) (by omega) (by omega) ls (lv_sub hl [0, 2, 3, 4] rfl) (fun k hk h2 => by rcases Nat.lt_succ_iff_lt_or_eq.mp hk with q | q; exact hg k q h2; rw [q]; exact (subI_0 (by omega) (by omega)).mp c_24)
        · have hO9 : ordR false t u (nI (t.getD j 0) - nI (u.getD j 0)) := Or.inl ⟨j, by omega, by omega, fun k h1 => hg k h1 (by omega), fun q => c_24 ((subI_0 (by omega) (by omega)).mpr q), rfl⟩
          refine lv_iload_n hx hb dX4_order_48 rfl (lv_at hl 4 rfl) ?_
          refine f_eq (tgt := 65) hx hb dX4_order_49 (by decide) (fun c_25 => ?_) (fun c_25 => ?_)
          · refine lv_iload hx hb dX4_order_65 (lv_at hl 0 rfl) ?_
            exact p_i hx hb hr hlocks dX4_order_67 ⟨_, hO9, rfl⟩
          · exact Bool.noConfusion c_25
      · subst c_23
        refine lv_aload_n hx hb dX4_order_18 rfl (lv_at hl 1 rfl) ?_
        refine lv_iload_n hx hb dX4_order_19 rfl (lv_at hl 0 rfl) ?_
        refine h_ild hx hb hC.2.1 hI (i := j) (by omega) (by omega) dX4_order_20 ?_
        refine kS_i (A := A) (As := [.int (nI (t.getD j 0))]) (rest := []) ⟨hx, hb, hml, hown, hts⟩ (mX4_little (A := A) v1) (va_cwS 1 hts (gS tw_6_178 tw_6_179 tw_1_8 tw_6_180) rfl rfl rfl (by decide +kernel) ⟨Nat.le_of_ble_eq_true rfl, Nat.le_of_ble_eq_true rfl⟩) hC hS hA  trivial rfl rfl hl.1 (Nat.le_of_ble_eq_true rfl) ⟨Nat.zero_le _, Nat.zero_le _⟩ dX4_order_21 (fun r9 h9 => lv_cv h9 ?_)
        refine lv_aload_n hx hb dX4_order_24 rfl (lv_at hl 2 rfl) ?_
        refine lv_iload_n hx hb dX4_order_25 rfl (lv_at hl 0 rfl) ?_
        refine h_ild hx hb hC.2.1 hJ (i := j) (by omega) (by omega) dX4_order_26 ?_
        refine kS_i (A := A) (As := [.int (nI (u.getD j 0))]) (rest := .int (nI (litN (t.getD j 0))) :: []) ⟨hx, hb, hml, hown, hts⟩ (mX4_little (A := A) v2) (va_cwS 1 hts (gS tw_6_178 tw_6_179 tw_1_8 tw_6_180) rfl rfl rfl (by decide +kernel) ⟨Nat.le_of_ble_eq_true rfl, Nat.le_of_ble_eq_true rfl⟩) hC hS hA  trivial rfl rfl hl.1 (Nat.le_of_ble_eq_true rfl) ⟨Nat.zero_le _, Nat.zero_le _⟩ dX4_order_27 (fun r9 h9 => lv_cv h9 ?_)
        refine lv_isub hx hb dX4_order_30 ?_
        refine lv_goto (tgt := 41) hx hb dX4_order_31 (by decide) ?_
        refine lv_istore (lv' := [(4, .int (nI (litN (t.getD j 0)) - nI (litN (u.getD j 0)))), (3, .int (nI j)), (0, .ref a), (1, .ref b), (2, .int (bI true))]) hx hb dX4_order_41 hl (by decide) rfl (fun ls hl => ?_)
        refine lv_iload hx hb dX4_order_43 (lv_at hl 0 rfl) ?_
        refine lv_if_eq (tgt := 68) hx hb dX4_order_45 (by decide) (fun c_26 => ?_) (fun c_26 => ?_)
        · refine lv_iinc (v := nI (j + 1)) (lv' := [(3, .int (nI (j + 1))), (4, .int (nI (litN (t.getD j 0)) - nI (litN (u.getD j 0)))), (0, .ref a), (1, .ref b), (2, .int (bI true))]) hx hb dX4_order_68 hl (k := 1) rfl (nI_add j 1) (by decide) rfl (fun ls hl => ?_)
          refine lv_goto (tgt := 2) hx hb dX4_order_71 (by decide) ?_
          exact ih (j + 1) (by omega) (by omega) ls (lv_sub hl [0, 2, 3, 4] rfl) (fun k hk h2 => by rcases Nat.lt_succ_iff_lt_or_eq.mp hk with q | q; exact hg k q h2; rw [q]; exact (subI_0 (by omega) (by omega)).mp c_26)
        · have hO9 : ordR true t u (nI (litN (t.getD j 0)) - nI (litN (u.getD j 0))) := Or.inl ⟨j, by omega, by omega, fun k h1 => hg k h1 (by omega), fun q => c_26 ((subI_0 (by omega) (by omega)).mpr q), rfl⟩
          refine lv_iload_n hx hb dX4_order_48 rfl (lv_at hl 4 rfl) ?_
          refine f_eq (tgt := 65) hx hb dX4_order_49 (by decide) (fun c_27 => ?_) (fun c_27 => ?_)
          · exact Bool.noConfusion c_27
          · refine lv_iload hx hb dX4_order_52 (lv_at hl 0 rfl) ?_
            refine lv_if_ge (tgt := 61) hx hb dX4_order_54 (by decide) (fun c_28 => ?_) (fun c_28 => ?_)
            · refine lv_iconst (v := nI 1) hx hb dX4_order_61 (by decide) ?_
              refine lv_goto (tgt := 67) hx hb dX4_order_62 (by decide) ?_
              exact p_i hx hb hr hlocks dX4_order_67 ⟨_, hO9, (show _ = sgI _ from (sg_p9 c_26 c_28).symm)⟩
            · refine lv_iconst (v := (-1)) hx hb dX4_order_57 (by decide) ?_
              refine lv_goto (tgt := 67) hx hb dX4_order_58 (by decide) ?_
              exact p_i hx hb hr hlocks dX4_order_67 ⟨_, hO9, (show _ = sgI _ from (sg_n (Int32.not_le.mp c_28)).symm)⟩
end
