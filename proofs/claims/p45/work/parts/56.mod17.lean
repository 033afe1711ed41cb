/-! The model, 17: pieces -/
section LQS
variable {G : Cx} {A B : Nat → Prop} {pa : Nat} {pe : List Nat} {H H1 : Heap} {s : State}
theorem LQ_mono (hAB : ∀ q, A q → B q) (h : LQ G A pa pe H) : LQ G B pa pe H := by
  rcases h with h | ⟨md, ed, cap, f, q1, q2, q3, q4⟩
  · exact Or.inl h
  · exact Or.inr ⟨md, ed, cap, f, q1, q2, hAB _ q3, q4⟩
theorem LQ_obj (h : LQ G A pa pe H) : ∃ (md : Int32) (ed : Nat), va_at G.1 vwCl (pa, .inr (3, [.int md, .ref ed, .int (nI pe.length)])) H := by
  rcases h with ⟨he, md, h⟩ | ⟨md, ed, cap, f, q1, -⟩
  · subst he; exact ⟨md, _, h⟩
  · exact ⟨md, ed, q1⟩
theorem LQ_some (h : LQ G A pa pe H) (hn : 0 < pe.length) : ∃ (md : Int32) (ed cap : Nat) (f : Nat → Option Nat), va_at G.1 vwCl (pa, .inr (3, [.int md, .ref ed, .int (nI pe.length)])) H ∧ va_at G.1 vwCl (ed, .inl (G.2.1 5, cap, .inr (.inr (.inr (.inr f))))) H ∧ A ed ∧ pe.length ≤ cap ∧ 1 ≤ cap ∧ cap < 2 ^ 20 ∧ ∀ i : Nat, i < pe.length → f i = some (pe.getD i 0) := by
  rcases h with ⟨he, -⟩ | h
  · subst he; exact absurd hn (Nat.lt_irrefl 0)
  · exact h
theorem LQ_recv (hK : va_K G.1 vwCl (tyL G.2.1) s) (h : LQ G A pa pe H) : ∃ cell : Cell, H[pa]? = some cell ∧ cell.vm.isStatics = false ∧ s.vm.findClass "java/util/ArrayList" = some cell.cls := by
  obtain ⟨md, ed, h⟩ := LQ_obj h
  exact at_recv hK h (q := (RJx4a65c, TJx4a65c, 3)) rfl
theorem LQ_nI (hK : va_K G.1 vwCl (tyL G.2.1) s) (h : LQ G A pa pe H) : ¬ ∃ t9, IA0 G pa t9 H := by
  rintro ⟨t9, z⟩
  obtain ⟨md, ed, h⟩ := LQ_obj h
  exact at_ne_oa hK h (r := (RJx4a65c, TJx4a65c, 3)) rfl z.fst 0 rfl rfl
theorem LQ_A (hK : va_K G.1 vwCl (tyL G.2.1) s) (h : LQ G A pa pe H) (hA : A pa) : A pa ∧ ¬ ∃ t9, IA0 G pa t9 H := ⟨hA, LQ_nI hK h⟩
theorem LQ_sub (hK : va_K G.1 vwCl (tyL G.2.1) s) (h : LQ G A pa pe H) : LQ G (fun q9 => A q9 ∧ ¬ ∃ t9, IA0 G q9 t9 H) pa pe H := by
  rcases h with h | ⟨md, ed, cap, f, q1, q2, q3, q4⟩
  · exact Or.inl h
  · exact Or.inr ⟨md, ed, cap, f, q1, q2, ⟨q3, fun ⟨t9, z⟩ => at_ne_aa hK q2 z.fst 5 0 rfl rfl (by decide) rfl⟩, q4⟩
theorem LQ_kp {X : Nat → Prop} (h : LQ G A pa pe H) (hk : kp X H H1) (hX : ∀ q : Nat, q < H.size → ¬ X q) : LQ G A pa pe H1 := by
  rcases h with ⟨he, md, h⟩ | ⟨md, ed, cap, f, q1, q2, q3, q4⟩
  · exact Or.inl ⟨he, md, at_kp h hk (hX _ h.lt)⟩
  · exact Or.inr ⟨md, ed, cap, f, at_kp q1 hk (hX _ q1.lt), at_kp q2 hk (hX _ q2.lt), q3, q4⟩
end LQS
theorem bgE_app {e9 : List Nat} {x i : Nat} (h : i ≤ e9.length) : bgE (e9 ++ [x]) i = bgE e9 i := by
  cases i with
  | zero => rfl
  | succ i => show (e9 ++ [x]).getD i 0 + 1 = e9.getD i 0 + 1; rw [getD_app1 (by omega)]
theorem take_s {t : List Nat} {j : Nat} (h : j ≤ t.length) (h1 : 1 ≤ j) : t.take j = t.take (j - 1) ++ [t.getD (j - 1) 0] := by
  obtain ⟨k, rfl⟩ : ∃ k, j = k + 1 := ⟨j - 1, by omega⟩
  rw [Nat.add_sub_cancel, List.take_add_one, List.getD_eq_getElem?_getD, List.getElem?_eq_getElem (by omega)]
  rfl
theorem dX4_pieces_0 : decode cX4_pieces 0 = .ok (.new 43, 3) := by decide +kernel
theorem dX4_pieces_3 : decode cX4_pieces 3 = .ok (.dup, 1) := by decide +kernel
theorem dX4_pieces_4 : decode cX4_pieces 4 = .ok (.invokespecial 45, 3) := by decide +kernel
theorem dX4_pieces_7 : decode cX4_pieces 7 = .ok (.astore_n 1, 1) := by decide +kernel
theorem dX4_pieces_8 : decode cX4_pieces 8 = .ok (.iconst 0, 1) := by decide +kernel
theorem dX4_pieces_9 : decode cX4_pieces 9 = .ok (.istore_n 2, 1) := by decide +kernel
theorem dX4_pieces_10 : decode cX4_pieces 10 = .ok (.iconst 0, 1) := by decide +kernel
theorem dX4_pieces_11 : decode cX4_pieces 11 = .ok (.istore_n 3, 1) := by decide +kernel
theorem dX4_pieces_12 : decode cX4_pieces 12 = .ok (.iconst 0, 1) := by decide +kernel
theorem dX4_pieces_13 : decode cX4_pieces 13 = .ok (.istore 4, 2) := by decide +kernel
theorem dX4_pieces_15 : decode cX4_pieces 15 = .ok (.iload 4, 2) := by decide +kernel
theorem dX4_pieces_17 : decode cX4_pieces 17 = .ok (.aload_n 0, 1) := by decide +kernel
theorem dX4_pieces_18 : decode cX4_pieces 18 = .ok (.arraylength, 1) := by decide +kernel
theorem dX4_pieces_19 : decode cX4_pieces 19 = .ok (.if_icmp .ge 37, 3) := by decide +kernel
theorem dX4_pieces_22 : decode cX4_pieces 22 = .ok (.aload_n 0, 1) := by decide +kernel
theorem dX4_pieces_23 : decode cX4_pieces 23 = .ok (.iload 4, 2) := by decide +kernel
theorem dX4_pieces_25 : decode cX4_pieces 25 = .ok (.iaload, 1) := by decide +kernel
theorem dX4_pieces_26 : decode cX4_pieces 26 = .ok (.bipush 44, 2) := by decide +kernel
theorem dX4_pieces_28 : decode cX4_pieces 28 = .ok (.if_icmp .ne 22, 3) := by decide +kernel
theorem dX4_pieces_31 : decode cX4_pieces 31 = .ok (.aload_n 1, 1) := by decide +kernel
theorem dX4_pieces_32 : decode cX4_pieces 32 = .ok (.aload_n 0, 1) := by decide +kernel
theorem dX4_pieces_33 : decode cX4_pieces 33 = .ok (.iload_n 2, 1) := by decide +kernel
theorem dX4_pieces_34 : decode cX4_pieces 34 = .ok (.iload 4, 2) := by decide +kernel
theorem dX4_pieces_36 : decode cX4_pieces 36 = .ok (.invokestatic 31, 3) := by decide +kernel
theorem dX4_pieces_39 : decode cX4_pieces 39 = .ok (.invokevirtual 46, 3) := by decide +kernel
theorem dX4_pieces_42 : decode cX4_pieces 42 = .ok (.pop, 1) := by decide +kernel
theorem dX4_pieces_43 : decode cX4_pieces 43 = .ok (.iload 4, 2) := by decide +kernel
theorem dX4_pieces_45 : decode cX4_pieces 45 = .ok (.iconst 1, 1) := by decide +kernel
theorem dX4_pieces_46 : decode cX4_pieces 46 = .ok (.iadd, 1) := by decide +kernel
theorem dX4_pieces_47 : decode cX4_pieces 47 = .ok (.istore_n 2, 1) := by decide +kernel
theorem dX4_pieces_48 : decode cX4_pieces 48 = .ok (.iconst 1, 1) := by decide +kernel
theorem dX4_pieces_49 : decode cX4_pieces 49 = .ok (.istore_n 3, 1) := by decide +kernel
theorem dX4_pieces_50 : decode cX4_pieces 50 = .ok (.iinc 4 1, 3) := by decide +kernel
theorem dX4_pieces_53 : decode cX4_pieces 53 = .ok (.goto (-38), 3) := by decide +kernel
theorem dX4_pieces_56 : decode cX4_pieces 56 = .ok (.aload_n 1, 1) := by decide +kernel
theorem dX4_pieces_57 : decode cX4_pieces 57 = .ok (.aload_n 0, 1) := by decide +kernel
theorem dX4_pieces_58 : decode cX4_pieces 58 = .ok (.iload_n 2, 1) := by decide +kernel
theorem dX4_pieces_59 : decode cX4_pieces 59 = .ok (.aload_n 0, 1) := by decide +kernel
theorem dX4_pieces_60 : decode cX4_pieces 60 = .ok (.arraylength, 1) := by decide +kernel
theorem dX4_pieces_61 : decode cX4_pieces 61 = .ok (.invokestatic 31, 3) := by decide +kernel
theorem dX4_pieces_64 : decode cX4_pieces 64 = .ok (.invokevirtual 46, 3) := by decide +kernel
theorem dX4_pieces_67 : decode cX4_pieces 67 = .ok (.pop, 1) := by decide +kernel
theorem dX4_pieces_68 : decode cX4_pieces 68 = .ok (.iload_n 3, 1) := by decide +kernel
theorem dX4_pieces_69 : decode cX4_pieces 69 = .ok (.ifCond .eq 41, 3) := by decide +kernel
theorem dX4_pieces_72 : decode cX4_pieces 72 = .ok (.aload_n 1, 1) := by decide +kernel
theorem dX4_pieces_73 : decode cX4_pieces 73 = .ok (.invokevirtual 50, 3) := by decide +kernel
theorem dX4_pieces_76 : decode cX4_pieces 76 = .ok (.ifCond .ne 34, 3) := by decide +kernel
theorem dX4_pieces_79 : decode cX4_pieces 79 = .ok (.aload_n 1, 1) := by decide +kernel
theorem dX4_pieces_80 : decode cX4_pieces 80 = .ok (.aload_n 1, 1) := by decide +kernel
theorem dX4_pieces_81 : decode cX4_pieces 81 = .ok (.invokevirtual 54, 3) := by decide +kernel
theorem dX4_pieces_84 : decode cX4_pieces 84 = .ok (.iconst 1, 1) := by decide +kernel
theorem dX4_pieces_85 : decode cX4_pieces 85 = .ok (.isub, 1) := by decide +kernel
theorem dX4_pieces_86 : decode cX4_pieces 86 = .ok (.invokevirtual 58, 3) := by decide +kernel
theorem dX4_pieces_89 : decode cX4_pieces 89 = .ok (.checkcast 62, 3) := by decide +kernel
theorem dX4_pieces_92 : decode cX4_pieces 92 = .ok (.arraylength, 1) := by decide +kernel
theorem dX4_pieces_93 : decode cX4_pieces 93 = .ok (.ifCond .ne 17, 3) := by decide +kernel
theorem dX4_pieces_96 : decode cX4_pieces 96 = .ok (.aload_n 1, 1) := by decide +kernel
theorem dX4_pieces_97 : decode cX4_pieces 97 = .ok (.aload_n 1, 1) := by decide +kernel
theorem dX4_pieces_98 : decode cX4_pieces 98 = .ok (.invokevirtual 54, 3) := by decide +kernel
theorem dX4_pieces_101 : decode cX4_pieces 101 = .ok (.iconst 1, 1) := by decide +kernel
theorem dX4_pieces_102 : decode cX4_pieces 102 = .ok (.isub, 1) := by decide +kernel
theorem dX4_pieces_103 : decode cX4_pieces 103 = .ok (.invokevirtual 64, 3) := by decide +kernel
theorem dX4_pieces_106 : decode cX4_pieces 106 = .ok (.pop, 1) := by decide +kernel
theorem dX4_pieces_107 : decode cX4_pieces 107 = .ok (.goto (-39), 3) := by decide +kernel
theorem dX4_pieces_110 : decode cX4_pieces 110 = .ok (.aload_n 1, 1) := by decide +kernel
theorem dX4_pieces_111 : decode cX4_pieces 111 = .ok (.areturn, 1) := by decide +kernel
abbrev rmX4_pieces : Room := { frames := 7, cells := 123, slots := 9214, locals := 191 }
theorem mX4_pieces {l : Launch} {G : Cx} {A : Nat → Prop} {a sz : Nat} {t : List Nat} (tok : okc t) (t60 : t.length ≤ 60) : Met l yX4_pieces (.code yX4_pieces cX4_pieces 5 (some (.object "java/util/ArrayList")) :: GW) rmX4_pieces (PC G A [.ref a] (fun H => H.size = sz ∧ IA0 G a t H)) (qR A (fun r H => ∃ (es pe : List Nat), isCut t es ∧ LQ G A r pe H ∧ pe.length = es.length ∧ sz ≤ r ∧ ∀ i : Nat, i < es.length → IA0 G (pe.getD i 0) (cutL t (bgE es i) (es.getD i 0)) H ∧ sz ≤ pe.getD i 0)) 123 9214 (A) := by
  refine mstart "SigntextModel" (by decide +kernel) rfl (Nat.le_of_ble_eq_true rfl) ?_
  intro p e s m below meth c ls hx hb hr hts hown hml hlocks hname hC hA hW hl
  have hl : lv_has ls 5 [(0, .ref a)] := hl
  have hK := hC.1
  have hS : va_S A s.heap s.heap [] := va_S.rf
  obtain ⟨hsz, hR⟩ := hW
  refine h_new (D := G.1) (C := RJx4a65c) (T := TJx4a65c) (N := 3) (ci := 3) (fs := [.int 0, .null, .int 0]) hx hb hts inJx4a65c tyJx4a65c tyJx4a65c_ok hown (hts _ tw_4_143) (hts _ tw_4_144) (hts _ tw_1_11) hK hS rfl (fun j hj => match j, hj with | 0, _ => rfl | 1, _ => rfl | 2, _ => rfl) (Nat.le_trans (show 0 + 1 ≤ 123 by omega) (Nat.le_of_ble_eq_true rfl)) (Nat.le_trans (show 0 + 3 ≤ 9214 by omega) (Nat.le_of_ble_eq_true rfl)) dX4_pieces_0 (fun pa H1 hpa hOpa z1 o1 hS => ?_)
  have hZ1 := hS.1
  have hMpa : A pa := hA pa (by omega)
  have hR := hR.n o1
  refine lv_dup hx hb dX4_pieces_3 rfl ?_
  refine qV_I (A := A) (A1 := ow pa pa H1.size) (b := pa) (As := []) (rest := .ref pa :: []) ⟨hx, hb, hml, hown, hts⟩ (mJx4a65c_init_da8c8 (A := ow pa pa H1.size) (Or.inl rfl)) (cwI 0 hts (gI tw_4_147) rfl rfl rfl (hts _ tw_1_11) (hts _ tw_4_145) (hts _ tw_4_146) rfl (by decide +kernel) ⟨Nat.le_of_ble_eq_true rfl, Nat.le_of_ble_eq_true rfl⟩) hC hS (ow_in hMpa hMpa hA (by omega)) ow_n  hOpa rfl rfl hl.1 (Nat.le_of_ble_eq_true rfl) ⟨Nat.le_trans (show (0 + 1) ≤ 123 by omega) (Nat.le_of_ble_eq_true rfl), Nat.le_trans (show (0 + 3) ≤ 9214 by omega) (Nat.le_of_ble_eq_true rfl)⟩ dX4_pieces_4 (fun H2 L2 hP2 hk2 hS => ?_)
  have hZ2 := hS.1
  have hra : a ≠ pa := by have h8 := hOpa; rintro rfl; exact at_ne_oa hK h8 (r := (RJx4a65c, TJx4a65c, 3)) rfl hR.fst 0 rfl rfl
  have hR := hR.kp hk2 (ow_no hra hra hR.lt)
  have hL : LQ G A pa [] H2 := LQ_mono (ow_in hMpa hMpa hA (by omega)) hP2
  have hpsz : sz ≤ pa := by omega
  refine lv_astore_n (lv' := [(1, .ref pa), (0, .ref a)]) hx hb dX4_pieces_7 rfl hl (by decide) rfl (fun ls hl => ?_)
  refine lv_iconst (v := nI 0) hx hb dX4_pieces_8 (by decide) ?_
  refine lv_istore_n (lv' := [(2, .int (nI 0)), (1, .ref pa), (0, .ref a)]) hx hb dX4_pieces_9 rfl hl (by decide) rfl (fun ls hl => ?_)
  refine lv_iconst (v := nI 0) hx hb dX4_pieces_10 (by decide) ?_
  refine lv_istore_n (lv' := [(3, .int (nI 0)), (2, .int (nI 0)), (1, .ref pa), (0, .ref a)]) hx hb dX4_pieces_11 rfl hl (by decide) rfl (fun ls hl => ?_)
  refine lv_iconst (v := nI 0) hx hb dX4_pieces_12 (by decide) ?_
  refine lv_istore (lv' := [(4, .int (nI 0)), (3, .int (nI 0)), (2, .int (nI 0)), (1, .ref pa), (0, .ref a)]) hx hb dX4_pieces_13 hl (by decide) rfl (fun ls hl => ?_)
  refine W.widen (k := 1 + 0 * 2) (n := 3 + 0 * 151) (by decide) (by decide) ?_
  have hl : lv_has ls 5 [(4, .int (nI 0)), (3, .int (bI false)), (2, .int (nI (bgE [] 0))), (1, .ref pa), (0, .ref a)] := (lv_sub hl [0, 1, 2, 3, 4] rfl)
  refine nloop (P := fun j => ∀ (ls : Array Slot) (H : Heap) (L : List Loc) (e9 pe : List Nat) (b : Bool), lv_has ls 5 [(4, .int (nI j)), (3, .int (bI b)), (2, .int (nI (bgE e9 e9.length))), (1, .ref pa), (0, .ref a)] → va_S A s.heap H L → IA0 G a t H → LQ G A pa pe H → pe.length = e9.length → (∀ i : Nat, i < e9.length → IA0 G (pe.getD i 0) (cutL t (bgE e9 i) (e9.getD i 0)) H ∧ sz ≤ pe.getD i 0) → e9 ++ comE (t.drop j) j = comE t 0 → bgE e9 e9.length ≤ j → (b = true ↔ 0 < e9.length) → W p l e rmX4_pieces s m [.ref a].toArray below meth c H L (1 + j * 2) (3 + j * 151) (MQ below (qR A (fun r H => ∃ (es pe : List Nat), isCut t es ∧ LQ G A r pe H ∧ pe.length = es.length ∧ sz ≤ r ∧ ∀ i : Nat, i < es.length → IA0 G (pe.getD i 0) (cutL t (bgE es i) (es.getD i 0)) H ∧ sz ≤ pe.getD i 0)) [.ref a].toArray s 123 9214 (A)) (F0 m 15 ls [])) t.length ?_ 0 (Nat.zero_le _) ls H2 L2 [] [] false hl hS hR hL rfl (fun i hi => absurd hi (Nat.not_lt_zero i)) rfl (Nat.zero_le _) ⟨fun q => Bool.noConfusion q, fun q => absurd q (Nat.lt_irrefl 0)⟩
  clear hl
  intro j hj ih ls H L e9 pe b hl
  clear hS hR hL
  intro hS hR hL hpl hrw hEE hbg hb9
  have hZ0 := hS.1
  have h60 := comE_room hEE
  have hR1 := hR.ia hC.2.1.2
  refine lv_iload hx hb dX4_pieces_15 (lv_at hl 0 rfl) ?_
  refine lv_aload_n hx hb dX4_pieces_17 rfl (lv_at hl 4 rfl) ?_
  refine h_ilen hx hb hC.2.1 hR1 dX4_pieces_18 ?_
  have hAp : A pa := hMpa
  refine b_ge (tgt := 56) hx hb dX4_pieces_19 (by decide) (by omega) (by omega) (fun c_3 => ?_) (fun c_3 => ?_)
  · have ej : j = t.length := by omega
    clear ih
    subst ej
    have hEE : e9 ++ [t.length] = comE t 0 := by rw [List.drop_length] at hEE; exact hEE
    refine lv_aload_n hx hb dX4_pieces_56 rfl (lv_at hl 3 rfl) ?_
    refine lv_aload_n hx hb dX4_pieces_57 rfl (lv_at hl 4 rfl) ?_
    refine lv_iload_n hx hb dX4_pieces_58 rfl (lv_at hl 2 rfl) ?_
    refine lv_aload_n hx hb dX4_pieces_59 rfl (lv_at hl 4 rfl) ?_
    refine h_ilen hx hb hC.2.1 hR1 dX4_pieces_60 ?_
    have hra9 := hR.lt
    refine qR_S (A := A) (A1 := nw H.size)  (As := [.ref a, .int (nI (bgE e9 e9.length)), .int (nI t.length)]) (rest := .ref pa :: []) ⟨hx, hb, hml, hown, hts⟩ (mX4_cut (A := nw H.size) (sz := H.size) (t := t) (i := bgE e9 e9.length) (i2 := t.length) hbg (Nat.le_refl _) (by omega)) (va_cwS 3 hts (gS tw_4_226 tw_4_227 tw_1_8 tw_4_228) rfl rfl rfl (by decide +kernel) ⟨Nat.le_of_ble_eq_true rfl, Nat.le_of_ble_eq_true rfl⟩) hC hS (nw_in hA hS.1) nw_n  ⟨rfl, hR1⟩ rfl rfl hl.1 (Nat.le_of_ble_eq_true rfl) ⟨Nat.le_trans (show (1 + t.length * 2) + 1 ≤ 123 by omega) (Nat.le_of_ble_eq_true rfl), Nat.le_trans (show (3 + t.length * 151) + 61 ≤ 9214 by omega) (Nat.le_of_ble_eq_true rfl)⟩ dX4_pieces_61 (fun rv4 H4 L4 hP4 hk4 hS => ?_)
    have hZ4 := hS.1
    have hN := hP4.2
    have hNz := hP4.1
    have hR := hR.kp hk4 (Nat.not_le_of_lt hR.lt)
    have hL : LQ G A pa pe H4 := LQ_kp hL hk4 (fun q hq => Nat.not_le_of_lt hq)
    have hrw : ∀ i : Nat, i < e9.length → IA0 G (pe.getD i 0) (cutL t (bgE e9 i) (e9.getD i 0)) H4 ∧ sz ≤ pe.getD i 0 := fun i hi => ⟨(hrw i hi).1.kp hk4 (Nat.not_le_of_lt (hrw i hi).1.lt), (hrw i hi).2⟩
    refine qI_V (A := A) (A1 := (fun q9 => A q9 ∧ ¬ ∃ t9, IA0 G q9 t9 H4)) (b := pa) (As := [.ref rv4]) (rest := []) ⟨hx, hb, hml, hown, hts⟩ (mJx4a65c_add_9ea2d (A := (fun q9 => A q9 ∧ ¬ ∃ t9, IA0 G q9 t9 H4)) (pe := pe) (t := cutL t (bgE e9 e9.length) t.length) (LQ_A hK hL hAp) (by omega)) (cwV 1 hts (gV tw_5_85 tw_5_86 tw_5_87 tw_1_11 tw_5_88) rfl rfl rfl (by decide +kernel) ⟨Nat.le_of_ble_eq_true rfl, Nat.le_of_ble_eq_true rfl⟩) hC hS (fun _ h => h.1) (fun q h => ⟨hA q (Nat.le_trans hS.1 h), fun ⟨t9, z9⟩ => by have := z9.lt; omega⟩) (LQ_recv hK hL) ⟨LQ_sub hK hL, fun i hi => ⟨_, (hrw i (by omega)).1⟩, hN⟩ rfl rfl hl.1 (Nat.le_of_ble_eq_true rfl) ⟨Nat.le_trans (show ((1 + t.length * 2) + 1) + 1 ≤ 123 by omega) (Nat.le_of_ble_eq_true rfl), Nat.le_trans (show ((3 + t.length * 151) + 61) + 90 ≤ 9214 by omega) (Nat.le_of_ble_eq_true rfl)⟩ dX4_pieces_64 (fun rv5 H5 L5 hP5 hk5 hS => ?_)
    have hZ5 := hS.1
    have hL : LQ G A pa (pe ++ [rv4]) H5 := LQ_mono (fun _ h => h.1) hP5.2
    have hR := hR.kp hk5 (fun q => q.2 ⟨_, hR⟩)
    have hrw : ∀ i : Nat, i < (e9 ++ [t.length]).length → IA0 G ((pe ++ [rv4]).getD i 0) (cutL t (bgE (e9 ++ [t.length]) i) ((e9 ++ [t.length]).getD i 0)) H5 ∧ sz ≤ (pe ++ [rv4]).getD i 0 := fun i hi => by rw [List.length_append] at hi; have hi : i < e9.length + 1 := hi; rw [bgE_app (by omega)]; rcases Nat.lt_or_ge i e9.length with q | q; rw [getD_app1 q, getD_app1 (by omega)]; exact ⟨(hrw i q).1.kp hk5 (fun z => z.2 ⟨_, (hrw i q).1⟩), (hrw i q).2⟩; rw [show i = e9.length by omega, getD_last, ← hpl, getD_last, hpl]; exact ⟨hN.kp hk5 (fun z => z.2 ⟨_, hN⟩), by omega⟩
    have hpl : (pe ++ [rv4]).length = (e9 ++ [t.length]).length := by rw [List.length_append, List.length_append, hpl]; rfl
    obtain ⟨E, hEd⟩ : ∃ E, E = e9 ++ [t.length] := ⟨_, rfl⟩
    obtain ⟨PE, hPd⟩ : ∃ PE, PE = pe ++ [rv4] := ⟨_, rfl⟩
    rw [← hEd] at hrw hpl hEE
    rw [← hPd] at hrw hpl hL
    have hEl : E.length = e9.length + 1 := by rw [hEd, List.length_append]; rfl
    refine lv_pop hx hb dX4_pieces_67 rfl ?_
    have hl : lv_has ls 5 [(3, .int (bI b)), (1, .ref pa)] := (lv_sub hl [1, 3] rfl)
    generalize hcl : (((1 + t.length * 2) + 1) + 1) = CC
    generalize hsl : (((3 + t.length * 151) + 61) + 90) = SS9
    refine dloop (P := fun j => ∀ (ls : Array Slot) (H : Heap) (L : List Loc), lv_has ls 5 [(3, .int (bI b)), (1, .ref pa)] → va_S A s.heap H L → LQ G A pa (PE.take j) H → (∀ i : Nat, i < E.length → IA0 G (PE.getD i 0) (cutL t (bgE E i) (E.getD i 0)) H ∧ sz ≤ PE.getD i 0) → j ≤ E.length → (j < E.length → b = true) → (∀ k : Nat, j ≤ k → k < E.length → bgE E k = E.getD k 0) → W p l e rmX4_pieces s m [.ref a].toArray below meth c H L CC SS9 (MQ below (qR A (fun r H => ∃ (es pe : List Nat), isCut t es ∧ LQ G A r pe H ∧ pe.length = es.length ∧ sz ≤ r ∧ ∀ i : Nat, i < es.length → IA0 G (pe.getD i 0) (cutL t (bgE es i) (es.getD i 0)) H ∧ sz ≤ pe.getD i 0)) [.ref a].toArray s 123 9214 (A)) (F0 m 68 ls [])) ?_ E.length ls H5 L5 hl hS (by rw [← hpl, List.take_length]; exact hL) hrw (Nat.le_refl _) (fun q => absurd q (Nat.lt_irrefl _)) (fun k h1 h2 => absurd h2 (by omega))
    clear hl
    intro j ih ls H L hl
    clear hS hL hrw hR hR1
    intro hS hL hrw hjE hjb hem
    have hZ0 := hS.1
    have hjl : (PE.take j).length = j := by rw [List.length_take]; omega
    refine lv_iload_n hx hb dX4_pieces_68 rfl (lv_at hl 0 rfl) ?_
    refine f_eq (tgt := 110) hx hb dX4_pieces_69 (by decide) (fun c_6 => ?_) (fun c_6 => ?_)
    · have he0 : ¬ 0 < e9.length := fun q => by rw [hb9.mpr q] at c_6; exact Bool.noConfusion c_6
      have hje : j = E.length := by rcases Nat.lt_or_ge j E.length with q | q; rw [hjb q] at c_6; exact Bool.noConfusion c_6; omega
      refine lv_aload_n hx hb dX4_pieces_110 rfl (lv_at hl 1 rfl) ?_
      exact q_a hx hb hr (Or.inl ⟨_, rfl⟩) hlocks dX4_pieces_111 hS (by omega) (by omega) ⟨E.take j, PE.take j, ⟨j, by rw [← hEE]; exact hjE, by rw [← hEE], by rw [← hEE]; exact (Or.inl ⟨by omega, hje⟩)⟩, hL, by rw [List.length_take, List.length_take, hpl], hpsz, fun i hi => by rw [List.length_take] at hi; rw [getD_take (by omega), getD_take (by omega), bgE_take (by omega)]; exact hrw i (by omega)⟩
    · have he1 : 1 < E.length := by have := hb9.mp c_6; omega
      obtain ⟨md, ed, hO⟩ := LQ_obj hL
      rw [hjl] at hO
      refine lv_aload_n hx hb dX4_pieces_72 rfl (lv_at hl 1 rfl) ?_
      refine kV_i (A := A) (b := pa) (As := []) (rest := []) ⟨hx, hb, hml, hown, hts⟩ (mJx4a65c_isEmpty_aae02 (A := A) (ed := ed) (n := j) (md := md) (by omega)) (cwV 0 hts (gV tw_5_144 tw_5_145 tw_5_146 tw_1_11 tw_5_147) rfl rfl rfl (by decide +kernel) ⟨Nat.le_of_ble_eq_true rfl, Nat.le_of_ble_eq_true rfl⟩) hC hS hA (LQ_recv hK hL) hO rfl rfl hl.1 (Nat.le_of_ble_eq_true rfl) ⟨Nat.le_trans (show CC ≤ 123 by omega) (Nat.le_of_ble_eq_true rfl), Nat.le_trans (show SS9 ≤ 9214 by omega) (Nat.le_of_ble_eq_true rfl)⟩ dX4_pieces_73 (fun r9 h9 => lv_cv h9 ?_)
      refine f_ne (tgt := 110) hx hb dX4_pieces_76 (by decide) (fun c_7 => ?_) (fun c_7 => ?_)
      · have hj0 : j = 0 := of_decide_eq_true c_7
        refine lv_aload_n hx hb dX4_pieces_110 rfl (lv_at hl 1 rfl) ?_
        exact q_a hx hb hr (Or.inl ⟨_, rfl⟩) hlocks dX4_pieces_111 hS (by omega) (by omega) ⟨E.take j, PE.take j, ⟨j, by rw [← hEE]; exact hjE, by rw [← hEE], by rw [← hEE]; exact (Or.inr ⟨he1, hem, fun q => absurd q (by omega)⟩)⟩, hL, by rw [List.length_take, List.length_take, hpl], hpsz, fun i hi => by rw [List.length_take] at hi; rw [getD_take (by omega), getD_take (by omega), bgE_take (by omega)]; exact hrw i (by omega)⟩
      · have hj1 : 1 ≤ j := by have := of_decide_eq_false c_7; omega
        refine lv_aload_n hx hb dX4_pieces_79 rfl (lv_at hl 1 rfl) ?_
        refine lv_aload_n hx hb dX4_pieces_80 rfl (lv_at hl 1 rfl) ?_
        refine kV_i (A := A) (b := pa) (As := []) (rest := .ref pa :: []) ⟨hx, hb, hml, hown, hts⟩ (mJx4a65c_size_8abf5 (A := A) (ed := ed) (n := j) (md := md) (by omega)) (cwV 0 hts (gV tw_5_148 tw_5_149 tw_5_150 tw_1_11 tw_5_151) rfl rfl rfl (by decide +kernel) ⟨Nat.le_of_ble_eq_true rfl, Nat.le_of_ble_eq_true rfl⟩) hC hS hA (LQ_recv hK hL) hO rfl rfl hl.1 (Nat.le_of_ble_eq_true rfl) ⟨Nat.le_trans (show CC ≤ 123 by omega) (Nat.le_of_ble_eq_true rfl), Nat.le_trans (show SS9 ≤ 9214 by omega) (Nat.le_of_ble_eq_true rfl)⟩ dX4_pieces_81 (fun r9 h9 => lv_cv h9 ?_)
        refine lv_iconst (v := nI 1) hx hb dX4_pieces_84 (by decide) ?_
        refine lv_isub hx hb dX4_pieces_85 ?_
        refine lv_cv (pk_sub (a := j) (b := 1) (by omega)) ?_
        obtain ⟨md2, ed2, cap2, f2, q1, q2, q3, q4, q5, q6, q7⟩ := LQ_some hL (by omega)
        rw [hjl] at q1 q4 q7
        have hq7 := q7 (j - 1) (by omega)
        rw [getD_take (by omega)] at hq7
        have hrj := (hrw (j - 1) (by omega)).1
        refine kV_a (A := A) (b := pa) (As := [.int (nI (j - 1))]) (rest := []) ⟨hx, hb, hml, hown, hts⟩ (mJx4a65c_get_915e3 (A := A) (j := j - 1) (n := j) (f := f2) (cap := cap2) (md := md2) (ed := ed2) (by omega) q4 (by omega) hq7) (cwV 1 hts (gV tw_5_152 tw_5_153 tw_5_154 tw_1_11 tw_5_155) rfl rfl rfl (by decide +kernel) ⟨Nat.le_of_ble_eq_true rfl, Nat.le_of_ble_eq_true rfl⟩) hC hS hA (LQ_recv hK hL) ⟨q1, q2⟩ rfl rfl hl.1 (Nat.le_of_ble_eq_true rfl) ⟨Nat.le_trans (show CC ≤ 123 by omega) (Nat.le_of_ble_eq_true rfl), Nat.le_trans (show SS9 ≤ 9214 by omega) (Nat.le_of_ble_eq_true rfl)⟩ dX4_pieces_86 (fun a_8 ha_8 => ?_)
        have e7 : a_8 = PE.getD (j - 1) 0 := ha_8
        subst e7
        refine va_castA (D := G.1) hx hb hown (hts _ tw_5_164) (at_P hrj.fst) 0 rfl (findIA hK) dX4_pieces_89 ?_
        have hrj1 := hrj.ia hC.2.1.2
        have hok := (hEE ▸ comE_ok t : okE t E) (j - 1) (by omega)
        have hcl9 := cutL_len (t := t) (i := bgE E (j - 1)) (j := E.getD (j - 1) 0) hok.2
        have hcle := cutL_le t (bgE E (j - 1)) (E.getD (j - 1) 0)
        refine h_ilen hx hb hC.2.1 hrj1 dX4_pieces_92 ?_
        refine z_ne (tgt := 110) hx hb dX4_pieces_93 (by decide) (by omega) (fun c_9 => ?_) (fun c_9 => ?_)
        · refine lv_aload_n hx hb dX4_pieces_110 rfl (lv_at hl 1 rfl) ?_
          exact q_a hx hb hr (Or.inl ⟨_, rfl⟩) hlocks dX4_pieces_111 hS (by omega) (by omega) ⟨E.take j, PE.take j, ⟨j, by rw [← hEE]; exact hjE, by rw [← hEE], by rw [← hEE]; exact (Or.inr ⟨he1, hem, fun _ q => c_9 (by omega)⟩)⟩, hL, by rw [List.length_take, List.length_take, hpl], hpsz, fun i hi => by rw [List.length_take] at hi; rw [getD_take (by omega), getD_take (by omega), bgE_take (by omega)]; exact hrw i (by omega)⟩
        · refine lv_aload_n hx hb dX4_pieces_96 rfl (lv_at hl 1 rfl) ?_
          refine lv_aload_n hx hb dX4_pieces_97 rfl (lv_at hl 1 rfl) ?_
          refine kV_i (A := A) (b := pa) (As := []) (rest := .ref pa :: []) ⟨hx, hb, hml, hown, hts⟩ (mJx4a65c_size_8abf5 (A := A) (ed := ed) (n := j) (md := md) (by omega)) (cwV 0 hts (gV tw_5_148 tw_5_149 tw_5_150 tw_1_11 tw_5_151) rfl rfl rfl (by decide +kernel) ⟨Nat.le_of_ble_eq_true rfl, Nat.le_of_ble_eq_true rfl⟩) hC hS hA (LQ_recv hK hL) hO rfl rfl hl.1 (Nat.le_of_ble_eq_true rfl) ⟨Nat.le_trans (show CC ≤ 123 by omega) (Nat.le_of_ble_eq_true rfl), Nat.le_trans (show SS9 ≤ 9214 by omega) (Nat.le_of_ble_eq_true rfl)⟩ dX4_pieces_98 (fun r9 h9 => lv_cv h9 ?_)
          refine lv_iconst (v := nI 1) hx hb dX4_pieces_101 (by decide) ?_
          refine lv_isub hx hb dX4_pieces_102 ?_
          refine lv_cv (pk_sub (a := j) (b := 1) (by omega)) ?_
          have etk : PE.take j = PE.take (j - 1) ++ [PE.getD (j - 1) 0] := take_s (by omega) hj1
          have hjm : (PE.take (j - 1)).length = j - 1 := by rw [List.length_take]; omega
          rw [etk] at hL
          refine lv_cv (show nI (j - 1) = nI (PE.take (j - 1)).length from by rw [hjm]) ?_
          refine qR_V (A := A) (A1 := (fun q9 => A q9 ∧ ¬ ∃ t9, IA0 G q9 t9 H)) (b := pa) (As := [.int (nI ((PE.take (j - 1)).length))]) (rest := []) ⟨hx, hb, hml, hown, hts⟩ (mJx4a65c_remove_915e3 (A := (fun q9 => A q9 ∧ ¬ ∃ t9, IA0 G q9 t9 H)) (pe := PE.take (j - 1)) (x9 := PE.getD (j - 1) 0) (LQ_A hK hL hAp)) (cwV 1 hts (gV tw_5_165 tw_5_166 tw_5_167 tw_1_11 tw_5_168) rfl rfl rfl (by decide +kernel) ⟨Nat.le_of_ble_eq_true rfl, Nat.le_of_ble_eq_true rfl⟩) hC hS (fun _ h => h.1) (fun q h => ⟨hA q (Nat.le_trans hS.1 h), fun ⟨t9, z9⟩ => by have := z9.lt; omega⟩) (LQ_recv hK hL) (LQ_sub hK hL) rfl rfl hl.1 (Nat.le_of_ble_eq_true rfl) ⟨Nat.le_trans (show CC ≤ 123 by omega) (Nat.le_of_ble_eq_true rfl), Nat.le_trans (show SS9 ≤ 9214 by omega) (Nat.le_of_ble_eq_true rfl)⟩ dX4_pieces_103 (fun rv10 H10 L10 hP10 hk10 hS => ?_)
          have hZ10 := hS.1
          refine lv_pop hx hb dX4_pieces_106 rfl ?_
          refine lv_goto (tgt := 68) hx hb dX4_pieces_107 (by decide) ?_
          exact ih (j - 1) (by omega) ls H10 L10 (lv_sub hl [0, 1] rfl) hS (LQ_mono (fun _ h => h.1) hP10) (fun i hi => ⟨(hrw i hi).1.kp hk10 (fun z => z.2 ⟨_, (hrw i hi).1⟩), (hrw i hi).2⟩) (by omega) (fun _ => c_6) (fun k h1 h2 => by rcases Nat.lt_or_ge k j with q | q; rw [show k = j - 1 by omega]; omega; exact hem k q h2)
  · refine lv_aload_n hx hb dX4_pieces_22 rfl (lv_at hl 4 rfl) ?_
    refine lv_iload hx hb dX4_pieces_23 (lv_at hl 0 rfl) ?_
    refine h_ild hx hb hC.2.1 hR1 (i := j) (by omega) (by omega) dX4_pieces_25 ?_
    refine lv_bipush (v := nI 44) hx hb dX4_pieces_26 (by decide) ?_
    have ok9 := tok j
    refine b_ne (tgt := 50) hx hb dX4_pieces_28 (by decide) (by omega) (by omega) (fun c_11 => ?_) (fun c_11 => ?_)
    · refine lv_iinc (v := nI (j + 1)) (lv' := [(4, .int (nI (j + 1))), (3, .int (bI b)), (2, .int (nI (bgE e9 e9.length))), (1, .ref pa), (0, .ref a)]) hx hb dX4_pieces_50 hl (k := 0) rfl (nI_add j 1) (by decide) rfl (fun ls hl => ?_)
      refine lv_goto (tgt := 15) hx hb dX4_pieces_53 (by decide) ?_
      refine W.widen (k := 1 + (j + 1) * 2) (n := 3 + (j + 1) * 151) (by omega) (by omega) ?_
      exact ih (j + 1) (by omega) (by omega) ls H L e9 pe b (lv_sub hl [0, 1, 2, 3, 4] rfl) hS hR hL hpl hrw (by rw [← hEE, comE_ne (by omega) c_11]) (by omega) hb9
    · refine lv_aload_n hx hb dX4_pieces_31 rfl (lv_at hl 3 rfl) ?_
      refine lv_aload_n hx hb dX4_pieces_32 rfl (lv_at hl 4 rfl) ?_
      refine lv_iload_n hx hb dX4_pieces_33 rfl (lv_at hl 2 rfl) ?_
      refine lv_iload hx hb dX4_pieces_34 (lv_at hl 0 rfl) ?_
      have hra9 := hR.lt
      refine qR_S (A := A) (A1 := nw H.size)  (As := [.ref a, .int (nI (bgE e9 e9.length)), .int (nI j)]) (rest := .ref pa :: []) ⟨hx, hb, hml, hown, hts⟩ (mX4_cut (A := nw H.size) (sz := H.size) (t := t) (i := bgE e9 e9.length) (i2 := j) hbg (by omega) (by omega)) (va_cwS 3 hts (gS tw_4_226 tw_4_227 tw_1_8 tw_4_228) rfl rfl rfl (by decide +kernel) ⟨Nat.le_of_ble_eq_true rfl, Nat.le_of_ble_eq_true rfl⟩) hC hS (nw_in hA hS.1) nw_n  ⟨rfl, hR1⟩ rfl rfl hl.1 (Nat.le_of_ble_eq_true rfl) ⟨Nat.le_trans (show (1 + j * 2) + 1 ≤ 123 by omega) (Nat.le_of_ble_eq_true rfl), Nat.le_trans (show (3 + j * 151) + 61 ≤ 9214 by omega) (Nat.le_of_ble_eq_true rfl)⟩ dX4_pieces_36 (fun rv12 H12 L12 hP12 hk12 hS => ?_)
      have hZ12 := hS.1
      have hN := hP12.2
      have hNz := hP12.1
      have hR := hR.kp hk12 (Nat.not_le_of_lt hR.lt)
      have hL : LQ G A pa pe H12 := LQ_kp hL hk12 (fun q hq => Nat.not_le_of_lt hq)
      have hrw : ∀ i : Nat, i < e9.length → IA0 G (pe.getD i 0) (cutL t (bgE e9 i) (e9.getD i 0)) H12 ∧ sz ≤ pe.getD i 0 := fun i hi => ⟨(hrw i hi).1.kp hk12 (Nat.not_le_of_lt (hrw i hi).1.lt), (hrw i hi).2⟩
      refine qI_V (A := A) (A1 := (fun q9 => A q9 ∧ ¬ ∃ t9, IA0 G q9 t9 H12)) (b := pa) (As := [.ref rv12]) (rest := []) ⟨hx, hb, hml, hown, hts⟩ (mJx4a65c_add_9ea2d (A := (fun q9 => A q9 ∧ ¬ ∃ t9, IA0 G q9 t9 H12)) (pe := pe) (t := cutL t (bgE e9 e9.length) j) (LQ_A hK hL hAp) (by omega)) (cwV 1 hts (gV tw_5_85 tw_5_86 tw_5_87 tw_1_11 tw_5_88) rfl rfl rfl (by decide +kernel) ⟨Nat.le_of_ble_eq_true rfl, Nat.le_of_ble_eq_true rfl⟩) hC hS (fun _ h => h.1) (fun q h => ⟨hA q (Nat.le_trans hS.1 h), fun ⟨t9, z9⟩ => by have := z9.lt; omega⟩) (LQ_recv hK hL) ⟨LQ_sub hK hL, fun i hi => ⟨_, (hrw i (by omega)).1⟩, hN⟩ rfl rfl hl.1 (Nat.le_of_ble_eq_true rfl) ⟨Nat.le_trans (show ((1 + j * 2) + 1) + 1 ≤ 123 by omega) (Nat.le_of_ble_eq_true rfl), Nat.le_trans (show ((3 + j * 151) + 61) + 90 ≤ 9214 by omega) (Nat.le_of_ble_eq_true rfl)⟩ dX4_pieces_39 (fun rv13 H13 L13 hP13 hk13 hS => ?_)
      have hZ13 := hS.1
      have hL : LQ G A pa (pe ++ [rv12]) H13 := LQ_mono (fun _ h => h.1) hP13.2
      have hR := hR.kp hk13 (fun q => q.2 ⟨_, hR⟩)
      have hrw : ∀ i : Nat, i < (e9 ++ [j]).length → IA0 G ((pe ++ [rv12]).getD i 0) (cutL t (bgE (e9 ++ [j]) i) ((e9 ++ [j]).getD i 0)) H13 ∧ sz ≤ (pe ++ [rv12]).getD i 0 := fun i hi => by rw [List.length_append] at hi; have hi : i < e9.length + 1 := hi; rw [bgE_app (by omega)]; rcases Nat.lt_or_ge i e9.length with q | q; rw [getD_app1 q, getD_app1 (by omega)]; exact ⟨(hrw i q).1.kp hk13 (fun z => z.2 ⟨_, (hrw i q).1⟩), (hrw i q).2⟩; rw [show i = e9.length by omega, getD_last, ← hpl, getD_last, hpl]; exact ⟨hN.kp hk13 (fun z => z.2 ⟨_, hN⟩), by omega⟩
      have hpl : (pe ++ [rv12]).length = (e9 ++ [j]).length := by rw [List.length_append, List.length_append, hpl]; rfl
      refine lv_pop hx hb dX4_pieces_42 rfl ?_
      refine lv_iload hx hb dX4_pieces_43 (lv_at hl 0 rfl) ?_
      refine lv_iconst (v := nI 1) hx hb dX4_pieces_45 (by decide) ?_
      refine lv_iadd hx hb dX4_pieces_46 ?_
      refine lv_cv (nI_add j 1) ?_
      refine lv_istore_n (lv' := [(2, .int (nI (j + 1))), (4, .int (nI j)), (3, .int (bI b)), (1, .ref pa), (0, .ref a)]) hx hb dX4_pieces_47 rfl hl (by decide) rfl (fun ls hl => ?_)
      refine lv_iconst (v := bI true) hx hb dX4_pieces_48 (by decide) ?_
      refine lv_istore_n (lv' := [(3, .int (bI true)), (2, .int (nI (j + 1))), (4, .int (nI j)), (1, .ref pa), (0, .ref a)]) hx hb dX4_pieces_49 rfl hl (by decide) rfl (fun ls hl => ?_)
      refine lv_iinc (v := nI (j + 1)) (lv' := [(4, .int (nI (j + 1))), (3, .int (bI true)), (2, .int (nI (j + 1))), (1, .ref pa), (0, .ref a)]) hx hb dX4_pieces_50 hl (k := 2) rfl (nI_add j 1) (by decide) rfl (fun ls hl => ?_)
      refine lv_goto (tgt := 15) hx hb dX4_pieces_53 (by decide) ?_
      refine W.widen (k := 1 + (j + 1) * 2) (n := 3 + (j + 1) * 151) (by omega) (by omega) ?_
      have ebg : bgE (e9 ++ [j]) (e9 ++ [j]).length = j + 1 := by rw [List.length_append]; show (e9 ++ [j]).getD e9.length 0 + 1 = j + 1; rw [getD_last]
      have hl : lv_has ls 5 [(4, .int (nI (j + 1))), (3, .int (bI true)), (2, .int (nI (bgE (e9 ++ [j]) (e9 ++ [j]).length))), (1, .ref pa), (0, .ref a)] := by rw [ebg]; exact (lv_sub hl [0, 1, 2, 3, 4] rfl)
      exact ih (j + 1) (by omega) (by omega) ls H13 L13 (e9 ++ [j]) (pe ++ [rv12]) true (lv_sub hl [0, 1, 2, 3, 4] rfl) hS hR hL hpl hrw (by rw [← hEE, comE_eq (by omega) c_11, List.append_assoc]; rfl) (by rw [ebg]; exact Nat.le_refl _) ⟨fun _ => by rw [List.length_append]; exact Nat.succ_pos _, fun _ => rfl⟩
