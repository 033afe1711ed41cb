/-! The class, 8: whether all is sound, the whole (any answer) -/
theorem FR.s15 {T X : Nat → List Nat} {w : List Nat} (h : ∀ i : Nat, i < 4 ∨ i = 11 ∨ i = 14 → T i = X i) : ∀ i : Nat, i < 4 ∨ i = 11 ∨ i = 14 → updT T 15 w i = X i := fun i hi => (updT_n (by omega)).trans (h i hi)
theorem dX2_isSound_0 : decode cX2_isSound 0 = .ok (.iconst 0, 1) := by decide +kernel
theorem dX2_isSound_1 : decode cX2_isSound 1 = .ok (.istore_n 1, 1) := by decide +kernel
theorem dX2_isSound_2 : decode cX2_isSound 2 = .ok (.iload_n 1, 1) := by decide +kernel
theorem dX2_isSound_3 : decode cX2_isSound 3 = .ok (.iconst 4, 1) := by decide +kernel
theorem dX2_isSound_4 : decode cX2_isSound 4 = .ok (.if_icmp .ge 57, 3) := by decide +kernel
theorem dX2_isSound_7 : decode cX2_isSound 7 = .ok (.aload_n 0, 1) := by decide +kernel
theorem dX2_isSound_8 : decode cX2_isSound 8 = .ok (.aload_n 0, 1) := by decide +kernel
theorem dX2_isSound_9 : decode cX2_isSound 9 = .ok (.getfield 11, 3) := by decide +kernel
theorem dX2_isSound_12 : decode cX2_isSound 12 = .ok (.iload_n 1, 1) := by decide +kernel
theorem dX2_isSound_13 : decode cX2_isSound 13 = .ok (.aaload, 1) := by decide +kernel
theorem dX2_isSound_14 : decode cX2_isSound 14 = .ok (.invokevirtual 195, 3) := by decide +kernel
theorem dX2_isSound_17 : decode cX2_isSound 17 = .ok (.ifCond .ne 5, 3) := by decide +kernel
theorem dX2_isSound_20 : decode cX2_isSound 20 = .ok (.iconst 0, 1) := by decide +kernel
theorem dX2_isSound_21 : decode cX2_isSound 21 = .ok (.ireturn, 1) := by decide +kernel
theorem dX2_isSound_22 : decode cX2_isSound 22 = .ok (.iconst 0, 1) := by decide +kernel
theorem dX2_isSound_23 : decode cX2_isSound 23 = .ok (.istore_n 2, 1) := by decide +kernel
theorem dX2_isSound_24 : decode cX2_isSound 24 = .ok (.iload_n 2, 1) := by decide +kernel
theorem dX2_isSound_25 : decode cX2_isSound 25 = .ok (.iconst 4, 1) := by decide +kernel
theorem dX2_isSound_26 : decode cX2_isSound 26 = .ok (.if_icmp .ge 29, 3) := by decide +kernel
theorem dX2_isSound_29 : decode cX2_isSound 29 = .ok (.aload_n 0, 1) := by decide +kernel
theorem dX2_isSound_30 : decode cX2_isSound 30 = .ok (.getfield 11, 3) := by decide +kernel
theorem dX2_isSound_33 : decode cX2_isSound 33 = .ok (.iload_n 1, 1) := by decide +kernel
theorem dX2_isSound_34 : decode cX2_isSound 34 = .ok (.aaload, 1) := by decide +kernel
theorem dX2_isSound_35 : decode cX2_isSound 35 = .ok (.aload_n 0, 1) := by decide +kernel
theorem dX2_isSound_36 : decode cX2_isSound 36 = .ok (.getfield 11, 3) := by decide +kernel
theorem dX2_isSound_39 : decode cX2_isSound 39 = .ok (.iload_n 2, 1) := by decide +kernel
theorem dX2_isSound_40 : decode cX2_isSound 40 = .ok (.aaload, 1) := by decide +kernel
theorem dX2_isSound_41 : decode cX2_isSound 41 = .ok (.invokestatic 198, 3) := by decide +kernel
theorem dX2_isSound_44 : decode cX2_isSound 44 = .ok (.ifCond .ne 5, 3) := by decide +kernel
theorem dX2_isSound_47 : decode cX2_isSound 47 = .ok (.iconst 0, 1) := by decide +kernel
theorem dX2_isSound_48 : decode cX2_isSound 48 = .ok (.ireturn, 1) := by decide +kernel
theorem dX2_isSound_49 : decode cX2_isSound 49 = .ok (.iinc 2 1, 3) := by decide +kernel
theorem dX2_isSound_52 : decode cX2_isSound 52 = .ok (.goto (-28), 3) := by decide +kernel
theorem dX2_isSound_55 : decode cX2_isSound 55 = .ok (.iinc 1 1, 3) := by decide +kernel
theorem dX2_isSound_58 : decode cX2_isSound 58 = .ok (.goto (-56), 3) := by decide +kernel
theorem dX2_isSound_61 : decode cX2_isSound 61 = .ok (.iconst 1, 1) := by decide +kernel
theorem dX2_isSound_62 : decode cX2_isSound 62 = .ok (.ireturn, 1) := by decide +kernel
theorem dX2_isSoundAlone_0 : decode cX2_isSoundAlone 0 = .ok (.aload_n 0, 1) := by decide +kernel
theorem dX2_isSoundAlone_1 : decode cX2_isSoundAlone 1 = .ok (.aload_n 1, 1) := by decide +kernel
theorem dX2_isSoundAlone_2 : decode cX2_isSoundAlone 2 = .ok (.invokevirtual 264, 3) := by decide +kernel
theorem dX2_isSoundAlone_5 : decode cX2_isSoundAlone 5 = .ok (.ifCond .eq 41, 3) := by decide +kernel
theorem dX2_isSoundAlone_8 : decode cX2_isSoundAlone 8 = .ok (.aload_n 0, 1) := by decide +kernel
theorem dX2_isSoundAlone_9 : decode cX2_isSoundAlone 9 = .ok (.aload_n 1, 1) := by decide +kernel
theorem dX2_isSoundAlone_10 : decode cX2_isSoundAlone 10 = .ok (.invokevirtual 267, 3) := by decide +kernel
theorem dX2_isSoundAlone_13 : decode cX2_isSoundAlone 13 = .ok (.ifCond .eq 33, 3) := by decide +kernel
theorem dX2_isSoundAlone_16 : decode cX2_isSoundAlone 16 = .ok (.aload_n 0, 1) := by decide +kernel
theorem dX2_isSoundAlone_17 : decode cX2_isSoundAlone 17 = .ok (.aload_n 1, 1) := by decide +kernel
theorem dX2_isSoundAlone_18 : decode cX2_isSoundAlone 18 = .ok (.iconst 0, 1) := by decide +kernel
theorem dX2_isSoundAlone_19 : decode cX2_isSoundAlone 19 = .ok (.invokevirtual 270, 3) := by decide +kernel
theorem dX2_isSoundAlone_22 : decode cX2_isSoundAlone 22 = .ok (.ifCond .eq 24, 3) := by decide +kernel
theorem dX2_isSoundAlone_25 : decode cX2_isSoundAlone 25 = .ok (.aload_n 0, 1) := by decide +kernel
theorem dX2_isSoundAlone_26 : decode cX2_isSoundAlone 26 = .ok (.aload_n 1, 1) := by decide +kernel
theorem dX2_isSoundAlone_27 : decode cX2_isSoundAlone 27 = .ok (.iconst 1, 1) := by decide +kernel
theorem dX2_isSoundAlone_28 : decode cX2_isSoundAlone 28 = .ok (.invokevirtual 270, 3) := by decide +kernel
theorem dX2_isSoundAlone_31 : decode cX2_isSoundAlone 31 = .ok (.ifCond .eq 15, 3) := by decide +kernel
theorem dX2_isSoundAlone_34 : decode cX2_isSoundAlone 34 = .ok (.aload_n 0, 1) := by decide +kernel
theorem dX2_isSoundAlone_35 : decode cX2_isSoundAlone 35 = .ok (.aload_n 1, 1) := by decide +kernel
theorem dX2_isSoundAlone_36 : decode cX2_isSoundAlone 36 = .ok (.invokevirtual 273, 3) := by decide +kernel
theorem dX2_isSoundAlone_39 : decode cX2_isSoundAlone 39 = .ok (.ifCond .eq 7, 3) := by decide +kernel
theorem dX2_isSoundAlone_42 : decode cX2_isSoundAlone 42 = .ok (.iconst 1, 1) := by decide +kernel
theorem dX2_isSoundAlone_43 : decode cX2_isSoundAlone 43 = .ok (.goto 4, 3) := by decide +kernel
theorem dX2_isSoundAlone_46 : decode cX2_isSoundAlone 46 = .ok (.iconst 0, 1) := by decide +kernel
theorem dX2_isSoundAlone_47 : decode cX2_isSoundAlone 47 = .ok (.ireturn, 1) := by decide +kernel
theorem dX2_isSameOfPieces_0 : decode cX2_isSameOfPieces 0 = .ok (.aload_n 0, 1) := by decide +kernel
theorem dX2_isSameOfPieces_1 : decode cX2_isSameOfPieces 1 = .ok (.getfield 40, 3) := by decide +kernel
theorem dX2_isSameOfPieces_4 : decode cX2_isSameOfPieces 4 = .ok (.aload_n 1, 1) := by decide +kernel
theorem dX2_isSameOfPieces_5 : decode cX2_isSameOfPieces 5 = .ok (.invokevirtual 135, 3) := by decide +kernel
theorem dX2_isSameOfPieces_8 : decode cX2_isSameOfPieces 8 = .ok (.aload_n 0, 1) := by decide +kernel
theorem dX2_isSameOfPieces_9 : decode cX2_isSameOfPieces 9 = .ok (.getfield 37, 3) := by decide +kernel
theorem dX2_isSameOfPieces_12 : decode cX2_isSameOfPieces 12 = .ok (.invokevirtual 55, 3) := by decide +kernel
theorem dX2_isSameOfPieces_15 : decode cX2_isSameOfPieces 15 = .ok (.iconst 0, 1) := by decide +kernel
theorem dX2_isSameOfPieces_16 : decode cX2_isSameOfPieces 16 = .ok (.istore_n 2, 1) := by decide +kernel
theorem dX2_isSameOfPieces_17 : decode cX2_isSameOfPieces 17 = .ok (.iload_n 2, 1) := by decide +kernel
theorem dX2_isSameOfPieces_18 : decode cX2_isSameOfPieces 18 = .ok (.aload_n 0, 1) := by decide +kernel
theorem dX2_isSameOfPieces_19 : decode cX2_isSameOfPieces 19 = .ok (.getfield 40, 3) := by decide +kernel
theorem dX2_isSameOfPieces_22 : decode cX2_isSameOfPieces 22 = .ok (.invokevirtual 138, 3) := by decide +kernel
theorem dX2_isSameOfPieces_25 : decode cX2_isSameOfPieces 25 = .ok (.if_icmp .ge 52, 3) := by decide +kernel
theorem dX2_isSameOfPieces_28 : decode cX2_isSameOfPieces 28 = .ok (.iload_n 2, 1) := by decide +kernel
theorem dX2_isSameOfPieces_29 : decode cX2_isSameOfPieces 29 = .ok (.ifCond .le 12, 3) := by decide +kernel
theorem dX2_isSameOfPieces_32 : decode cX2_isSameOfPieces 32 = .ok (.aload_n 0, 1) := by decide +kernel
theorem dX2_isSameOfPieces_33 : decode cX2_isSameOfPieces 33 = .ok (.getfield 37, 3) := by decide +kernel
theorem dX2_isSameOfPieces_36 : decode cX2_isSameOfPieces 36 = .ok (.bipush 44, 2) := by decide +kernel
theorem dX2_isSameOfPieces_38 : decode cX2_isSameOfPieces 38 = .ok (.invokevirtual 119, 3) := by decide +kernel
theorem dX2_isSameOfPieces_41 : decode cX2_isSameOfPieces 41 = .ok (.aload_n 0, 1) := by decide +kernel
theorem dX2_isSameOfPieces_42 : decode cX2_isSameOfPieces 42 = .ok (.getfield 37, 3) := by decide +kernel
theorem dX2_isSameOfPieces_45 : decode cX2_isSameOfPieces 45 = .ok (.aload_n 0, 1) := by decide +kernel
theorem dX2_isSameOfPieces_46 : decode cX2_isSameOfPieces 46 = .ok (.getfield 40, 3) := by decide +kernel
theorem dX2_isSameOfPieces_49 : decode cX2_isSameOfPieces 49 = .ok (.invokevirtual 239, 3) := by decide +kernel
theorem dX2_isSameOfPieces_52 : decode cX2_isSameOfPieces 52 = .ok (.aload_n 0, 1) := by decide +kernel
theorem dX2_isSameOfPieces_53 : decode cX2_isSameOfPieces 53 = .ok (.getfield 40, 3) := by decide +kernel
theorem dX2_isSameOfPieces_56 : decode cX2_isSameOfPieces 56 = .ok (.iload_n 2, 1) := by decide +kernel
theorem dX2_isSameOfPieces_57 : decode cX2_isSameOfPieces 57 = .ok (.invokevirtual 222, 3) := by decide +kernel
theorem dX2_isSameOfPieces_60 : decode cX2_isSameOfPieces 60 = .ok (.aload_n 0, 1) := by decide +kernel
theorem dX2_isSameOfPieces_61 : decode cX2_isSameOfPieces 61 = .ok (.getfield 40, 3) := by decide +kernel
theorem dX2_isSameOfPieces_64 : decode cX2_isSameOfPieces 64 = .ok (.iload_n 2, 1) := by decide +kernel
theorem dX2_isSameOfPieces_65 : decode cX2_isSameOfPieces 65 = .ok (.invokevirtual 219, 3) := by decide +kernel
theorem dX2_isSameOfPieces_68 : decode cX2_isSameOfPieces 68 = .ok (.invokevirtual 235, 3) := by decide +kernel
theorem dX2_isSameOfPieces_71 : decode cX2_isSameOfPieces 71 = .ok (.iinc 2 1, 3) := by decide +kernel
theorem dX2_isSameOfPieces_74 : decode cX2_isSameOfPieces 74 = .ok (.goto (-57), 3) := by decide +kernel
theorem dX2_isSameOfPieces_77 : decode cX2_isSameOfPieces 77 = .ok (.aload_n 0, 1) := by decide +kernel
theorem dX2_isSameOfPieces_78 : decode cX2_isSameOfPieces 78 = .ok (.getfield 37, 3) := by decide +kernel
theorem dX2_isSameOfPieces_81 : decode cX2_isSameOfPieces 81 = .ok (.invokevirtual 66, 3) := by decide +kernel
theorem dX2_isSameOfPieces_84 : decode cX2_isSameOfPieces 84 = .ok (.istore_n 2, 1) := by decide +kernel
theorem dX2_isSameOfPieces_85 : decode cX2_isSameOfPieces 85 = .ok (.iload_n 2, 1) := by decide +kernel
theorem dX2_isSameOfPieces_86 : decode cX2_isSameOfPieces 86 = .ok (.aload_n 1, 1) := by decide +kernel
theorem dX2_isSameOfPieces_87 : decode cX2_isSameOfPieces 87 = .ok (.invokevirtual 66, 3) := by decide +kernel
theorem dX2_isSameOfPieces_90 : decode cX2_isSameOfPieces 90 = .ok (.if_icmp .ge 21, 3) := by decide +kernel
theorem dX2_isSameOfPieces_93 : decode cX2_isSameOfPieces 93 = .ok (.aload_n 1, 1) := by decide +kernel
theorem dX2_isSameOfPieces_94 : decode cX2_isSameOfPieces 94 = .ok (.iload_n 2, 1) := by decide +kernel
theorem dX2_isSameOfPieces_95 : decode cX2_isSameOfPieces 95 = .ok (.invokevirtual 128, 3) := by decide +kernel
theorem dX2_isSameOfPieces_98 : decode cX2_isSameOfPieces 98 = .ok (.bipush 44, 2) := by decide +kernel
theorem dX2_isSameOfPieces_100 : decode cX2_isSameOfPieces 100 = .ok (.if_icmp .eq 5, 3) := by decide +kernel
theorem dX2_isSameOfPieces_103 : decode cX2_isSameOfPieces 103 = .ok (.iconst 0, 1) := by decide +kernel
theorem dX2_isSameOfPieces_104 : decode cX2_isSameOfPieces 104 = .ok (.ireturn, 1) := by decide +kernel
theorem dX2_isSameOfPieces_105 : decode cX2_isSameOfPieces 105 = .ok (.iinc 2 1, 3) := by decide +kernel
theorem dX2_isSameOfPieces_108 : decode cX2_isSameOfPieces 108 = .ok (.goto (-23), 3) := by decide +kernel
theorem dX2_isSameOfPieces_111 : decode cX2_isSameOfPieces 111 = .ok (.aload_n 1, 1) := by decide +kernel
theorem dX2_isSameOfPieces_112 : decode cX2_isSameOfPieces 112 = .ok (.aload_n 0, 1) := by decide +kernel
theorem dX2_isSameOfPieces_113 : decode cX2_isSameOfPieces 113 = .ok (.getfield 37, 3) := by decide +kernel
theorem dX2_isSameOfPieces_116 : decode cX2_isSameOfPieces 116 = .ok (.iconst 0, 1) := by decide +kernel
theorem dX2_isSameOfPieces_117 : decode cX2_isSameOfPieces 117 = .ok (.iconst 0, 1) := by decide +kernel
theorem dX2_isSameOfPieces_118 : decode cX2_isSameOfPieces 118 = .ok (.invokevirtual 164, 3) := by decide +kernel
theorem dX2_isSameOfPieces_121 : decode cX2_isSameOfPieces 121 = .ok (.ireturn, 1) := by decide +kernel
abbrev rmX2_isSameOfPieces : Room := { frames := 4, cells := 0, slots := 0, locals := 84 }
theorem mX2_isSameOfPieces {l : Launch} {G : Cx} {A : Nat → Prop} {SA : Nat → Nat} {X : Nat → List Nat} {es : List Nat} {k : Int32} {i : Nat} (hi : i < 4) (hAS : ∀ i : Nat, i < 39 → A (SA i)) : Met l yX2_isSameOfPieces (.code yX2_isSameOfPieces cX2_isSameOfPieces 3 (some .boolean) :: GW) rmX2_isSameOfPieces (PC G A [.ref (SA 0), .ref (SA (7 + 2 * i))] (SS G SA X es k)) (qI A (fun r H => (∃ v : Bool, r = bI v) ∧ SS G SA X es k H)) 0 0 (A) := by
  refine mstart "Signtext" (by decide +kernel) rfl (Nat.le_of_ble_eq_true rfl) ?_
  intro p e s m below meth c ls hx hb hr hts hown hml hlocks hname hC hA hW hl
  have hl : lv_has ls 3 [(0, .ref (SA 0)), (1, .ref (SA (7 + 2 * i)))] := hl
  have hK := hC.1
  have hS : va_S A s.heap s.heap [] := va_S.rf
  obtain ⟨T, es2, hW, hF⟩ := hW
  have hO := hW.2.1
  have hR1 := hW.2.2.1
  have hR2 := hW.2.2.2.1
  refine lv_aload_n hx hb dX2_isSameOfPieces_0 rfl (lv_at hl 0 rfl) ?_
  refine va_get (D := G.1) (ci := 6) (C := RX2) (T := TX2) (N := 8) hx hb hts inX2 hown hK (at_P hO) 0 rfl rfl 7 (by decide) (hts _ tw_1_144) (fun _ h9 => h9) rfl dX2_isSameOfPieces_1 ?_
  refine lv_aload_n hx hb dX2_isSameOfPieces_4 rfl (lv_at hl 1 rfl) ?_
  refine qV_V (A := A) (A1 := oP SA 5 37 38 6 s.heap.size) (b := (SA 5)) (As := [.ref (SA (7 + 2 * i))]) (rest := []) ⟨hx, hb, hml, hown, hts⟩ (mX1_cutOf (A := oP SA 5 37 38 6 s.heap.size) (la := SA 37) (lca := SA 38) (ea := SA 6) (cb := SA (8 + 2 * i)) (t := T 15) (u := T i) (es := es2) (Or.inl rfl) (Or.inr (Or.inl rfl)) (Or.inr (Or.inr (Or.inl rfl))) (Or.inr (Or.inr (Or.inr (Or.inl rfl)))) ⟨hW.ne (i := 7 + 2 * i) (j := 5) (by omega) (by omega) (by omega), hW.ne (i := 7 + 2 * i) (j := 37) (by omega) (by omega) (by omega), hW.ne (i := 7 + 2 * i) (j := 38) (by omega) (by omega) (by omega), hW.ne (i := 7 + 2 * i) (j := 6) (by omega) (by omega) (by omega)⟩ ⟨hW.ne (i := 8 + 2 * i) (j := 5) (by omega) (by omega) (by omega), hW.ne (i := 8 + 2 * i) (j := 37) (by omega) (by omega) (by omega), hW.ne (i := 8 + 2 * i) (j := 38) (by omega) (by omega) (by omega), hW.ne (i := 8 + 2 * i) (j := 6) (by omega) (by omega) (by omega)⟩) (cwV 1 hts (gV tw_2_63 tw_2_64 tw_2_65 tw_1_3 tw_2_66) rfl rfl rfl (by decide +kernel) ⟨Nat.le_of_ble_eq_true rfl, Nat.le_of_ble_eq_true rfl⟩) hC hS (oP_in (hAS 5 (by decide)) (hAS 37 (by decide)) (hAS 38 (by decide)) (hAS 6 (by decide)) hA hS.1) oP_n (hW.trd.1.recv hK) ⟨hW.trd, hW.line (i := i) (by omega)⟩ rfl rfl hl.1 (Nat.le_of_ble_eq_true rfl) ⟨Nat.zero_le _, Nat.zero_le _⟩ dX2_isSameOfPieces_5 (fun H1 L1 hP1 hk1 hS => ?_)
  have hZ1 := hS.1
  obtain ⟨⟨es1, hcut, hPA⟩, -⟩ := hP1
  have hW := hW.putTr hk1 hPA
  generalize hT2 : updT T 15 (T i) = T2 at hW
  have hF2 : ∀ i : Nat, i < 4 ∨ i = 11 ∨ i = 14 → T2 i = X i := by rw [← hT2]; exact FR.s15 hF
  have hO := hW.2.1
  have hR1 := hW.2.2.1
  have hR2 := hW.2.2.2.1
  refine lv_aload_n hx hb dX2_isSameOfPieces_8 rfl (lv_at hl 0 rfl) ?_
  refine va_get (D := G.1) (ci := 6) (C := RX2) (T := TX2) (N := 8) hx hb hts inX2 hown hK (at_P hO) 0 rfl rfl 6 (by decide) (hts _ tw_1_143) (fun _ h9 => h9) rfl dX2_isSameOfPieces_9 ?_
  refine qV_V (A := A) (A1 := ow (SA (7 + 2 * 13)) (SA (8 + 2 * 13)) H1.size) (b := (SA 33)) (As := []) (rest := []) ⟨hx, hb, hml, hown, hts⟩ (mX0_empty (A := ow (SA (7 + 2 * 13)) (SA (8 + 2 * 13)) H1.size) (ca := SA (8 + 2 * 13)) (hAa := Or.inl rfl)) (cwV 0 hts (gV tw_2_31 tw_2_32 tw_2_33 tw_1_2 tw_2_34) rfl rfl rfl (by decide +kernel) ⟨Nat.le_of_ble_eq_true rfl, Nat.le_of_ble_eq_true rfl⟩) hC hS (ow_in (hAS _ (by omega)) (hAS _ (by omega)) hA hS.1) ow_n ((hW.line (i := 13) (by omega)).recv hK) (hW.line (i := 13) (by omega)) rfl rfl hl.1 (Nat.le_of_ble_eq_true rfl) ⟨Nat.zero_le _, Nat.zero_le _⟩ dX2_isSameOfPieces_12 (fun H2 L2 hP2 hk2 hS => ?_)
  have hZ2 := hS.1
  have hW := hW.put (q := 13) (t := []) (by omega) hk2 hP2
  have hO := hW.2.1
  have hR1 := hW.2.2.1
  have hR2 := hW.2.2.2.1
  refine lv_iconst (v := nI 0) hx hb dX2_isSameOfPieces_15 (by decide) ?_
  refine lv_istore_n (lv' := [(2, .int (nI 0)), (0, .ref (SA 0)), (1, .ref (SA (7 + 2 * i)))]) hx hb dX2_isSameOfPieces_16 rfl hl (by decide) rfl (fun ls hl => ?_)
  have e61 := hW.trd.1.1
  have i60 := (hW.line (i := i) (by omega)).1
  have k77 : ∀ (ls : Array Slot) (H : Heap) (L : List Loc) (w : List Nat), lv_has ls 3 [(0, .ref (SA 0)), (1, .ref (SA (7 + 2 * i)))] → va_S A s.heap H L → SW G SA (updT T2 13 w) es es1 k H → W p l e rmX2_isSameOfPieces s m [.ref (SA 0), .ref (SA (7 + 2 * i))].toArray below meth c H L 0 0 (MQ below (qI A (fun r H => (∃ v : Bool, r = bI v) ∧ SS G SA X es k H)) [.ref (SA 0), .ref (SA (7 + 2 * i))].toArray s 0 0 (A)) (F0 m 77 ls []) := by
    clear hl hS hW hO hR1 hR2
    intro ls H L w hl hS hW
    have hO := hW.2.1
    have hR1 := hW.2.2.1
    have hR2 := hW.2.2.2.1
    refine lv_aload_n hx hb dX2_isSameOfPieces_77 rfl (lv_at hl 0 rfl) ?_
    refine va_get (D := G.1) (ci := 6) (C := RX2) (T := TX2) (N := 8) hx hb hts inX2 hown hK (at_P hO) 0 rfl rfl 6 (by decide) (hts _ tw_1_143) (fun _ h9 => h9) rfl dX2_isSameOfPieces_78 ?_
    have i60 := (hW.line (i := i) (by omega)).1
    have w60 := (hW.line (i := 13) (by omega)).1
    refine kV_i (A := A) (b := (SA 33)) (As := []) (rest := []) ⟨hx, hb, hml, hown, hts⟩ (mX0_size (A := A) (ca := SA (8 + 2 * 13))) (cwV 0 hts (gV tw_2_30 tw_2_12 tw_2_13 tw_1_2 tw_2_14) rfl rfl rfl (by decide +kernel) ⟨Nat.le_of_ble_eq_true rfl, Nat.le_of_ble_eq_true rfl⟩) hC hS hA ((hW.line (i := 13) (by omega)).recv hK) (hW.line (i := 13) (by omega)) rfl rfl hl.1 (Nat.le_of_ble_eq_true rfl) ⟨Nat.zero_le _, Nat.zero_le _⟩ dX2_isSameOfPieces_81 (fun r9 h9 => lv_cv h9 ?_)
    refine lv_istore_n (lv' := [(2, .int (nI ((updT T2 13 w 13).length))), (0, .ref (SA 0)), (1, .ref (SA (7 + 2 * i)))]) hx hb dX2_isSameOfPieces_84 rfl hl (by decide) rfl (fun ls hl => ?_)
    refine nloop (P := fun j => ∀ (ls : Array Slot) , lv_has ls 3 [(2, .int (nI j)), (0, .ref (SA 0)), (1, .ref (SA (7 + 2 * i)))] → W p l e rmX2_isSameOfPieces s m [.ref (SA 0), .ref (SA (7 + 2 * i))].toArray below meth c H L 0 0 (MQ below (qI A (fun r H => (∃ v : Bool, r = bI v) ∧ SS G SA X es k H)) [.ref (SA 0), .ref (SA (7 + 2 * i))].toArray s 0 0 (A)) (F0 m 85 ls [])) 61 ?_ ((updT T2 13 w 13).length) (by omega) ls  hl 
    clear hl
    intro j hj ih ls  hl
    refine lv_iload_n hx hb dX2_isSameOfPieces_85 rfl (lv_at hl 0 rfl) ?_
    refine lv_aload_n hx hb dX2_isSameOfPieces_86 rfl (lv_at hl 2 rfl) ?_
    refine kV_i (A := A) (b := (SA (7 + 2 * i))) (As := []) (rest := .int (nI j) :: []) ⟨hx, hb, hml, hown, hts⟩ (mX0_size (A := A) (ca := SA (8 + 2 * i))) (cwV 0 hts (gV tw_2_30 tw_2_12 tw_2_13 tw_1_2 tw_2_14) rfl rfl rfl (by decide +kernel) ⟨Nat.le_of_ble_eq_true rfl, Nat.le_of_ble_eq_true rfl⟩) hC hS hA ((hW.line (i := i) (by omega)).recv hK) (hW.line (i := i) (by omega)) rfl rfl hl.1 (Nat.le_of_ble_eq_true rfl) ⟨Nat.zero_le _, Nat.zero_le _⟩ dX2_isSameOfPieces_87 (fun r9 h9 => lv_cv h9 ?_)
    refine b_ge (tgt := 111) hx hb dX2_isSameOfPieces_90 (by decide) (by omega) (by omega) (fun c_3 => ?_) (fun c_3 => ?_)
    · refine lv_aload_n hx hb dX2_isSameOfPieces_111 rfl (lv_at hl 2 rfl) ?_
      refine lv_aload_n hx hb dX2_isSameOfPieces_112 rfl (lv_at hl 1 rfl) ?_
      refine va_get (D := G.1) (ci := 6) (C := RX2) (T := TX2) (N := 8) hx hb hts inX2 hown hK (at_P hO) 0 rfl rfl 6 (by decide) (hts _ tw_1_143) (fun _ h9 => h9) rfl dX2_isSameOfPieces_113 ?_
      refine lv_iconst (v := nI 0) hx hb dX2_isSameOfPieces_116 (by decide) ?_
      refine lv_iconst (v := nI 0) hx hb dX2_isSameOfPieces_117 (by decide) ?_
      refine kV_i (A := A) (b := (SA (7 + 2 * i))) (As := [.ref (SA 33), .int (nI 0), .int (bI false)]) (rest := []) ⟨hx, hb, hml, hown, hts⟩ (mX0_standsAt (A := A) (ca := SA (8 + 2 * i)) (cb := SA (8 + 2 * 13)) (i := 0) (b0 := false) (by omega)) (cwV 3 hts (gV tw_2_94 tw_2_16 tw_2_17 tw_1_2 tw_2_18) rfl rfl rfl (by decide +kernel) ⟨Nat.le_of_ble_eq_true rfl, Nat.le_of_ble_eq_true rfl⟩) hC hS hA ((hW.line (i := i) (by omega)).recv hK) ⟨(hW.line (i := i) (by omega)), (hW.line (i := 13) (by omega))⟩ rfl rfl hl.1 (Nat.le_of_ble_eq_true rfl) ⟨Nat.zero_le _, Nat.zero_le _⟩ dX2_isSameOfPieces_118 (fun r_4 hr_4 => ?_)
      obtain ⟨r_4v, -, rfl⟩ := hr_4
      exact q_z (b9 := r_4v) hx hb hr hlocks dX2_isSameOfPieces_121 hS (Nat.le_refl _) (Nat.le_refl _) ⟨⟨_, rfl⟩, _, _, hW, FR.s13 hF2⟩
    · refine lv_aload_n hx hb dX2_isSameOfPieces_93 rfl (lv_at hl 2 rfl) ?_
      refine lv_iload_n hx hb dX2_isSameOfPieces_94 rfl (lv_at hl 0 rfl) ?_
      have tokj := (hW.line (i := i) (by omega)).2.1 j
      refine kV_i (A := A) (b := (SA (7 + 2 * i))) (As := [.int (nI j)]) (rest := []) ⟨hx, hb, hml, hown, hts⟩ (mX0_codeAt (A := A) (ca := SA (8 + 2 * i)) (i := j) (by omega)) (cwV 1 hts (gV tw_2_93 tw_2_20 tw_2_21 tw_1_2 tw_2_22) rfl rfl rfl (by decide +kernel) ⟨Nat.le_of_ble_eq_true rfl, Nat.le_of_ble_eq_true rfl⟩) hC hS hA ((hW.line (i := i) (by omega)).recv hK) (hW.line (i := i) (by omega)) rfl rfl hl.1 (Nat.le_of_ble_eq_true rfl) ⟨Nat.zero_le _, Nat.zero_le _⟩ dX2_isSameOfPieces_95 (fun r9 h9 => lv_cv h9 ?_)
      refine lv_bipush (v := nI 44) hx hb dX2_isSameOfPieces_98 (by decide) ?_
      refine b_eq (tgt := 105) hx hb dX2_isSameOfPieces_100 (by decide) (by omega) (by omega) (fun c_5 => ?_) (fun c_5 => ?_)
      · refine lv_iinc (v := nI (j + 1)) (lv' := [(2, .int (nI (j + 1))), (0, .ref (SA 0)), (1, .ref (SA (7 + 2 * i)))]) hx hb dX2_isSameOfPieces_105 hl (k := 0) rfl (nI_add j 1) (by decide) rfl (fun ls hl => ?_)
        refine lv_goto (tgt := 85) hx hb dX2_isSameOfPieces_108 (by decide) ?_
        exact ih (j + 1) (by omega) (by omega) ls (lv_sub hl [0, 1, 2] rfl)
      · refine lv_iconst (v := nI 0) hx hb dX2_isSameOfPieces_103 (by decide) ?_
        exact q_z (b9 := false) hx hb hr hlocks dX2_isSameOfPieces_104 hS (Nat.le_refl _) (Nat.le_refl _) ⟨⟨_, rfl⟩, _, _, hW, FR.s13 hF2⟩
  refine nloop (P := fun j => ∀ (ls : Array Slot) (H : Heap) (L : List Loc) (w : List Nat), lv_has ls 3 [(2, .int (nI j)), (0, .ref (SA 0)), (1, .ref (SA (7 + 2 * i)))] → va_S A s.heap H L → SW G SA (updT T2 13 w) es es1 k H → W p l e rmX2_isSameOfPieces s m [.ref (SA 0), .ref (SA (7 + 2 * i))].toArray below meth c H L 0 0 (MQ below (qI A (fun r H => (∃ v : Bool, r = bI v) ∧ SS G SA X es k H)) [.ref (SA 0), .ref (SA (7 + 2 * i))].toArray s 0 0 (A)) (F0 m 17 ls [])) es1.length ?_ 0 (Nat.zero_le _) ls H2 L2 [] hl hS hW
  clear hl
  intro j hj ih ls H L w hl
  clear hS hW hO hR1 hR2
  intro hS hW
  have hO := hW.2.1
  have hR1 := hW.2.2.1
  have hR2 := hW.2.2.2.1
  refine lv_iload_n hx hb dX2_isSameOfPieces_17 rfl (lv_at hl 0 rfl) ?_
  refine lv_aload_n hx hb dX2_isSameOfPieces_18 rfl (lv_at hl 1 rfl) ?_
  refine va_get (D := G.1) (ci := 6) (C := RX2) (T := TX2) (N := 8) hx hb hts inX2 hown hK (at_P hO) 0 rfl rfl 7 (by decide) (hts _ tw_1_144) (fun _ h9 => h9) rfl dX2_isSameOfPieces_19 ?_
  refine kV_i (A := A) (b := (SA 5)) (As := []) (rest := .int (nI j) :: []) ⟨hx, hb, hml, hown, hts⟩ (mX1_size (A := A) (la := SA 37) (ea := SA 6) (es := es1)) (cwV 0 hts (gV tw_2_82 tw_2_83 tw_2_84 tw_1_3 tw_2_85) rfl rfl rfl (by decide +kernel) ⟨Nat.le_of_ble_eq_true rfl, Nat.le_of_ble_eq_true rfl⟩) hC hS hA (hW.trd.1.recv hK) hW.trd.1 rfl rfl hl.1 (Nat.le_of_ble_eq_true rfl) ⟨Nat.zero_le _, Nat.zero_le _⟩ dX2_isSameOfPieces_22 (fun r9 h9 => lv_cv h9 ?_)
  refine b_ge (tgt := 77) hx hb dX2_isSameOfPieces_25 (by decide) (by omega) (by omega) (fun c_6 => ?_) (fun c_6 => ?_)
  · exact k77 ls H L w (lv_sub hl [1, 2] rfl) hS hW
  · have k41 : ∀ (ls : Array Slot) (H : Heap) (L : List Loc) (w : List Nat), lv_has ls 3 [(2, .int (nI j)), (0, .ref (SA 0)), (1, .ref (SA (7 + 2 * i)))] → va_S A s.heap H L → SW G SA (updT T2 13 w) es es1 k H → W p l e rmX2_isSameOfPieces s m [.ref (SA 0), .ref (SA (7 + 2 * i))].toArray below meth c H L 0 0 (MQ below (qI A (fun r H => (∃ v : Bool, r = bI v) ∧ SS G SA X es k H)) [.ref (SA 0), .ref (SA (7 + 2 * i))].toArray s 0 0 (A)) (F0 m 41 ls []) := by
      clear hl hS hW hO hR1 hR2
      intro ls H L w hl hS hW
      have hO := hW.2.1
      have hR1 := hW.2.2.1
      have hR2 := hW.2.2.2.1
      refine lv_aload_n hx hb dX2_isSameOfPieces_41 rfl (lv_at hl 1 rfl) ?_
      refine va_get (D := G.1) (ci := 6) (C := RX2) (T := TX2) (N := 8) hx hb hts inX2 hown hK (at_P hO) 0 rfl rfl 6 (by decide) (hts _ tw_1_143) (fun _ h9 => h9) rfl dX2_isSameOfPieces_42 ?_
      refine lv_aload_n hx hb dX2_isSameOfPieces_45 rfl (lv_at hl 1 rfl) ?_
      refine va_get (D := G.1) (ci := 6) (C := RX2) (T := TX2) (N := 8) hx hb hts inX2 hown hK (at_P hO) 0 rfl rfl 7 (by decide) (hts _ tw_1_144) (fun _ h9 => h9) rfl dX2_isSameOfPieces_46 ?_
      have hPB := hW.trd.1
      have hok := hW.trd.2.2.1 j (by omega)
      refine kV_a (A := A) (b := (SA 5)) (As := []) (rest := .ref (SA 33) :: []) ⟨hx, hb, hml, hown, hts⟩ (mX1_line (A := A) (la := SA 37) (ea := SA 6)) (cwV 0 hts (gV tw_2_87 tw_2_88 tw_2_89 tw_1_3 tw_2_90) rfl rfl rfl (by decide +kernel) ⟨Nat.le_of_ble_eq_true rfl, Nat.le_of_ble_eq_true rfl⟩) hC hS hA (hPB.recv hK) hPB rfl rfl hl.1 (Nat.le_of_ble_eq_true rfl) ⟨Nat.zero_le _, Nat.zero_le _⟩ dX2_isSameOfPieces_49 (fun a_7 ha_7 => ?_)
      obtain rfl : a_7 = SA 37 := ha_7
      refine lv_aload_n hx hb dX2_isSameOfPieces_52 rfl (lv_at hl 1 rfl) ?_
      refine va_get (D := G.1) (ci := 6) (C := RX2) (T := TX2) (N := 8) hx hb hts inX2 hown hK (at_P hO) 0 rfl rfl 7 (by decide) (hts _ tw_1_144) (fun _ h9 => h9) rfl dX2_isSameOfPieces_53 ?_
      refine lv_iload_n hx hb dX2_isSameOfPieces_56 rfl (lv_at hl 0 rfl) ?_
      refine kV_i (A := A) (b := (SA 5)) (As := [.int (nI j)]) (rest := .ref (SA 37) :: .ref (SA 33) :: []) ⟨hx, hb, hml, hown, hts⟩ (mX1_beginOf (A := A) (la := SA 37) (ea := SA 6) (es := es1) (k := j) (by omega)) (cwV 1 hts (gV tw_2_91 tw_2_75 tw_2_76 tw_1_3 tw_2_77) rfl rfl rfl (by decide +kernel) ⟨Nat.le_of_ble_eq_true rfl, Nat.le_of_ble_eq_true rfl⟩) hC hS hA (hPB.recv hK) hPB rfl rfl hl.1 (Nat.le_of_ble_eq_true rfl) ⟨Nat.zero_le _, Nat.zero_le _⟩ dX2_isSameOfPieces_57 (fun r9 h9 => lv_cv h9 ?_)
      refine lv_aload_n hx hb dX2_isSameOfPieces_60 rfl (lv_at hl 1 rfl) ?_
      refine va_get (D := G.1) (ci := 6) (C := RX2) (T := TX2) (N := 8) hx hb hts inX2 hown hK (at_P hO) 0 rfl rfl 7 (by decide) (hts _ tw_1_144) (fun _ h9 => h9) rfl dX2_isSameOfPieces_61 ?_
      refine lv_iload_n hx hb dX2_isSameOfPieces_64 rfl (lv_at hl 0 rfl) ?_
      refine kV_i (A := A) (b := (SA 5)) (As := [.int (nI j)]) (rest := .int (nI (bgE es1 j)) :: .ref (SA 37) :: .ref (SA 33) :: []) ⟨hx, hb, hml, hown, hts⟩ (mX1_endOf (A := A) (la := SA 37) (ea := SA 6) (es := es1) (k := j) (by omega)) (cwV 1 hts (gV tw_2_92 tw_2_79 tw_2_80 tw_1_3 tw_2_81) rfl rfl rfl (by decide +kernel) ⟨Nat.le_of_ble_eq_true rfl, Nat.le_of_ble_eq_true rfl⟩) hC hS hA (hPB.recv hK) hPB rfl rfl hl.1 (Nat.le_of_ble_eq_true rfl) ⟨Nat.zero_le _, Nat.zero_le _⟩ dX2_isSameOfPieces_65 (fun r9 h9 => lv_cv h9 ?_)
      refine qV_V (A := A) (A1 := ow (SA (7 + 2 * 13)) (SA (8 + 2 * 13)) H.size) (b := (SA 33)) (As := [.ref (SA 37), .int (nI (bgE es1 j)), .int (nI (es1.getD j 0))]) (rest := []) ⟨hx, hb, hml, hown, hts⟩ (mX0_addPart (A := ow (SA (7 + 2 * 13)) (SA (8 + 2 * 13)) H.size) (ca := SA (8 + 2 * 13)) (cb := SA (8 + 2 * 15)) (i := bgE es1 j) (i2 := es1.getD j 0) (Or.inl rfl) (Or.inr (Or.inl rfl)) ⟨hW.ne (i := 7 + 2 * 15) (j := 7 + 2 * 13) (by omega) (by omega) (by omega), hW.ne (i := 7 + 2 * 15) (j := 8 + 2 * 13) (by omega) (by omega) (by omega), hW.ne (i := 8 + 2 * 15) (j := 7 + 2 * 13) (by omega) (by omega) (by omega), hW.ne (i := 8 + 2 * 15) (j := 8 + 2 * 13) (by omega) (by omega) (by omega)⟩ hok.1 hok.2) (cwV 3 hts (gV tw_2_35 tw_2_36 tw_2_37 tw_1_2 tw_2_38) rfl rfl rfl (by decide +kernel) ⟨Nat.le_of_ble_eq_true rfl, Nat.le_of_ble_eq_true rfl⟩) hC hS (ow_in (hAS _ (by omega)) (hAS _ (by omega)) hA hS.1) ow_n ((hW.line (i := 13) (by omega)).recv hK) ⟨(hW.line (i := 13) (by omega)), (hW.line (i := 15) (by omega))⟩ rfl rfl hl.1 (Nat.le_of_ble_eq_true rfl) ⟨Nat.zero_le _, Nat.zero_le _⟩ dX2_isSameOfPieces_68 (fun H8 L8 hP8 hk8 hS => ?_)
      have hZ8 := hS.1
      have hW := hW.put (q := 13) (t := _) (by omega) hk8 hP8.1
      rw [updT_2] at hW
      refine lv_iinc (v := nI (j + 1)) (lv' := [(2, .int (nI (j + 1))), (0, .ref (SA 0)), (1, .ref (SA (7 + 2 * i)))]) hx hb dX2_isSameOfPieces_71 hl (k := 0) rfl (nI_add j 1) (by decide) rfl (fun ls hl => ?_)
      refine lv_goto (tgt := 17) hx hb dX2_isSameOfPieces_74 (by decide) ?_
      exact ih (j + 1) (by omega) (by omega) ls H8 L8 _ (lv_sub hl [0, 1, 2] rfl) hS hW
    refine lv_iload_n hx hb dX2_isSameOfPieces_28 rfl (lv_at hl 0 rfl) ?_
    rcases Nat.eq_zero_or_pos j with hj0 | hjp
    · refine lv_if_le (tgt := 41) hx hb dX2_isSameOfPieces_29 (by decide) (fun _ => ?_) (fun q => absurd (by rw [hj0]; decide) q)
      exact k41 ls H L w (lv_sub hl [0, 1, 2] rfl) hS hW
    · refine lv_if_le (tgt := 41) hx hb dX2_isSameOfPieces_29 (by decide) (fun q => absurd q (nI_nle hjp (by omega))) (fun _ => ?_)
      refine lv_aload_n hx hb dX2_isSameOfPieces_32 rfl (lv_at hl 1 rfl) ?_
      refine va_get (D := G.1) (ci := 6) (C := RX2) (T := TX2) (N := 8) hx hb hts inX2 hown hK (at_P hO) 0 rfl rfl 6 (by decide) (hts _ tw_1_143) (fun _ h9 => h9) rfl dX2_isSameOfPieces_33 ?_
      refine lv_bipush (v := nI 44) hx hb dX2_isSameOfPieces_36 (by decide) ?_
      refine qV_V (A := A) (A1 := ow (SA (7 + 2 * 13)) (SA (8 + 2 * 13)) H.size) (b := (SA 33)) (As := [.int (nI 44)]) (rest := []) ⟨hx, hb, hml, hown, hts⟩ (mX0_addCode (A := ow (SA (7 + 2 * 13)) (SA (8 + 2 * 13)) H.size) (ca := SA (8 + 2 * 13)) (k0 := 44) (Or.inl rfl) (Or.inr (Or.inl rfl)) (by decide)) (cwV 1 hts (gV tw_2_86 tw_1_134 tw_1_135 tw_1_2 tw_1_136) rfl rfl rfl (by decide +kernel) ⟨Nat.le_of_ble_eq_true rfl, Nat.le_of_ble_eq_true rfl⟩) hC hS (ow_in (hAS _ (by omega)) (hAS _ (by omega)) hA hS.1) ow_n ((hW.line (i := 13) (by omega)).recv hK) (hW.line (i := 13) (by omega)) rfl rfl hl.1 (Nat.le_of_ble_eq_true rfl) ⟨Nat.zero_le _, Nat.zero_le _⟩ dX2_isSameOfPieces_38 (fun H9 L9 hP9 hk9 hS => ?_)
      have hZ9 := hS.1
      have hW := hW.put (q := 13) (t := _) (by omega) hk9 hP9
      rw [updT_2] at hW
      exact k41 ls H9 L9 _ (lv_sub hl [0, 1, 2] rfl) hS hW

abbrev rmX2_isSoundAlone : Room := { frames := 5, cells := 0, slots := 0, locals := 111 }
theorem mX2_isSoundAlone {l : Launch} {G : Cx} {A : Nat → Prop} {SA : Nat → Nat} {X : Nat → List Nat} {es : List Nat} {k : Int32} {i : Nat} (hi : i < 4) (hAS : ∀ i : Nat, i < 39 → A (SA i)) : Met l yX2_isSoundAlone (.code yX2_isSoundAlone cX2_isSoundAlone 2 (some .boolean) :: GW) rmX2_isSoundAlone (PC G A [.ref (SA 0), .ref (SA (7 + 2 * i))] (SS G SA X es k)) (qI A (fun r H => (∃ v : Bool, r = bI v) ∧ SS G SA X es k H)) 0 0 (A) := by
  refine mstart "Signtext" (by decide +kernel) rfl (Nat.le_of_ble_eq_true rfl) ?_
  intro p e s m below meth c ls hx hb hr hts hown hml hlocks hname hC hA hW hl
  have hl : lv_has ls 2 [(0, .ref (SA 0)), (1, .ref (SA (7 + 2 * i)))] := hl
  have hK := hC.1
  have hS : va_S A s.heap s.heap [] := va_S.rf
  have hSS := hW
  refine lv_aload_n hx hb dX2_isSoundAlone_0 rfl (lv_at hl 0 rfl) ?_
  refine lv_aload_n hx hb dX2_isSoundAlone_1 rfl (lv_at hl 1 rfl) ?_
  refine qI_V (A := A) (A1 := A) (b := (SA 0)) (As := [.ref (SA (7 + 2 * i))]) (rest := []) ⟨hx, hb, hml, hown, hts⟩ (mX2_isSameTakenAgain (A := A) (i := i) hi hAS) (cwV 1 hts (gV tw_1_239 tw_2_1 sel_X2_isSameTakenAgain tw_1_1 tw_2_2) rfl rfl rfl (by decide +kernel) ⟨Nat.le_of_ble_eq_true rfl, Nat.le_of_ble_eq_true rfl⟩) hC hS (fun _ h => h) (fun q h => hA q (Nat.le_trans hS.1 h)) (by obtain ⟨T, es2, hW, hF⟩ := hSS; exact hW.recv hK) hSS rfl rfl hl.1 (Nat.le_of_ble_eq_true rfl) ⟨Nat.zero_le _, Nat.zero_le _⟩ dX2_isSoundAlone_2 (fun rv10 H10 L10 hP10 hk10 hS => ?_)
  have hZ10 := hS.1
  obtain ⟨⟨v10, hv10⟩, hSS⟩ := hP10
  subst hv10
  refine f_eq (tgt := 46) hx hb dX2_isSoundAlone_5 (by decide) (fun c_11 => ?_) (fun c_11 => ?_)
  · refine lv_iconst (v := nI 0) hx hb dX2_isSoundAlone_46 (by decide) ?_
    exact q_z (b9 := false) hx hb hr hlocks dX2_isSoundAlone_47 hS (Nat.le_refl _) (Nat.le_refl _) ⟨⟨_, rfl⟩, hSS⟩
  · refine lv_aload_n hx hb dX2_isSoundAlone_8 rfl (lv_at hl 0 rfl) ?_
    refine lv_aload_n hx hb dX2_isSoundAlone_9 rfl (lv_at hl 1 rfl) ?_
    refine qI_V (A := A) (A1 := A) (b := (SA 0)) (As := [.ref (SA (7 + 2 * i))]) (rest := []) ⟨hx, hb, hml, hown, hts⟩ (mX2_isSameInTwoParts (A := A) (i := i) hi hAS) (cwV 1 hts (gV tw_2_26 tw_2_28 sel_X2_isSameInTwoParts tw_1_1 tw_2_29) rfl rfl rfl (by decide +kernel) ⟨Nat.le_of_ble_eq_true rfl, Nat.le_of_ble_eq_true rfl⟩) hC hS (fun _ h => h) (fun q h => hA q (Nat.le_trans hS.1 h)) (by obtain ⟨T, es2, hW, hF⟩ := hSS; exact hW.recv hK) hSS rfl rfl hl.1 (Nat.le_of_ble_eq_true rfl) ⟨Nat.zero_le _, Nat.zero_le _⟩ dX2_isSoundAlone_10 (fun rv12 H12 L12 hP12 hk12 hS => ?_)
    have hZ12 := hS.1
    obtain ⟨⟨v12, hv12⟩, hSS⟩ := hP12
    subst hv12
    refine f_eq (tgt := 46) hx hb dX2_isSoundAlone_13 (by decide) (fun c_13 => ?_) (fun c_13 => ?_)
    · refine lv_iconst (v := nI 0) hx hb dX2_isSoundAlone_46 (by decide) ?_
      exact q_z (b9 := false) hx hb hr hlocks dX2_isSoundAlone_47 hS (Nat.le_refl _) (Nat.le_refl _) ⟨⟨_, rfl⟩, hSS⟩
    · refine lv_aload_n hx hb dX2_isSoundAlone_16 rfl (lv_at hl 0 rfl) ?_
      refine lv_aload_n hx hb dX2_isSoundAlone_17 rfl (lv_at hl 1 rfl) ?_
      refine lv_iconst (v := nI 0) hx hb dX2_isSoundAlone_18 (by decide) ?_
      refine qI_V (A := A) (A1 := A) (b := (SA 0)) (As := [.ref (SA (7 + 2 * i)), .int (bI false)]) (rest := []) ⟨hx, hb, hml, hown, hts⟩ (mX2_isSameTrimmedAgain (A := A) (i := i) (b := false) hi hAS) (cwV 2 hts (gV tw_2_39 tw_2_41 sel_X2_isSameTrimmedAgain tw_1_1 tw_2_42) rfl rfl rfl (by decide +kernel) ⟨Nat.le_of_ble_eq_true rfl, Nat.le_of_ble_eq_true rfl⟩) hC hS (fun _ h => h) (fun q h => hA q (Nat.le_trans hS.1 h)) (by obtain ⟨T, es2, hW, hF⟩ := hSS; exact hW.recv hK) hSS rfl rfl hl.1 (Nat.le_of_ble_eq_true rfl) ⟨Nat.zero_le _, Nat.zero_le _⟩ dX2_isSoundAlone_19 (fun rv14 H14 L14 hP14 hk14 hS => ?_)
      have hZ14 := hS.1
      obtain ⟨⟨v14, hv14⟩, hSS⟩ := hP14
      subst hv14
      refine f_eq (tgt := 46) hx hb dX2_isSoundAlone_22 (by decide) (fun c_15 => ?_) (fun c_15 => ?_)
      · refine lv_iconst (v := nI 0) hx hb dX2_isSoundAlone_46 (by decide) ?_
        exact q_z (b9 := false) hx hb hr hlocks dX2_isSoundAlone_47 hS (Nat.le_refl _) (Nat.le_refl _) ⟨⟨_, rfl⟩, hSS⟩
      · refine lv_aload_n hx hb dX2_isSoundAlone_25 rfl (lv_at hl 0 rfl) ?_
        refine lv_aload_n hx hb dX2_isSoundAlone_26 rfl (lv_at hl 1 rfl) ?_
        refine lv_iconst (v := nI 1) hx hb dX2_isSoundAlone_27 (by decide) ?_
        refine qI_V (A := A) (A1 := A) (b := (SA 0)) (As := [.ref (SA (7 + 2 * i)), .int (bI true)]) (rest := []) ⟨hx, hb, hml, hown, hts⟩ (mX2_isSameTrimmedAgain (A := A) (i := i) (b := true) hi hAS) (cwV 2 hts (gV tw_2_39 tw_2_41 sel_X2_isSameTrimmedAgain tw_1_1 tw_2_42) rfl rfl rfl (by decide +kernel) ⟨Nat.le_of_ble_eq_true rfl, Nat.le_of_ble_eq_true rfl⟩) hC hS (fun _ h => h) (fun q h => hA q (Nat.le_trans hS.1 h)) (by obtain ⟨T, es2, hW, hF⟩ := hSS; exact hW.recv hK) hSS rfl rfl hl.1 (Nat.le_of_ble_eq_true rfl) ⟨Nat.zero_le _, Nat.zero_le _⟩ dX2_isSoundAlone_28 (fun rv16 H16 L16 hP16 hk16 hS => ?_)
        have hZ16 := hS.1
        obtain ⟨⟨v16, hv16⟩, hSS⟩ := hP16
        subst hv16
        refine f_eq (tgt := 46) hx hb dX2_isSoundAlone_31 (by decide) (fun c_17 => ?_) (fun c_17 => ?_)
        · refine lv_iconst (v := nI 0) hx hb dX2_isSoundAlone_46 (by decide) ?_
          exact q_z (b9 := false) hx hb hr hlocks dX2_isSoundAlone_47 hS (Nat.le_refl _) (Nat.le_refl _) ⟨⟨_, rfl⟩, hSS⟩
        · refine lv_aload_n hx hb dX2_isSoundAlone_34 rfl (lv_at hl 0 rfl) ?_
          refine lv_aload_n hx hb dX2_isSoundAlone_35 rfl (lv_at hl 1 rfl) ?_
          refine qI_V (A := A) (A1 := A) (b := (SA 0)) (As := [.ref (SA (7 + 2 * i))]) (rest := []) ⟨hx, hb, hml, hown, hts⟩ (mX2_isSameOfPieces (A := A) (i := i) hi hAS) (cwV 1 hts (gV tw_2_59 tw_2_61 sel_X2_isSameOfPieces tw_1_1 tw_2_62) rfl rfl rfl (by decide +kernel) ⟨Nat.le_of_ble_eq_true rfl, Nat.le_of_ble_eq_true rfl⟩) hC hS (fun _ h => h) (fun q h => hA q (Nat.le_trans hS.1 h)) (by obtain ⟨T, es2, hW, hF⟩ := hSS; exact hW.recv hK) hSS rfl rfl hl.1 (Nat.le_of_ble_eq_true rfl) ⟨Nat.zero_le _, Nat.zero_le _⟩ dX2_isSoundAlone_36 (fun rv18 H18 L18 hP18 hk18 hS => ?_)
          have hZ18 := hS.1
          obtain ⟨⟨v18, hv18⟩, hSS⟩ := hP18
          subst hv18
          refine f_eq (tgt := 46) hx hb dX2_isSoundAlone_39 (by decide) (fun c_19 => ?_) (fun c_19 => ?_)
          · refine lv_iconst (v := nI 0) hx hb dX2_isSoundAlone_46 (by decide) ?_
            exact q_z (b9 := false) hx hb hr hlocks dX2_isSoundAlone_47 hS (Nat.le_refl _) (Nat.le_refl _) ⟨⟨_, rfl⟩, hSS⟩
          · refine lv_iconst (v := nI 1) hx hb dX2_isSoundAlone_42 (by decide) ?_
            refine lv_goto (tgt := 47) hx hb dX2_isSoundAlone_43 (by decide) ?_
            exact q_z (b9 := true) hx hb hr hlocks dX2_isSoundAlone_47 hS (Nat.le_refl _) (Nat.le_refl _) ⟨⟨_, rfl⟩, hSS⟩

abbrev rmX2_isSound : Room := { frames := 6, cells := 0, slots := 0, locals := 133 }
theorem mX2_isSound {l : Launch} {G : Cx} {A : Nat → Prop} {SA : Nat → Nat} {X : Nat → List Nat} {es : List Nat} {k : Int32} (hAS : ∀ i : Nat, i < 39 → A (SA i)) : Met l yX2_isSound (.code yX2_isSound cX2_isSound 3 (some .boolean) :: GW) rmX2_isSound (PC G A [.ref (SA 0)] (SS G SA X es k)) (qI A (fun r H => (∃ v : Bool, r = bI v) ∧ SS G SA X es k H)) 0 0 (A) := by
  refine mstart "Signtext" (by decide +kernel) rfl (Nat.le_of_ble_eq_true rfl) ?_
  intro p e s m below meth c ls hx hb hr hts hown hml hlocks hname hC hA hW hl
  have hl : lv_has ls 3 [(0, .ref (SA 0))] := hl
  have hK := hC.1
  have hS : va_S A s.heap s.heap [] := va_S.rf
  have hSS := hW
  refine lv_iconst (v := nI 0) hx hb dX2_isSound_0 (by decide) ?_
  refine lv_istore_n (lv' := [(1, .int (nI 0)), (0, .ref (SA 0))]) hx hb dX2_isSound_1 rfl hl (by decide) rfl (fun ls hl => ?_)
  refine nloop (P := fun j => ∀ (ls : Array Slot) (H : Heap) (L : List Loc), lv_has ls 3 [(1, .int (nI j)), (0, .ref (SA 0))] → va_S A s.heap H L → SS G SA X es k H → W p l e rmX2_isSound s m [.ref (SA 0)].toArray below meth c H L 0 0 (MQ below (qI A (fun r H => (∃ v : Bool, r = bI v) ∧ SS G SA X es k H)) [.ref (SA 0)].toArray s 0 0 (A)) (F0 m 2 ls [])) 4 ?_ 0 (Nat.zero_le _) ls s.heap [] hl hS hSS
  clear hl
  intro j hj ih ls H L hl
  clear hS hSS hW
  intro hS hSS
  have hs9 := hSS
  obtain ⟨T, es2, hW, hF⟩ := hs9
  have hO := hW.2.1
  have hR1 := hW.2.2.1
  have hR2 := hW.2.2.2.1
  refine lv_iload_n hx hb dX2_isSound_2 rfl (lv_at hl 0 rfl) ?_
  refine lv_iconst (v := nI 4) hx hb dX2_isSound_3 (by decide) ?_
  refine b_ge (tgt := 61) hx hb dX2_isSound_4 (by decide) (by omega) (by omega) (fun c_20 => ?_) (fun c_20 => ?_)
  · refine lv_iconst (v := nI 1) hx hb dX2_isSound_61 (by decide) ?_
    exact q_z (b9 := true) hx hb hr hlocks dX2_isSound_62 hS (Nat.le_refl _) (Nat.le_refl _) ⟨⟨_, rfl⟩, hSS⟩
  · refine lv_aload_n hx hb dX2_isSound_7 rfl (lv_at hl 1 rfl) ?_
    refine lv_aload_n hx hb dX2_isSound_8 rfl (lv_at hl 1 rfl) ?_
    refine va_get (D := G.1) (ci := 6) (C := RX2) (T := TX2) (N := 8) hx hb hts inX2 hown hK (at_P hO) 0 rfl rfl 0 (by decide) (hts _ tw_1_137) (fun _ h9 => h9) rfl dX2_isSound_9 ?_
    refine lv_iload_n hx hb dX2_isSound_12 rfl (lv_at hl 0 rfl) ?_
    refine va_aldq (D := G.1) hx hb hK (at_P hR1) 0 3 rfl rfl (vp_in_nI (n := j) (N := 4) (by omega) (by omega)) dX2_isSound_13 ?_
    refine v_cv (show va_rf _ = .ref (SA (7 + 2 * j)) from by rw [nI_clamp (n := j) (by omega)]; rfl) ?_
    refine qI_V (A := A) (A1 := A) (b := (SA 0)) (As := [.ref (SA (7 + 2 * j))]) (rest := []) ⟨hx, hb, hml, hown, hts⟩ (mX2_isSoundAlone (A := A) (i := j) (by omega) hAS) (cwV 1 hts (gV tw_1_235 tw_1_237 sel_X2_isSoundAlone tw_1_1 tw_1_238) rfl rfl rfl (by decide +kernel) ⟨Nat.le_of_ble_eq_true rfl, Nat.le_of_ble_eq_true rfl⟩) hC hS (fun _ h => h) (fun q h => hA q (Nat.le_trans hS.1 h)) (hW.recv hK) hSS rfl rfl hl.1 (Nat.le_of_ble_eq_true rfl) ⟨Nat.zero_le _, Nat.zero_le _⟩ dX2_isSound_14 (fun rv21 H21 L21 hP21 hk21 hS => ?_)
    have hZ21 := hS.1
    obtain ⟨⟨v21, hv21⟩, hSS⟩ := hP21
    subst hv21
    refine f_ne (tgt := 22) hx hb dX2_isSound_17 (by decide) (fun c_22 => ?_) (fun c_22 => ?_)
    · refine lv_iconst (v := nI 0) hx hb dX2_isSound_22 (by decide) ?_
      refine lv_istore_n (lv' := [(2, .int (nI 0)), (1, .int (nI j)), (0, .ref (SA 0))]) hx hb dX2_isSound_23 rfl hl (by decide) rfl (fun ls hl => ?_)
      have ih1 := ih
      have hs9 := hSS
      obtain ⟨T, es2, hW, hF⟩ := hs9
      have hO := hW.2.1
      have hR1 := hW.2.2.1
      have hR2 := hW.2.2.2.1
      refine nloop (P := fun q => ∀ (ls : Array Slot) , lv_has ls 3 [(2, .int (nI q)), (1, .int (nI j)), (0, .ref (SA 0))] → W p l e rmX2_isSound s m [.ref (SA 0)].toArray below meth c H21 L21 0 0 (MQ below (qI A (fun r H => (∃ v : Bool, r = bI v) ∧ SS G SA X es k H)) [.ref (SA 0)].toArray s 0 0 (A)) (F0 m 24 ls [])) 4 ?_ 0 (Nat.zero_le _) ls  hl 
      clear hl
      intro q hq ih ls  hl
      have hs9 := hSS
      obtain ⟨T, es2, hW, hF⟩ := hs9
      have hO := hW.2.1
      have hR1 := hW.2.2.1
      have hR2 := hW.2.2.2.1
      refine lv_iload_n hx hb dX2_isSound_24 rfl (lv_at hl 0 rfl) ?_
      refine lv_iconst (v := nI 4) hx hb dX2_isSound_25 (by decide) ?_
      refine b_ge (tgt := 55) hx hb dX2_isSound_26 (by decide) (by omega) (by omega) (fun c_23 => ?_) (fun c_23 => ?_)
      · refine lv_iinc (v := nI (j + 1)) (lv' := [(1, .int (nI (j + 1))), (2, .int (nI q)), (0, .ref (SA 0))]) hx hb dX2_isSound_55 hl (k := 1) rfl (nI_add j 1) (by decide) rfl (fun ls hl => ?_)
        refine lv_goto (tgt := 2) hx hb dX2_isSound_58 (by decide) ?_
        exact ih1 (j + 1) (by omega) (by omega) ls H21 L21 (lv_sub hl [0, 2] rfl) hS hSS
      · refine lv_aload_n hx hb dX2_isSound_29 rfl (lv_at hl 2 rfl) ?_
        refine va_get (D := G.1) (ci := 6) (C := RX2) (T := TX2) (N := 8) hx hb hts inX2 hown hK (at_P hO) 0 rfl rfl 0 (by decide) (hts _ tw_1_137) (fun _ h9 => h9) rfl dX2_isSound_30 ?_
        refine lv_iload_n hx hb dX2_isSound_33 rfl (lv_at hl 1 rfl) ?_
        refine va_aldq (D := G.1) hx hb hK (at_P hR1) 0 3 rfl rfl (vp_in_nI (n := j) (N := 4) (by omega) (by omega)) dX2_isSound_34 ?_
        refine v_cv (show va_rf _ = .ref (SA (7 + 2 * j)) from by rw [nI_clamp (n := j) (by omega)]; rfl) ?_
        refine lv_aload_n hx hb dX2_isSound_35 rfl (lv_at hl 2 rfl) ?_
        refine va_get (D := G.1) (ci := 6) (C := RX2) (T := TX2) (N := 8) hx hb hts inX2 hown hK (at_P hO) 0 rfl rfl 0 (by decide) (hts _ tw_1_137) (fun _ h9 => h9) rfl dX2_isSound_36 ?_
        refine lv_iload_n hx hb dX2_isSound_39 rfl (lv_at hl 0 rfl) ?_
        refine va_aldq (D := G.1) hx hb hK (at_P hR1) 0 3 rfl rfl (vp_in_nI (n := q) (N := 4) (by omega) (by omega)) dX2_isSound_40 ?_
        refine v_cv (show va_rf _ = .ref (SA (7 + 2 * q)) from by rw [nI_clamp (n := q) (by omega)]; rfl) ?_
        refine kS_i (A := A) (As := [.ref (SA (7 + 2 * j)), .ref (SA (7 + 2 * q))]) (rest := []) ⟨hx, hb, hml, hown, hts⟩ (mX2_isSoundPair (A := A) (ca := SA (8 + 2 * j)) (cb := SA (8 + 2 * q))) (va_cwS 2 hts (gS tw_2_95 tw_2_96 tw_1_1 tw_2_97) rfl rfl rfl (by decide +kernel) ⟨Nat.le_of_ble_eq_true rfl, Nat.le_of_ble_eq_true rfl⟩) hC hS hA  ⟨(hW.line (i := j) (by omega)), (hW.line (i := q) (by omega))⟩ rfl rfl hl.1 (Nat.le_of_ble_eq_true rfl) ⟨Nat.zero_le _, Nat.zero_le _⟩ dX2_isSound_41 (fun r_24 hr_24 => ?_)
        obtain ⟨r_24v, rfl⟩ := hr_24
        refine f_ne (tgt := 49) hx hb dX2_isSound_44 (by decide) (fun c_25 => ?_) (fun c_25 => ?_)
        · refine lv_iinc (v := nI (q + 1)) (lv' := [(2, .int (nI (q + 1))), (1, .int (nI j)), (0, .ref (SA 0))]) hx hb dX2_isSound_49 hl (k := 0) rfl (nI_add q 1) (by decide) rfl (fun ls hl => ?_)
          refine lv_goto (tgt := 24) hx hb dX2_isSound_52 (by decide) ?_
          exact ih (q + 1) (by omega) (by omega) ls (lv_sub hl [0, 1, 2] rfl)
        · refine lv_iconst (v := nI 0) hx hb dX2_isSound_47 (by decide) ?_
          exact q_z (b9 := false) hx hb hr hlocks dX2_isSound_48 hS (Nat.le_refl _) (Nat.le_refl _) ⟨⟨_, rfl⟩, hSS⟩
    · refine lv_iconst (v := nI 0) hx hb dX2_isSound_20 (by decide) ?_
      exact q_z (b9 := false) hx hb hr hlocks dX2_isSound_21 hS (Nat.le_refl _) (Nat.le_refl _) ⟨⟨_, rfl⟩, hSS⟩
