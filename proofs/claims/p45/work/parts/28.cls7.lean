/-! The class, 7: whether all is sound (any answer) -/
theorem dX2_isSameTakenAgain_0 : decode cX2_isSameTakenAgain 0 = .ok (.aload_n 0, 1) := by decide +kernel
theorem dX2_isSameTakenAgain_1 : decode cX2_isSameTakenAgain 1 = .ok (.getfield 34, 3) := by decide +kernel
theorem dX2_isSameTakenAgain_4 : decode cX2_isSameTakenAgain 4 = .ok (.aload_n 1, 1) := by decide +kernel
theorem dX2_isSameTakenAgain_5 : decode cX2_isSameTakenAgain 5 = .ok (.invokevirtual 91, 3) := by decide +kernel
theorem dX2_isSameTakenAgain_8 : decode cX2_isSameTakenAgain 8 = .ok (.aload_n 0, 1) := by decide +kernel
theorem dX2_isSameTakenAgain_9 : decode cX2_isSameTakenAgain 9 = .ok (.getfield 37, 3) := by decide +kernel
theorem dX2_isSameTakenAgain_12 : decode cX2_isSameTakenAgain 12 = .ok (.aload_n 0, 1) := by decide +kernel
theorem dX2_isSameTakenAgain_13 : decode cX2_isSameTakenAgain 13 = .ok (.getfield 34, 3) := by decide +kernel
theorem dX2_isSameTakenAgain_16 : decode cX2_isSameTakenAgain 16 = .ok (.invokevirtual 91, 3) := by decide +kernel
theorem dX2_isSameTakenAgain_19 : decode cX2_isSameTakenAgain 19 = .ok (.aload_n 0, 1) := by decide +kernel
theorem dX2_isSameTakenAgain_20 : decode cX2_isSameTakenAgain 20 = .ok (.getfield 37, 3) := by decide +kernel
theorem dX2_isSameTakenAgain_23 : decode cX2_isSameTakenAgain 23 = .ok (.aload_n 1, 1) := by decide +kernel
theorem dX2_isSameTakenAgain_24 : decode cX2_isSameTakenAgain 24 = .ok (.iconst 0, 1) := by decide +kernel
theorem dX2_isSameTakenAgain_25 : decode cX2_isSameTakenAgain 25 = .ok (.invokevirtual 179, 3) := by decide +kernel
theorem dX2_isSameTakenAgain_28 : decode cX2_isSameTakenAgain 28 = .ok (.ireturn, 1) := by decide +kernel
theorem dX2_isSameInTwoParts_0 : decode cX2_isSameInTwoParts 0 = .ok (.iconst 0, 1) := by decide +kernel
theorem dX2_isSameInTwoParts_1 : decode cX2_isSameInTwoParts 1 = .ok (.istore_n 2, 1) := by decide +kernel
theorem dX2_isSameInTwoParts_2 : decode cX2_isSameInTwoParts 2 = .ok (.iload_n 2, 1) := by decide +kernel
theorem dX2_isSameInTwoParts_3 : decode cX2_isSameInTwoParts 3 = .ok (.aload_n 1, 1) := by decide +kernel
theorem dX2_isSameInTwoParts_4 : decode cX2_isSameInTwoParts 4 = .ok (.invokevirtual 66, 3) := by decide +kernel
theorem dX2_isSameInTwoParts_7 : decode cX2_isSameInTwoParts 7 = .ok (.if_icmp .gt 53, 3) := by decide +kernel
theorem dX2_isSameInTwoParts_10 : decode cX2_isSameInTwoParts 10 = .ok (.aload_n 0, 1) := by decide +kernel
theorem dX2_isSameInTwoParts_11 : decode cX2_isSameInTwoParts 11 = .ok (.getfield 37, 3) := by decide +kernel
theorem dX2_isSameInTwoParts_14 : decode cX2_isSameInTwoParts 14 = .ok (.invokevirtual 55, 3) := by decide +kernel
theorem dX2_isSameInTwoParts_17 : decode cX2_isSameInTwoParts 17 = .ok (.aload_n 0, 1) := by decide +kernel
theorem dX2_isSameInTwoParts_18 : decode cX2_isSameInTwoParts 18 = .ok (.getfield 37, 3) := by decide +kernel
theorem dX2_isSameInTwoParts_21 : decode cX2_isSameInTwoParts 21 = .ok (.aload_n 1, 1) := by decide +kernel
theorem dX2_isSameInTwoParts_22 : decode cX2_isSameInTwoParts 22 = .ok (.iconst 0, 1) := by decide +kernel
theorem dX2_isSameInTwoParts_23 : decode cX2_isSameInTwoParts 23 = .ok (.iload_n 2, 1) := by decide +kernel
theorem dX2_isSameInTwoParts_24 : decode cX2_isSameInTwoParts 24 = .ok (.invokevirtual 235, 3) := by decide +kernel
theorem dX2_isSameInTwoParts_27 : decode cX2_isSameInTwoParts 27 = .ok (.aload_n 0, 1) := by decide +kernel
theorem dX2_isSameInTwoParts_28 : decode cX2_isSameInTwoParts 28 = .ok (.getfield 37, 3) := by decide +kernel
theorem dX2_isSameInTwoParts_31 : decode cX2_isSameInTwoParts 31 = .ok (.aload_n 1, 1) := by decide +kernel
theorem dX2_isSameInTwoParts_32 : decode cX2_isSameInTwoParts 32 = .ok (.iload_n 2, 1) := by decide +kernel
theorem dX2_isSameInTwoParts_33 : decode cX2_isSameInTwoParts 33 = .ok (.aload_n 1, 1) := by decide +kernel
theorem dX2_isSameInTwoParts_34 : decode cX2_isSameInTwoParts 34 = .ok (.invokevirtual 66, 3) := by decide +kernel
theorem dX2_isSameInTwoParts_37 : decode cX2_isSameInTwoParts 37 = .ok (.invokevirtual 235, 3) := by decide +kernel
theorem dX2_isSameInTwoParts_40 : decode cX2_isSameInTwoParts 40 = .ok (.aload_n 0, 1) := by decide +kernel
theorem dX2_isSameInTwoParts_41 : decode cX2_isSameInTwoParts 41 = .ok (.getfield 37, 3) := by decide +kernel
theorem dX2_isSameInTwoParts_44 : decode cX2_isSameInTwoParts 44 = .ok (.aload_n 1, 1) := by decide +kernel
theorem dX2_isSameInTwoParts_45 : decode cX2_isSameInTwoParts 45 = .ok (.iconst 0, 1) := by decide +kernel
theorem dX2_isSameInTwoParts_46 : decode cX2_isSameInTwoParts 46 = .ok (.invokevirtual 179, 3) := by decide +kernel
theorem dX2_isSameInTwoParts_49 : decode cX2_isSameInTwoParts 49 = .ok (.ifCond .ne 5, 3) := by decide +kernel
theorem dX2_isSameInTwoParts_52 : decode cX2_isSameInTwoParts 52 = .ok (.iconst 0, 1) := by decide +kernel
theorem dX2_isSameInTwoParts_53 : decode cX2_isSameInTwoParts 53 = .ok (.ireturn, 1) := by decide +kernel
theorem dX2_isSameInTwoParts_54 : decode cX2_isSameInTwoParts 54 = .ok (.iinc 2 1, 3) := by decide +kernel
theorem dX2_isSameInTwoParts_57 : decode cX2_isSameInTwoParts 57 = .ok (.goto (-55), 3) := by decide +kernel
theorem dX2_isSameInTwoParts_60 : decode cX2_isSameInTwoParts 60 = .ok (.iconst 1, 1) := by decide +kernel
theorem dX2_isSameInTwoParts_61 : decode cX2_isSameInTwoParts 61 = .ok (.ireturn, 1) := by decide +kernel
theorem dX2_isSameTrimmedAgain_0 : decode cX2_isSameTrimmedAgain 0 = .ok (.aload_n 0, 1) := by decide +kernel
theorem dX2_isSameTrimmedAgain_1 : decode cX2_isSameTrimmedAgain 1 = .ok (.aload_n 1, 1) := by decide +kernel
theorem dX2_isSameTrimmedAgain_2 : decode cX2_isSameTrimmedAgain 2 = .ok (.aload_n 1, 1) := by decide +kernel
theorem dX2_isSameTrimmedAgain_3 : decode cX2_isSameTrimmedAgain 3 = .ok (.iload_n 2, 1) := by decide +kernel
theorem dX2_isSameTrimmedAgain_4 : decode cX2_isSameTrimmedAgain 4 = .ok (.invokevirtual 94, 3) := by decide +kernel
theorem dX2_isSameTrimmedAgain_7 : decode cX2_isSameTrimmedAgain 7 = .ok (.aload_n 1, 1) := by decide +kernel
theorem dX2_isSameTrimmedAgain_8 : decode cX2_isSameTrimmedAgain 8 = .ok (.iload_n 2, 1) := by decide +kernel
theorem dX2_isSameTrimmedAgain_9 : decode cX2_isSameTrimmedAgain 9 = .ok (.invokevirtual 98, 3) := by decide +kernel
theorem dX2_isSameTrimmedAgain_12 : decode cX2_isSameTrimmedAgain 12 = .ok (.aload_n 0, 1) := by decide +kernel
theorem dX2_isSameTrimmedAgain_13 : decode cX2_isSameTrimmedAgain 13 = .ok (.getfield 34, 3) := by decide +kernel
theorem dX2_isSameTrimmedAgain_16 : decode cX2_isSameTrimmedAgain 16 = .ok (.invokevirtual 70, 3) := by decide +kernel
theorem dX2_isSameTrimmedAgain_19 : decode cX2_isSameTrimmedAgain 19 = .ok (.pop, 1) := by decide +kernel
theorem dX2_isSameTrimmedAgain_20 : decode cX2_isSameTrimmedAgain 20 = .ok (.aload_n 0, 1) := by decide +kernel
theorem dX2_isSameTrimmedAgain_21 : decode cX2_isSameTrimmedAgain 21 = .ok (.aload_n 0, 1) := by decide +kernel
theorem dX2_isSameTrimmedAgain_22 : decode cX2_isSameTrimmedAgain 22 = .ok (.getfield 34, 3) := by decide +kernel
theorem dX2_isSameTrimmedAgain_25 : decode cX2_isSameTrimmedAgain 25 = .ok (.aload_n 0, 1) := by decide +kernel
theorem dX2_isSameTrimmedAgain_26 : decode cX2_isSameTrimmedAgain 26 = .ok (.getfield 34, 3) := by decide +kernel
theorem dX2_isSameTrimmedAgain_29 : decode cX2_isSameTrimmedAgain 29 = .ok (.iload_n 2, 1) := by decide +kernel
theorem dX2_isSameTrimmedAgain_30 : decode cX2_isSameTrimmedAgain 30 = .ok (.invokevirtual 94, 3) := by decide +kernel
theorem dX2_isSameTrimmedAgain_33 : decode cX2_isSameTrimmedAgain 33 = .ok (.aload_n 0, 1) := by decide +kernel
theorem dX2_isSameTrimmedAgain_34 : decode cX2_isSameTrimmedAgain 34 = .ok (.getfield 34, 3) := by decide +kernel
theorem dX2_isSameTrimmedAgain_37 : decode cX2_isSameTrimmedAgain 37 = .ok (.iload_n 2, 1) := by decide +kernel
theorem dX2_isSameTrimmedAgain_38 : decode cX2_isSameTrimmedAgain 38 = .ok (.invokevirtual 98, 3) := by decide +kernel
theorem dX2_isSameTrimmedAgain_41 : decode cX2_isSameTrimmedAgain 41 = .ok (.aload_n 0, 1) := by decide +kernel
theorem dX2_isSameTrimmedAgain_42 : decode cX2_isSameTrimmedAgain 42 = .ok (.getfield 37, 3) := by decide +kernel
theorem dX2_isSameTrimmedAgain_45 : decode cX2_isSameTrimmedAgain 45 = .ok (.invokevirtual 70, 3) := by decide +kernel
theorem dX2_isSameTrimmedAgain_48 : decode cX2_isSameTrimmedAgain 48 = .ok (.pop, 1) := by decide +kernel
theorem dX2_isSameTrimmedAgain_49 : decode cX2_isSameTrimmedAgain 49 = .ok (.aload_n 0, 1) := by decide +kernel
theorem dX2_isSameTrimmedAgain_50 : decode cX2_isSameTrimmedAgain 50 = .ok (.getfield 37, 3) := by decide +kernel
theorem dX2_isSameTrimmedAgain_53 : decode cX2_isSameTrimmedAgain 53 = .ok (.aload_n 0, 1) := by decide +kernel
theorem dX2_isSameTrimmedAgain_54 : decode cX2_isSameTrimmedAgain 54 = .ok (.getfield 34, 3) := by decide +kernel
theorem dX2_isSameTrimmedAgain_57 : decode cX2_isSameTrimmedAgain 57 = .ok (.iconst 0, 1) := by decide +kernel
theorem dX2_isSameTrimmedAgain_58 : decode cX2_isSameTrimmedAgain 58 = .ok (.invokevirtual 179, 3) := by decide +kernel
theorem dX2_isSameTrimmedAgain_61 : decode cX2_isSameTrimmedAgain 61 = .ok (.ireturn, 1) := by decide +kernel
theorem dX2_isSoundPair_0 : decode cX2_isSoundPair 0 = .ok (.aload_n 0, 1) := by decide +kernel
theorem dX2_isSoundPair_1 : decode cX2_isSoundPair 1 = .ok (.aload_n 1, 1) := by decide +kernel
theorem dX2_isSoundPair_2 : decode cX2_isSoundPair 2 = .ok (.iconst 0, 1) := by decide +kernel
theorem dX2_isSoundPair_3 : decode cX2_isSoundPair 3 = .ok (.invokevirtual 183, 3) := by decide +kernel
theorem dX2_isSoundPair_6 : decode cX2_isSoundPair 6 = .ok (.istore_n 2, 1) := by decide +kernel
theorem dX2_isSoundPair_7 : decode cX2_isSoundPair 7 = .ok (.aload_n 0, 1) := by decide +kernel
theorem dX2_isSoundPair_8 : decode cX2_isSoundPair 8 = .ok (.aload_n 1, 1) := by decide +kernel
theorem dX2_isSoundPair_9 : decode cX2_isSoundPair 9 = .ok (.iconst 0, 1) := by decide +kernel
theorem dX2_isSoundPair_10 : decode cX2_isSoundPair 10 = .ok (.invokevirtual 179, 3) := by decide +kernel
theorem dX2_isSoundPair_13 : decode cX2_isSoundPair 13 = .ok (.istore_n 3, 1) := by decide +kernel
theorem dX2_isSoundPair_14 : decode cX2_isSoundPair 14 = .ok (.aload_n 0, 1) := by decide +kernel
theorem dX2_isSoundPair_15 : decode cX2_isSoundPair 15 = .ok (.aload_n 1, 1) := by decide +kernel
theorem dX2_isSoundPair_16 : decode cX2_isSoundPair 16 = .ok (.invokevirtual 168, 3) := by decide +kernel
theorem dX2_isSoundPair_19 : decode cX2_isSoundPair 19 = .ok (.istore 4, 2) := by decide +kernel
theorem dX2_isSoundPair_21 : decode cX2_isSoundPair 21 = .ok (.aload_n 0, 1) := by decide +kernel
theorem dX2_isSoundPair_22 : decode cX2_isSoundPair 22 = .ok (.aload_n 1, 1) := by decide +kernel
theorem dX2_isSoundPair_23 : decode cX2_isSoundPair 23 = .ok (.invokevirtual 172, 3) := by decide +kernel
theorem dX2_isSoundPair_26 : decode cX2_isSoundPair 26 = .ok (.istore 5, 2) := by decide +kernel
theorem dX2_isSoundPair_28 : decode cX2_isSoundPair 28 = .ok (.iload_n 3, 1) := by decide +kernel
theorem dX2_isSoundPair_29 : decode cX2_isSoundPair 29 = .ok (.iload_n 2, 1) := by decide +kernel
theorem dX2_isSoundPair_30 : decode cX2_isSoundPair 30 = .ok (.ifCond .ne 7, 3) := by decide +kernel
theorem dX2_isSoundPair_33 : decode cX2_isSoundPair 33 = .ok (.iconst 1, 1) := by decide +kernel
theorem dX2_isSoundPair_34 : decode cX2_isSoundPair 34 = .ok (.goto 4, 3) := by decide +kernel
theorem dX2_isSoundPair_37 : decode cX2_isSoundPair 37 = .ok (.iconst 0, 1) := by decide +kernel
theorem dX2_isSoundPair_38 : decode cX2_isSoundPair 38 = .ok (.if_icmp .ne 59, 3) := by decide +kernel
theorem dX2_isSoundPair_41 : decode cX2_isSoundPair 41 = .ok (.iload_n 2, 1) := by decide +kernel
theorem dX2_isSoundPair_42 : decode cX2_isSoundPair 42 = .ok (.aload_n 1, 1) := by decide +kernel
theorem dX2_isSoundPair_43 : decode cX2_isSoundPair 43 = .ok (.aload_n 0, 1) := by decide +kernel
theorem dX2_isSoundPair_44 : decode cX2_isSoundPair 44 = .ok (.iconst 0, 1) := by decide +kernel
theorem dX2_isSoundPair_45 : decode cX2_isSoundPair 45 = .ok (.invokevirtual 183, 3) := by decide +kernel
theorem dX2_isSoundPair_48 : decode cX2_isSoundPair 48 = .ok (.ineg, 1) := by decide +kernel
theorem dX2_isSoundPair_49 : decode cX2_isSoundPair 49 = .ok (.if_icmp .ne 48, 3) := by decide +kernel
theorem dX2_isSoundPair_52 : decode cX2_isSoundPair 52 = .ok (.iload_n 3, 1) := by decide +kernel
theorem dX2_isSoundPair_53 : decode cX2_isSoundPair 53 = .ok (.ifCond .eq 14, 3) := by decide +kernel
theorem dX2_isSoundPair_56 : decode cX2_isSoundPair 56 = .ok (.aload_n 0, 1) := by decide +kernel
theorem dX2_isSoundPair_57 : decode cX2_isSoundPair 57 = .ok (.invokevirtual 154, 3) := by decide +kernel
theorem dX2_isSoundPair_60 : decode cX2_isSoundPair 60 = .ok (.aload_n 1, 1) := by decide +kernel
theorem dX2_isSoundPair_61 : decode cX2_isSoundPair 61 = .ok (.invokevirtual 154, 3) := by decide +kernel
theorem dX2_isSoundPair_64 : decode cX2_isSoundPair 64 = .ok (.if_icmp .ne 33, 3) := by decide +kernel
theorem dX2_isSoundPair_67 : decode cX2_isSoundPair 67 = .ok (.aload_n 0, 1) := by decide +kernel
theorem dX2_isSoundPair_68 : decode cX2_isSoundPair 68 = .ok (.aload_n 1, 1) := by decide +kernel
theorem dX2_isSoundPair_69 : decode cX2_isSoundPair 69 = .ok (.invokevirtual 175, 3) := by decide +kernel
theorem dX2_isSoundPair_72 : decode cX2_isSoundPair 72 = .ok (.iload 4, 2) := by decide +kernel
theorem dX2_isSoundPair_74 : decode cX2_isSoundPair 74 = .ok (.iconst (-1), 1) := by decide +kernel
theorem dX2_isSoundPair_75 : decode cX2_isSoundPair 75 = .ok (.if_icmp .eq 7, 3) := by decide +kernel
theorem dX2_isSoundPair_78 : decode cX2_isSoundPair 78 = .ok (.iconst 1, 1) := by decide +kernel
theorem dX2_isSoundPair_79 : decode cX2_isSoundPair 79 = .ok (.goto 4, 3) := by decide +kernel
theorem dX2_isSoundPair_82 : decode cX2_isSoundPair 82 = .ok (.iconst 0, 1) := by decide +kernel
theorem dX2_isSoundPair_83 : decode cX2_isSoundPair 83 = .ok (.if_icmp .ne 14, 3) := by decide +kernel
theorem dX2_isSoundPair_86 : decode cX2_isSoundPair 86 = .ok (.iload 5, 2) := by decide +kernel
theorem dX2_isSoundPair_88 : decode cX2_isSoundPair 88 = .ok (.iload 4, 2) := by decide +kernel
theorem dX2_isSoundPair_90 : decode cX2_isSoundPair 90 = .ok (.if_icmp .lt 7, 3) := by decide +kernel
theorem dX2_isSoundPair_93 : decode cX2_isSoundPair 93 = .ok (.iconst 1, 1) := by decide +kernel
theorem dX2_isSoundPair_94 : decode cX2_isSoundPair 94 = .ok (.goto 4, 3) := by decide +kernel
theorem dX2_isSoundPair_97 : decode cX2_isSoundPair 97 = .ok (.iconst 0, 1) := by decide +kernel
theorem dX2_isSoundPair_98 : decode cX2_isSoundPair 98 = .ok (.ireturn, 1) := by decide +kernel
theorem mX0_become_s {l : Launch} {G : Cx} {A : Nat → Prop} {a ca : Nat} {t : List Nat} (hAa : A a) (hAca : A ca) : Met l yX0_become (.code yX0_become cX0_become 3 (none : Option Jvm.ClassFile.FieldType) :: GW) rmX0_become (PC G A [.ref a, .ref a] (LA G a ca t)) (qV A (LA G a ca t)) 0 0 (A) := by
  refine mstart "Signtext$Line" (by decide +kernel) rfl (Nat.le_of_ble_eq_true rfl) ?_
  intro p e s m below meth c ls hx hb hr hts hown hml hlocks hname hC hA hW hl
  have hl : lv_has ls 3 [(0, .ref a), (1, .ref a)] := hl
  have hK := hC.1
  have hS : va_S A s.heap s.heap [] := va_S.rf
  have hq9 := hW
  obtain ⟨t60, tok, tne, hO, f, hF, hf⟩ := hq9
  refine lv_aload_n hx hb dX0_become_0 rfl (lv_at hl 0 rfl) ?_
  refine lv_aload_n hx hb dX0_become_1 rfl (lv_at hl 1 rfl) ?_
  refine va_get (D := G.1) (ci := 4) (C := RX0) (T := TX0) (N := 2) hx hb hts inX0 hown hK (at_P hO) 0 rfl rfl 1 (by decide) (hts _ tw_1_45) (fun _ h9 => h9) rfl dX0_become_2 ?_
  refine h_put (D := G.1) (ci := 4) (C := RX0) (T := TX0) (N := 2) hx hb hts inX0 tyX0 tyX0_ok nmX0 hown hK hO hS hAa rfl 1 (by decide) (hts _ tw_1_45) (fun _ h9 => h9) rfl (tyX0_ok 1 (by decide)) rfl rfl (Nat.le_of_ble_eq_true rfl) dX0_become_5 (fun H1 L1 hO z1 o1 hS => ?_)
  have hO : va_at G.1 vwCl (a, .inr (4, [.ref ca, .int (nI t.length)])) H1 := hO
  have hF := at_o hF o1 (Ne.symm tne)
  have hZ1 := hS.1
  refine lv_iconst (v := nI 0) hx hb dX0_become_8 (by decide) ?_
  refine lv_istore_n (lv' := [(2, .int (nI 0)), (0, .ref a), (1, .ref a)]) hx hb dX0_become_9 rfl hl (by decide) rfl (fun ls hl => ?_)
  refine nloop (P := fun j => ∀ (ls : Array Slot) (H : Heap) (L : List Loc) (f : Nat → Int32), lv_has ls 3 [(2, .int (nI j)), (0, .ref a), (1, .ref a)] → va_S A s.heap H L → va_at G.1 vwCl (a, .inr (4, [.ref ca, .int (nI t.length)])) H → va_at G.1 vwCl (ca, .inl (G.2.1 1, 60, .inl f)) H → (∀ k : Nat, k < t.length → f k = nI (t.getD k 0)) → W p l e rmX0_become s m [.ref a, .ref a].toArray below meth c H L 0 0 (MQ below (qV A (LA G a ca t)) [.ref a, .ref a].toArray s 0 0 (A)) (F0 m 10 ls [])) t.length ?_ 0 (Nat.zero_le _) ls H1 L1 f hl hS hO hF hf
  clear hl
  intro j hj ih ls H L f hl
  clear hS hO hF hf
  intro hS hO hF hf
  refine lv_iload_n hx hb dX0_become_10 rfl (lv_at hl 0 rfl) ?_
  refine lv_aload_n hx hb dX0_become_11 rfl (lv_at hl 1 rfl) ?_
  refine va_get (D := G.1) (ci := 4) (C := RX0) (T := TX0) (N := 2) hx hb hts inX0 hown hK (at_P hO) 0 rfl rfl 1 (by decide) (hts _ tw_1_45) (fun _ h9 => h9) rfl dX0_become_12 ?_
  refine b_ge (tgt := 36) hx hb dX0_become_15 (by decide) (by omega) (by omega) (fun c_2 => ?_) (fun c_2 => ?_)
  · exact q_v hx hb hr hlocks dX0_become_36 hS (Nat.le_refl _) (Nat.le_refl _) ⟨t60, tok, tne, hO, f, hF, hf⟩
  · refine lv_aload_n hx hb dX0_become_18 rfl (lv_at hl 1 rfl) ?_
    refine va_get (D := G.1) (ci := 4) (C := RX0) (T := TX0) (N := 2) hx hb hts inX0 hown hK (at_P hO) 0 rfl rfl 0 (by decide) (hts _ tw_1_44) (fun _ h9 => h9) rfl dX0_become_19 ?_
    refine lv_iload_n hx hb dX0_become_22 rfl (lv_at hl 0 rfl) ?_
    refine lv_aload_n hx hb dX0_become_23 rfl (lv_at hl 2 rfl) ?_
    refine va_get (D := G.1) (ci := 4) (C := RX0) (T := TX0) (N := 2) hx hb hts inX0 hown hK (at_P hO) 0 rfl rfl 0 (by decide) (hts _ tw_1_44) (fun _ h9 => h9) rfl dX0_become_24 ?_
    refine lv_iload_n hx hb dX0_become_27 rfl (lv_at hl 0 rfl) ?_
    refine va_cald hx hb hK (at_P hF) 0 1 rfl rfl (vp_in_nI (n := j) (N := 60) (by omega) (by omega)) dX0_become_28 ?_
    refine lv_cv (show _ = nI (t.getD j 0) from by rw [nI_clamp (by omega)]; exact hf _ (by omega)) ?_
    have tokj := tok j
    refine h_cst (D := G.1) hx hb hK 1 hF rfl hS hAca (vp_in_nI (n := j) (N := 60) (by omega) (by omega)) dX0_become_29 (fun H3 L3 hF z3 o3 hS => ?_)
    rw [nI_clamp (n := j) (by omega)] at hF
    have hO := at_o hO o3 tne
    have hZ3 := hS.1
    refine lv_iinc (v := nI (j + 1)) (lv' := [(2, .int (nI (j + 1))), (0, .ref a), (1, .ref a)]) hx hb dX0_become_30 hl (k := 0) rfl (nI_add j 1) (by decide) rfl (fun ls hl => ?_)
    refine lv_goto (tgt := 10) hx hb dX0_become_33 (by decide) ?_
    exact ih (j + 1) (by omega) (by omega) ls H3 L3 _ (lv_sub hl [0, 1, 2] rfl) hS hO hF (fun k hk => by by_cases q : k = j; rw [q, pk_us, nar_char (by omega)]; rw [pk_un q]; exact hf k hk)

theorem mX2_partInto_d {l : Launch} {G : Cx} {A : Nat → Prop} {SA : Nat → Nat} {T : Nat → List Nat} {es es2 : List Nat} {k : Int32} {i a9 b9 : Nat} (hAS : ∀ i : Nat, i < 39 → A (SA i)) (hi : i < 16) (hi13 : i ≠ 13) (hab : a9 ≤ b9) (hb9 : b9 ≤ (T i).length) : Met l yX2_partInto (.code yX2_partInto cX2_partInto 5 (some .int) :: GW) rmX2_partInto (PC G A [.ref (SA 0), .ref (SA (7 + 2 * i)), .int (nI a9), .int (nI b9), .ref (SA (7 + 2 * 13))] (SW G SA T es es2 k)) (qI A (fun r H => r = nI (cutL (T i) a9 b9).length ∧ SW G SA (updT T 13 (cutL (T i) a9 b9)) es es2 k H)) 0 0 (A) := by
  refine mstart "Signtext" (by decide +kernel) rfl (Nat.le_of_ble_eq_true rfl) ?_
  intro p e s m below meth c ls hx hb hr hts hown hml hlocks hname hC hA hW hl
  have hl : lv_has ls 5 [(0, .ref (SA 0)), (1, .ref (SA (7 + 2 * i))), (2, .int (nI a9)), (3, .int (nI b9)), (4, .ref (SA (7 + 2 * 13)))] := hl
  have hK := hC.1
  have hS : va_S A s.heap s.heap [] := va_S.rf
  have i60 := (hW.line hi).1
  have h60 : (cutL (T i) a9 b9).length ≤ 60 := Nat.le_trans (cutL_le _ _ _) i60
  have hO := hW.2.1
  have hR1 := hW.2.2.1
  have hR2 := hW.2.2.2.1
  refine lv_aload_n hx hb dX2_partInto_0 rfl (lv_at hl 0 rfl) ?_
  refine va_get (D := G.1) (ci := 6) (C := RX2) (T := TX2) (N := 8) hx hb hts inX2 hown hK (at_P hO) 0 rfl rfl 6 (by decide) (hts _ tw_1_143) (fun _ h9 => h9) rfl dX2_partInto_1 ?_
  refine qV_V (A := A) (A1 := ow (SA (7 + 2 * 13)) (SA (8 + 2 * 13)) s.heap.size) (b := (SA 33)) (As := []) (rest := []) ⟨hx, hb, hml, hown, hts⟩ (mX0_empty (A := ow (SA (7 + 2 * 13)) (SA (8 + 2 * 13)) s.heap.size) (ca := SA (8 + 2 * 13)) (Or.inl rfl)) (cwV 0 hts (gV tw_2_31 tw_2_32 tw_2_33 tw_1_2 tw_2_34) rfl rfl rfl (by decide +kernel) ⟨Nat.le_of_ble_eq_true rfl, Nat.le_of_ble_eq_true rfl⟩) hC hS (ow_in (hAS _ (by omega)) (hAS _ (by omega)) hA (Nat.le_refl _)) ow_n ((hW.line (i := 13) (by omega)).recv hK) (hW.line (i := 13) (by omega)) rfl rfl hl.1 (Nat.le_of_ble_eq_true rfl) ⟨Nat.zero_le _, Nat.zero_le _⟩ dX2_partInto_4 (fun H4 L4 hP4 hk4 hS => ?_)
  have hZ4 := hS.1
  have hW := hW.put (q := 13) (t := []) (by omega) hk4 hP4
  have hO := hW.2.1
  have hR1 := hW.2.2.1
  have hR2 := hW.2.2.2.1
  refine lv_aload_n hx hb dX2_partInto_7 rfl (lv_at hl 0 rfl) ?_
  refine va_get (D := G.1) (ci := 6) (C := RX2) (T := TX2) (N := 8) hx hb hts inX2 hown hK (at_P hO) 0 rfl rfl 6 (by decide) (hts _ tw_1_143) (fun _ h9 => h9) rfl dX2_partInto_8 ?_
  refine lv_aload_n hx hb dX2_partInto_11 rfl (lv_at hl 1 rfl) ?_
  refine lv_iload_n hx hb dX2_partInto_12 rfl (lv_at hl 2 rfl) ?_
  refine lv_iload_n hx hb dX2_partInto_13 rfl (lv_at hl 3 rfl) ?_
  have e1 : updT T 13 [] i = T i := updT_n hi13
  refine qV_V (A := A) (A1 := ow (SA (7 + 2 * 13)) (SA (8 + 2 * 13)) H4.size) (b := (SA 33)) (As := [.ref (SA (7 + 2 * i)), .int (nI a9), .int (nI b9)]) (rest := []) ⟨hx, hb, hml, hown, hts⟩ (mX0_addPart (A := ow (SA (7 + 2 * 13)) (SA (8 + 2 * 13)) H4.size) (ca := SA (8 + 2 * 13)) (cb := SA (8 + 2 * i)) (t := []) (u := T i) (i := a9) (i2 := b9) (Or.inl rfl) (Or.inr (Or.inl rfl)) ⟨hW.ne (i := 7 + 2 * i) (j := 7 + 2 * 13) (by omega) (by omega) (by omega), hW.ne (i := 7 + 2 * i) (j := 8 + 2 * 13) (by omega) (by omega) (by omega), hW.ne (i := 8 + 2 * i) (j := 7 + 2 * 13) (by omega) (by omega) (by omega), hW.ne (i := 8 + 2 * i) (j := 8 + 2 * 13) (by omega) (by omega) (by omega)⟩ hab hb9) (cwV 3 hts (gV tw_2_35 tw_2_36 tw_2_37 tw_1_2 tw_2_38) rfl rfl rfl (by decide +kernel) ⟨Nat.le_of_ble_eq_true rfl, Nat.le_of_ble_eq_true rfl⟩) hC hS (ow_in (hAS _ (by omega)) (hAS _ (by omega)) hA hS.1) ow_n ((hW.line (i := 13) (by omega)).recv hK) ⟨by have h := hW.line (i := 13) (by omega); rw [updT_s] at h; exact h, by rw [← e1]; exact hW.line hi⟩ rfl rfl hl.1 (Nat.le_of_ble_eq_true rfl) ⟨Nat.zero_le _, Nat.zero_le _⟩ dX2_partInto_14 (fun H5 L5 hP5 hk5 hS => ?_)
  have hZ5 := hS.1
  have hW := hW.put (q := 13) (t := cutL (T i) a9 b9) (by omega) hk5 (by have h := hP5.1; rw [List.nil_append, List.take_of_length_le h60] at h; exact h)
  rw [updT_2] at hW
  have hO := hW.2.1
  have hR1 := hW.2.2.1
  have hR2 := hW.2.2.2.1
  refine lv_aload hx hb dX2_partInto_17 (lv_at hl 4 rfl) ?_
  refine lv_aload_n hx hb dX2_partInto_19 rfl (lv_at hl 0 rfl) ?_
  refine va_get (D := G.1) (ci := 6) (C := RX2) (T := TX2) (N := 8) hx hb hts inX2 hown hK (at_P hO) 0 rfl rfl 6 (by decide) (hts _ tw_1_143) (fun _ h9 => h9) rfl dX2_partInto_20 ?_
  refine qV_V (A := A) (A1 := ow (SA (7 + 2 * 13)) (SA (8 + 2 * 13)) H5.size) (b := (SA (7 + 2 * 13))) (As := [.ref (SA 33)]) (rest := []) ⟨hx, hb, hml, hown, hts⟩ (mX0_become_s (A := ow (SA (7 + 2 * 13)) (SA (8 + 2 * 13)) H5.size) (ca := SA (8 + 2 * 13)) (t := cutL (T i) a9 b9) (Or.inl rfl) (Or.inr (Or.inl rfl))) (cwV 1 hts (gV tw_2_3 tw_2_4 tw_2_5 tw_1_2 tw_2_6) rfl rfl rfl (by decide +kernel) ⟨Nat.le_of_ble_eq_true rfl, Nat.le_of_ble_eq_true rfl⟩) hC hS (ow_in (hAS _ (by omega)) (hAS _ (by omega)) hA hS.1) ow_n ((hW.line (i := 13) (by omega)).recv hK) (by have h := hW.line (i := 13) (by omega); rw [updT_s] at h; exact h) rfl rfl hl.1 (Nat.le_of_ble_eq_true rfl) ⟨Nat.zero_le _, Nat.zero_le _⟩ dX2_partInto_23 (fun H6 L6 hP6 hk6 hS => ?_)
  have hZ6 := hS.1
  have hW := hW.put (q := 13) (t := cutL (T i) a9 b9) (by omega) hk6 hP6
  rw [updT_2] at hW
  refine lv_aload hx hb dX2_partInto_26 (lv_at hl 4 rfl) ?_
  have hLq := hW.line (i := 13) (by omega)
  rw [updT_s] at hLq
  refine kV_i (A := A) (b := (SA (7 + 2 * 13))) (As := []) (rest := []) ⟨hx, hb, hml, hown, hts⟩ (mX0_size (A := A) (ca := SA (8 + 2 * 13))) (cwV 0 hts (gV tw_2_30 tw_2_12 tw_2_13 tw_1_2 tw_2_14) rfl rfl rfl (by decide +kernel) ⟨Nat.le_of_ble_eq_true rfl, Nat.le_of_ble_eq_true rfl⟩) hC hS hA (hLq.recv hK) hLq rfl rfl hl.1 (Nat.le_of_ble_eq_true rfl) ⟨Nat.zero_le _, Nat.zero_le _⟩ dX2_partInto_28 (fun r9 h9 => lv_cv h9 ?_)
  exact q_i hx hb hr hlocks dX2_partInto_31 hS (Nat.le_refl _) (Nat.le_refl _) ⟨rfl, hW⟩
abbrev rmX2_isSoundPair : Room := { frames := 5, cells := 0, slots := 0, locals := 108 }
theorem mX2_isSoundPair {l : Launch} {G : Cx} {A : Nat → Prop} {a ca b cb : Nat} {t u : List Nat} : Met l yX2_isSoundPair (.code yX2_isSoundPair cX2_isSoundPair 6 (some .boolean) :: GW) rmX2_isSoundPair (PC G A [.ref a, .ref b] (fun H => LA G a ca t H ∧ LA G b cb u H)) (vp_Si (fun r => ∃ v : Bool, r = bI v)) 0 0 (fun _ => False) := by
  refine mstart "Signtext" (by decide +kernel) rfl (Nat.le_of_ble_eq_true rfl) ?_
  intro p e s m below meth c ls hx hb hr hts hown hml hlocks hname hC hA hW hl
  have hl : lv_has ls 6 [(0, .ref a), (1, .ref b)] := hl
  have hK := hC.1
  have hS : va_S A s.heap s.heap [] := va_S.rf
  obtain ⟨hWa, hWb⟩ := hW
  refine lv_aload_n hx hb dX2_isSoundPair_0 rfl (lv_at hl 0 rfl) ?_
  refine lv_aload_n hx hb dX2_isSoundPair_1 rfl (lv_at hl 1 rfl) ?_
  refine lv_iconst (v := nI 0) hx hb dX2_isSoundPair_2 (by decide) ?_
  refine kV_i (A := A) (b := a) (As := [.ref b, .int (bI false)]) (rest := []) ⟨hx, hb, hml, hown, hts⟩ (mX0_orderTo (A := A) (ca := ca) (cb := cb) (b0 := false)) (cwV 2 hts (gV tw_2_98 tw_2_99 tw_2_100 tw_1_2 tw_2_101) rfl rfl rfl (by decide +kernel) ⟨Nat.le_of_ble_eq_true rfl, Nat.le_of_ble_eq_true rfl⟩) hC hS hA (hWa.recv hK) ⟨hWa, hWb⟩ rfl rfl hl.1 (Nat.le_of_ble_eq_true rfl) ⟨Nat.zero_le _, Nat.zero_le _⟩ dX2_isSoundPair_3 (fun r_7 hr_7 => ?_)
  refine lv_istore_n (lv' := [(2, .int r_7), (0, .ref a), (1, .ref b)]) hx hb dX2_isSoundPair_6 rfl hl (by decide) rfl (fun ls hl => ?_)
  refine lv_aload_n hx hb dX2_isSoundPair_7 rfl (lv_at hl 1 rfl) ?_
  refine lv_aload_n hx hb dX2_isSoundPair_8 rfl (lv_at hl 2 rfl) ?_
  refine lv_iconst (v := nI 0) hx hb dX2_isSoundPair_9 (by decide) ?_
  refine kV_i (A := A) (b := a) (As := [.ref b, .int (bI false)]) (rest := []) ⟨hx, hb, hml, hown, hts⟩ (mX0_isSameAs (A := A) (ca := ca) (cb := cb) (b0 := false)) (cwV 2 hts (gV tw_2_7 tw_2_8 tw_2_9 tw_1_2 tw_2_10) rfl rfl rfl (by decide +kernel) ⟨Nat.le_of_ble_eq_true rfl, Nat.le_of_ble_eq_true rfl⟩) hC hS hA (hWa.recv hK) ⟨hWa, hWb⟩ rfl rfl hl.1 (Nat.le_of_ble_eq_true rfl) ⟨Nat.zero_le _, Nat.zero_le _⟩ dX2_isSoundPair_10 (fun r_8 hr_8 => ?_)
  obtain ⟨r_8v, -, rfl⟩ := hr_8
  refine lv_istore_n (lv' := [(3, .int (bI r_8v)), (2, .int r_7), (0, .ref a), (1, .ref b)]) hx hb dX2_isSoundPair_13 rfl hl (by decide) rfl (fun ls hl => ?_)
  refine lv_aload_n hx hb dX2_isSoundPair_14 rfl (lv_at hl 2 rfl) ?_
  refine lv_aload_n hx hb dX2_isSoundPair_15 rfl (lv_at hl 3 rfl) ?_
  refine kV_i (A := A) (b := a) (As := [.ref b]) (rest := []) ⟨hx, hb, hml, hown, hts⟩ (mX0_firstPlaceOf (A := A) (ca := ca) (cb := cb)) (cwV 1 hts (gV tw_2_102 tw_2_103 tw_2_104 tw_1_2 tw_2_105) rfl rfl rfl (by decide +kernel) ⟨Nat.le_of_ble_eq_true rfl, Nat.le_of_ble_eq_true rfl⟩) hC hS hA (hWa.recv hK) ⟨hWa, hWb⟩ rfl rfl hl.1 (Nat.le_of_ble_eq_true rfl) ⟨Nat.zero_le _, Nat.zero_le _⟩ dX2_isSoundPair_16 (fun r_9 hr_9 => ?_)
  refine lv_istore (lv' := [(4, .int r_9), (3, .int (bI r_8v)), (2, .int r_7), (0, .ref a), (1, .ref b)]) hx hb dX2_isSoundPair_19 hl (by decide) rfl (fun ls hl => ?_)
  refine lv_aload_n hx hb dX2_isSoundPair_21 rfl (lv_at hl 3 rfl) ?_
  refine lv_aload_n hx hb dX2_isSoundPair_22 rfl (lv_at hl 4 rfl) ?_
  refine kV_i (A := A) (b := a) (As := [.ref b]) (rest := []) ⟨hx, hb, hml, hown, hts⟩ (mX0_lastPlaceOf (A := A) (ca := ca) (cb := cb)) (cwV 1 hts (gV tw_2_106 tw_2_107 tw_2_108 tw_1_2 tw_2_109) rfl rfl rfl (by decide +kernel) ⟨Nat.le_of_ble_eq_true rfl, Nat.le_of_ble_eq_true rfl⟩) hC hS hA (hWa.recv hK) ⟨hWa, hWb⟩ rfl rfl hl.1 (Nat.le_of_ble_eq_true rfl) ⟨Nat.zero_le _, Nat.zero_le _⟩ dX2_isSoundPair_23 (fun r_10 hr_10 => ?_)
  refine lv_istore (lv' := [(5, .int r_10), (4, .int r_9), (3, .int (bI r_8v)), (2, .int r_7), (0, .ref a), (1, .ref b)]) hx hb dX2_isSoundPair_26 hl (by decide) rfl (fun ls hl => ?_)
  have k67 : ∀ ls : Array Slot, lv_has ls 6 [(5, .int r_10), (4, .int r_9), (3, .int (bI r_8v)), (2, .int r_7), (0, .ref a), (1, .ref b)] → W p l e rmX2_isSoundPair s m [.ref a, .ref b].toArray below meth c s.heap [] 0 0 (MQ below (vp_Si (fun r => ∃ v : Bool, r = bI v)) [.ref a, .ref b].toArray s 0 0 (fun _ => False)) (F0 m 67 ls []) := by
    clear hl
    intro ls hl
    refine lv_aload_n hx hb dX2_isSoundPair_67 rfl (lv_at hl 4 rfl) ?_
    refine lv_aload_n hx hb dX2_isSoundPair_68 rfl (lv_at hl 5 rfl) ?_
    refine kV_i (A := A) (b := a) (As := [.ref b]) (rest := []) ⟨hx, hb, hml, hown, hts⟩ (mX0_holds (A := A) (ca := ca) (cb := cb)) (cwV 1 hts (gV tw_2_114 tw_2_115 tw_2_116 tw_1_2 tw_2_117) rfl rfl rfl (by decide +kernel) ⟨Nat.le_of_ble_eq_true rfl, Nat.le_of_ble_eq_true rfl⟩) hC hS hA (hWa.recv hK) ⟨hWa, hWb⟩ rfl rfl hl.1 (Nat.le_of_ble_eq_true rfl) ⟨Nat.zero_le _, Nat.zero_le _⟩ dX2_isSoundPair_69 (fun r_11 hr_11 => ?_)
    obtain ⟨r_11v, -, rfl⟩ := hr_11
    refine lv_iload hx hb dX2_isSoundPair_72 (lv_at hl 1 rfl) ?_
    refine lv_iconst (v := (-1)) hx hb dX2_isSoundPair_74 (by decide) ?_
    refine lv_icmp_eq (tgt := 82) hx hb dX2_isSoundPair_75 (by decide) (fun c_12 => ?_) (fun c_12 => ?_)
    · refine lv_iconst (v := nI 0) hx hb dX2_isSoundPair_82 (by decide) ?_
      refine lv_icmp_ne (tgt := 97) hx hb dX2_isSoundPair_83 (by decide) (fun c_13 => ?_) (fun c_13 => ?_)
      · refine lv_iconst (v := nI 0) hx hb dX2_isSoundPair_97 (by decide) ?_
        exact p_z (b := false) hx hb hr hlocks dX2_isSoundPair_98 ⟨_, rfl⟩
      · refine lv_iload hx hb dX2_isSoundPair_86 (lv_at hl 0 rfl) ?_
        refine lv_iload hx hb dX2_isSoundPair_88 (lv_at hl 1 rfl) ?_
        refine lv_icmp_lt (tgt := 97) hx hb dX2_isSoundPair_90 (by decide) (fun c_14 => ?_) (fun c_14 => ?_)
        · refine lv_iconst (v := nI 0) hx hb dX2_isSoundPair_97 (by decide) ?_
          exact p_z (b := false) hx hb hr hlocks dX2_isSoundPair_98 ⟨_, rfl⟩
        · refine lv_iconst (v := nI 1) hx hb dX2_isSoundPair_93 (by decide) ?_
          refine lv_goto (tgt := 98) hx hb dX2_isSoundPair_94 (by decide) ?_
          exact p_z (b := true) hx hb hr hlocks dX2_isSoundPair_98 ⟨_, rfl⟩
    · refine lv_iconst (v := nI 1) hx hb dX2_isSoundPair_78 (by decide) ?_
      refine lv_goto (tgt := 83) hx hb dX2_isSoundPair_79 (by decide) ?_
      refine lv_icmp_ne (tgt := 97) hx hb dX2_isSoundPair_83 (by decide) (fun c_15 => ?_) (fun c_15 => ?_)
      · refine lv_iconst (v := nI 0) hx hb dX2_isSoundPair_97 (by decide) ?_
        exact p_z (b := false) hx hb hr hlocks dX2_isSoundPair_98 ⟨_, rfl⟩
      · refine lv_iload hx hb dX2_isSoundPair_86 (lv_at hl 0 rfl) ?_
        refine lv_iload hx hb dX2_isSoundPair_88 (lv_at hl 1 rfl) ?_
        refine lv_icmp_lt (tgt := 97) hx hb dX2_isSoundPair_90 (by decide) (fun c_16 => ?_) (fun c_16 => ?_)
        · refine lv_iconst (v := nI 0) hx hb dX2_isSoundPair_97 (by decide) ?_
          exact p_z (b := false) hx hb hr hlocks dX2_isSoundPair_98 ⟨_, rfl⟩
        · refine lv_iconst (v := nI 1) hx hb dX2_isSoundPair_93 (by decide) ?_
          refine lv_goto (tgt := 98) hx hb dX2_isSoundPair_94 (by decide) ?_
          exact p_z (b := true) hx hb hr hlocks dX2_isSoundPair_98 ⟨_, rfl⟩
  have k41 : ∀ ls : Array Slot, lv_has ls 6 [(5, .int r_10), (4, .int r_9), (3, .int (bI r_8v)), (2, .int r_7), (0, .ref a), (1, .ref b)] → W p l e rmX2_isSoundPair s m [.ref a, .ref b].toArray below meth c s.heap [] 0 0 (MQ below (vp_Si (fun r => ∃ v : Bool, r = bI v)) [.ref a, .ref b].toArray s 0 0 (fun _ => False)) (F0 m 41 ls []) := by
    clear hl
    intro ls hl
    refine lv_iload_n hx hb dX2_isSoundPair_41 rfl (lv_at hl 3 rfl) ?_
    refine lv_aload_n hx hb dX2_isSoundPair_42 rfl (lv_at hl 5 rfl) ?_
    refine lv_aload_n hx hb dX2_isSoundPair_43 rfl (lv_at hl 4 rfl) ?_
    refine lv_iconst (v := nI 0) hx hb dX2_isSoundPair_44 (by decide) ?_
    refine kV_i (A := A) (b := b) (As := [.ref a, .int (bI false)]) (rest := .int r_7 :: []) ⟨hx, hb, hml, hown, hts⟩ (mX0_orderTo (A := A) (ca := cb) (cb := ca) (b0 := false)) (cwV 2 hts (gV tw_2_98 tw_2_99 tw_2_100 tw_1_2 tw_2_101) rfl rfl rfl (by decide +kernel) ⟨Nat.le_of_ble_eq_true rfl, Nat.le_of_ble_eq_true rfl⟩) hC hS hA (hWb.recv hK) ⟨hWb, hWa⟩ rfl rfl hl.1 (Nat.le_of_ble_eq_true rfl) ⟨Nat.zero_le _, Nat.zero_le _⟩ dX2_isSoundPair_45 (fun r_17 hr_17 => ?_)
    refine lv_ineg hx hb dX2_isSoundPair_48 ?_
    refine lv_icmp_ne (tgt := 97) hx hb dX2_isSoundPair_49 (by decide) (fun c_18 => ?_) (fun c_18 => ?_)
    · refine lv_iconst (v := nI 0) hx hb dX2_isSoundPair_97 (by decide) ?_
      exact p_z (b := false) hx hb hr hlocks dX2_isSoundPair_98 ⟨_, rfl⟩
    · refine lv_iload_n hx hb dX2_isSoundPair_52 rfl (lv_at hl 2 rfl) ?_
      refine f_eq (tgt := 67) hx hb dX2_isSoundPair_53 (by decide) (fun c_19 => ?_) (fun c_19 => ?_)
      · exact k67 ls hl
      · refine lv_aload_n hx hb dX2_isSoundPair_56 rfl (lv_at hl 4 rfl) ?_
        refine kV_i (A := A) (b := a) (As := []) (rest := []) ⟨hx, hb, hml, hown, hts⟩ (mX0_hashOfSigns (A := A) (ca := ca)) (cwV 0 hts (gV tw_2_110 tw_2_111 tw_2_112 tw_1_2 tw_2_113) rfl rfl rfl (by decide +kernel) ⟨Nat.le_of_ble_eq_true rfl, Nat.le_of_ble_eq_true rfl⟩) hC hS hA (hWa.recv hK) hWa rfl rfl hl.1 (Nat.le_of_ble_eq_true rfl) ⟨Nat.zero_le _, Nat.zero_le _⟩ dX2_isSoundPair_57 (fun r9 h9 => lv_cv h9 ?_)
        refine lv_aload_n hx hb dX2_isSoundPair_60 rfl (lv_at hl 5 rfl) ?_
        refine kV_i (A := A) (b := b) (As := []) (rest := .int (hashL t) :: []) ⟨hx, hb, hml, hown, hts⟩ (mX0_hashOfSigns (A := A) (ca := cb)) (cwV 0 hts (gV tw_2_110 tw_2_111 tw_2_112 tw_1_2 tw_2_113) rfl rfl rfl (by decide +kernel) ⟨Nat.le_of_ble_eq_true rfl, Nat.le_of_ble_eq_true rfl⟩) hC hS hA (hWb.recv hK) hWb rfl rfl hl.1 (Nat.le_of_ble_eq_true rfl) ⟨Nat.zero_le _, Nat.zero_le _⟩ dX2_isSoundPair_61 (fun r9 h9 => lv_cv h9 ?_)
        refine lv_icmp_ne (tgt := 97) hx hb dX2_isSoundPair_64 (by decide) (fun c_20 => ?_) (fun c_20 => ?_)
        · refine lv_iconst (v := nI 0) hx hb dX2_isSoundPair_97 (by decide) ?_
          exact p_z (b := false) hx hb hr hlocks dX2_isSoundPair_98 ⟨_, rfl⟩
        · exact k67 ls hl
  refine lv_iload_n hx hb dX2_isSoundPair_28 rfl (lv_at hl 2 rfl) ?_
  refine lv_iload_n hx hb dX2_isSoundPair_29 rfl (lv_at hl 3 rfl) ?_
  refine lv_if_ne (tgt := 37) hx hb dX2_isSoundPair_30 (by decide) (fun c_21 => ?_) (fun c_21 => ?_)
  · refine lv_iconst (v := nI 0) hx hb dX2_isSoundPair_37 (by decide) ?_
    refine lv_icmp_ne (tgt := 97) hx hb dX2_isSoundPair_38 (by decide) (fun c_22 => ?_) (fun c_22 => ?_)
    · refine lv_iconst (v := nI 0) hx hb dX2_isSoundPair_97 (by decide) ?_
      exact p_z (b := false) hx hb hr hlocks dX2_isSoundPair_98 ⟨_, rfl⟩
    · exact k41 ls hl
  · refine lv_iconst (v := nI 1) hx hb dX2_isSoundPair_33 (by decide) ?_
    refine lv_goto (tgt := 38) hx hb dX2_isSoundPair_34 (by decide) ?_
    refine lv_icmp_ne (tgt := 97) hx hb dX2_isSoundPair_38 (by decide) (fun c_23 => ?_) (fun c_23 => ?_)
    · refine lv_iconst (v := nI 0) hx hb dX2_isSoundPair_97 (by decide) ?_
      exact p_z (b := false) hx hb hr hlocks dX2_isSoundPair_98 ⟨_, rfl⟩
    · exact k41 ls hl

abbrev rmX2_isSameTakenAgain : Room := { frames := 4, cells := 0, slots := 0, locals := 87 }
theorem mX2_isSameTakenAgain {l : Launch} {G : Cx} {A : Nat → Prop} {SA : Nat → Nat} {X : Nat → List Nat} {es : List Nat} {k : Int32} {i : Nat} (hi : i < 4) (hAS : ∀ i : Nat, i < 39 → A (SA i)) : Met l yX2_isSameTakenAgain (.code yX2_isSameTakenAgain cX2_isSameTakenAgain 2 (some .boolean) :: GW) rmX2_isSameTakenAgain (PC G A [.ref (SA 0), .ref (SA (7 + 2 * i))] (SS G SA X es k)) (qI A (fun r H => (∃ v : Bool, r = bI v) ∧ SS G SA X es k H)) 0 0 (A) := by
  refine mstart "Signtext" (by decide +kernel) rfl (Nat.le_of_ble_eq_true rfl) ?_
  intro p e s m below meth c ls hx hb hr hts hown hml hlocks hname hC hA hW hl
  have hl : lv_has ls 2 [(0, .ref (SA 0)), (1, .ref (SA (7 + 2 * i)))] := hl
  have hK := hC.1
  have hS : va_S A s.heap s.heap [] := va_S.rf
  obtain ⟨T, es2, hW, hF⟩ := hW
  have hO := hW.2.1
  have hR1 := hW.2.2.1
  have hR2 := hW.2.2.2.1
  refine lv_aload_n hx hb dX2_isSameTakenAgain_0 rfl (lv_at hl 0 rfl) ?_
  refine va_get (D := G.1) (ci := 6) (C := RX2) (T := TX2) (N := 8) hx hb hts inX2 hown hK (at_P hO) 0 rfl rfl 5 (by decide) (hts _ tw_1_142) (fun _ h9 => h9) rfl dX2_isSameTakenAgain_1 ?_
  refine lv_aload_n hx hb dX2_isSameTakenAgain_4 rfl (lv_at hl 1 rfl) ?_
  refine qV_V (A := A) (A1 := ow (SA (7 + 2 * 12)) (SA (8 + 2 * 12)) s.heap.size) (b := (SA 31)) (As := [.ref (SA (7 + 2 * i))]) (rest := []) ⟨hx, hb, hml, hown, hts⟩ (mX0_become (A := ow (SA (7 + 2 * 12)) (SA (8 + 2 * 12)) s.heap.size) (ca := SA (8 + 2 * 12)) (cb := SA (8 + 2 * i)) (t := T 12) (u := T i) (Or.inl rfl) (Or.inr (Or.inl rfl)) ⟨hW.ne (i := 7 + 2 * i) (j := 7 + 2 * 12) (by omega) (by omega) (by omega), hW.ne (i := 7 + 2 * i) (j := 8 + 2 * 12) (by omega) (by omega) (by omega), hW.ne (i := 8 + 2 * i) (j := 7 + 2 * 12) (by omega) (by omega) (by omega), hW.ne (i := 8 + 2 * i) (j := 8 + 2 * 12) (by omega) (by omega) (by omega)⟩) (cwV 1 hts (gV tw_2_3 tw_2_4 tw_2_5 tw_1_2 tw_2_6) rfl rfl rfl (by decide +kernel) ⟨Nat.le_of_ble_eq_true rfl, Nat.le_of_ble_eq_true rfl⟩) hC hS (ow_in (hAS _ (by omega)) (hAS _ (by omega)) hA (Nat.le_refl _)) ow_n ((hW.line (i := 12) (by omega)).recv hK) ⟨(hW.line (i := 12) (by omega)), (hW.line (i := i) (by omega))⟩ rfl rfl hl.1 (Nat.le_of_ble_eq_true rfl) ⟨Nat.zero_le _, Nat.zero_le _⟩ dX2_isSameTakenAgain_5 (fun H24 L24 hP24 hk24 hS => ?_)
  have hZ24 := hS.1
  have hW := hW.put (q := 12) (t := T i) (by omega) hk24 hP24.1
  have hO := hW.2.1
  have hR1 := hW.2.2.1
  have hR2 := hW.2.2.2.1
  refine lv_aload_n hx hb dX2_isSameTakenAgain_8 rfl (lv_at hl 0 rfl) ?_
  refine va_get (D := G.1) (ci := 6) (C := RX2) (T := TX2) (N := 8) hx hb hts inX2 hown hK (at_P hO) 0 rfl rfl 6 (by decide) (hts _ tw_1_143) (fun _ h9 => h9) rfl dX2_isSameTakenAgain_9 ?_
  refine lv_aload_n hx hb dX2_isSameTakenAgain_12 rfl (lv_at hl 0 rfl) ?_
  refine va_get (D := G.1) (ci := 6) (C := RX2) (T := TX2) (N := 8) hx hb hts inX2 hown hK (at_P hO) 0 rfl rfl 5 (by decide) (hts _ tw_1_142) (fun _ h9 => h9) rfl dX2_isSameTakenAgain_13 ?_
  refine qV_V (A := A) (A1 := ow (SA (7 + 2 * 13)) (SA (8 + 2 * 13)) H24.size) (b := (SA 33)) (As := [.ref (SA 31)]) (rest := []) ⟨hx, hb, hml, hown, hts⟩ (mX0_become (A := ow (SA (7 + 2 * 13)) (SA (8 + 2 * 13)) H24.size) (ca := SA (8 + 2 * 13)) (cb := SA (8 + 2 * 12)) (t := _) (u := _) (Or.inl rfl) (Or.inr (Or.inl rfl)) ⟨hW.ne (i := 7 + 2 * 12) (j := 7 + 2 * 13) (by omega) (by omega) (by omega), hW.ne (i := 7 + 2 * 12) (j := 8 + 2 * 13) (by omega) (by omega) (by omega), hW.ne (i := 8 + 2 * 12) (j := 7 + 2 * 13) (by omega) (by omega) (by omega), hW.ne (i := 8 + 2 * 12) (j := 8 + 2 * 13) (by omega) (by omega) (by omega)⟩) (cwV 1 hts (gV tw_2_3 tw_2_4 tw_2_5 tw_1_2 tw_2_6) rfl rfl rfl (by decide +kernel) ⟨Nat.le_of_ble_eq_true rfl, Nat.le_of_ble_eq_true rfl⟩) hC hS (ow_in (hAS _ (by omega)) (hAS _ (by omega)) hA hS.1) ow_n ((hW.line (i := 13) (by omega)).recv hK) ⟨(hW.line (i := 13) (by omega)), (hW.line (i := 12) (by omega))⟩ rfl rfl hl.1 (Nat.le_of_ble_eq_true rfl) ⟨Nat.zero_le _, Nat.zero_le _⟩ dX2_isSameTakenAgain_16 (fun H25 L25 hP25 hk25 hS => ?_)
  have hZ25 := hS.1
  have hW := hW.put (q := 13) (t := _) (by omega) hk25 hP25.1
  have hO := hW.2.1
  have hR1 := hW.2.2.1
  have hR2 := hW.2.2.2.1
  refine lv_aload_n hx hb dX2_isSameTakenAgain_19 rfl (lv_at hl 0 rfl) ?_
  refine va_get (D := G.1) (ci := 6) (C := RX2) (T := TX2) (N := 8) hx hb hts inX2 hown hK (at_P hO) 0 rfl rfl 6 (by decide) (hts _ tw_1_143) (fun _ h9 => h9) rfl dX2_isSameTakenAgain_20 ?_
  refine lv_aload_n hx hb dX2_isSameTakenAgain_23 rfl (lv_at hl 1 rfl) ?_
  refine lv_iconst (v := nI 0) hx hb dX2_isSameTakenAgain_24 (by decide) ?_
  refine kV_i (A := A) (b := (SA 33)) (As := [.ref (SA (7 + 2 * i)), .int (bI false)]) (rest := []) ⟨hx, hb, hml, hown, hts⟩ (mX0_isSameAs (A := A) (ca := SA (8 + 2 * 13)) (cb := SA (8 + 2 * i)) (b0 := false)) (cwV 2 hts (gV tw_2_7 tw_2_8 tw_2_9 tw_1_2 tw_2_10) rfl rfl rfl (by decide +kernel) ⟨Nat.le_of_ble_eq_true rfl, Nat.le_of_ble_eq_true rfl⟩) hC hS hA ((hW.line (i := 13) (by omega)).recv hK) ⟨(hW.line (i := 13) (by omega)), (hW.line (i := i) (by omega))⟩ rfl rfl hl.1 (Nat.le_of_ble_eq_true rfl) ⟨Nat.zero_le _, Nat.zero_le _⟩ dX2_isSameTakenAgain_25 (fun r_26 hr_26 => ?_)
  obtain ⟨r_26v, -, rfl⟩ := hr_26
  exact q_z (b9 := r_26v) hx hb hr hlocks dX2_isSameTakenAgain_28 hS (Nat.le_refl _) (Nat.le_refl _) ⟨⟨_, rfl⟩, _, _, hW, (FR.s13 (FR.s12 hF))⟩

abbrev rmX2_isSameInTwoParts : Room := { frames := 4, cells := 0, slots := 0, locals := 87 }
theorem mX2_isSameInTwoParts {l : Launch} {G : Cx} {A : Nat → Prop} {SA : Nat → Nat} {X : Nat → List Nat} {es : List Nat} {k : Int32} {i : Nat} (hi : i < 4) (hAS : ∀ i : Nat, i < 39 → A (SA i)) : Met l yX2_isSameInTwoParts (.code yX2_isSameInTwoParts cX2_isSameInTwoParts 3 (some .boolean) :: GW) rmX2_isSameInTwoParts (PC G A [.ref (SA 0), .ref (SA (7 + 2 * i))] (SS G SA X es k)) (qI A (fun r H => (∃ v : Bool, r = bI v) ∧ SS G SA X es k H)) 0 0 (A) := by
  refine mstart "Signtext" (by decide +kernel) rfl (Nat.le_of_ble_eq_true rfl) ?_
  intro p e s m below meth c ls hx hb hr hts hown hml hlocks hname hC hA hW hl
  have hl : lv_has ls 3 [(0, .ref (SA 0)), (1, .ref (SA (7 + 2 * i)))] := hl
  have hK := hC.1
  have hS : va_S A s.heap s.heap [] := va_S.rf
  obtain ⟨T, es2, hW, hF⟩ := hW
  have hO := hW.2.1
  have hR1 := hW.2.2.1
  have hR2 := hW.2.2.2.1
  have i60 := (hW.line (i := i) (by omega)).1
  generalize hTi : T i = ti at i60
  refine lv_iconst (v := nI 0) hx hb dX2_isSameInTwoParts_0 (by decide) ?_
  refine lv_istore_n (lv' := [(2, .int (nI 0)), (0, .ref (SA 0)), (1, .ref (SA (7 + 2 * i)))]) hx hb dX2_isSameInTwoParts_1 rfl hl (by decide) rfl (fun ls hl => ?_)
  refine nloop (P := fun j => ∀ (ls : Array Slot) (H : Heap) (L : List Loc) (T : Nat → List Nat) (es2 : List Nat), lv_has ls 3 [(2, .int (nI j)), (0, .ref (SA 0)), (1, .ref (SA (7 + 2 * i)))] → va_S A s.heap H L → SW G SA T es es2 k H → (∀ i : Nat, i < 4 ∨ i = 11 ∨ i = 14 → T i = X i) → T i = ti → W p l e rmX2_isSameInTwoParts s m [.ref (SA 0), .ref (SA (7 + 2 * i))].toArray below meth c H L 0 0 (MQ below (qI A (fun r H => (∃ v : Bool, r = bI v) ∧ SS G SA X es k H)) [.ref (SA 0), .ref (SA (7 + 2 * i))].toArray s 0 0 (A)) (F0 m 2 ls [])) 61 ?_ 0 (Nat.zero_le _) ls s.heap [] T es2 hl hS hW hF hTi
  clear hl
  intro j hj ih ls H L T es2 hl
  clear hS hW hF hTi hO hR1 hR2
  intro hS hW hF hTi
  have hO := hW.2.1
  have hR1 := hW.2.2.1
  have hR2 := hW.2.2.2.1
  refine lv_iload_n hx hb dX2_isSameInTwoParts_2 rfl (lv_at hl 0 rfl) ?_
  refine lv_aload_n hx hb dX2_isSameInTwoParts_3 rfl (lv_at hl 2 rfl) ?_
  refine kV_i (A := A) (b := (SA (7 + 2 * i))) (As := []) (rest := .int (nI j) :: []) ⟨hx, hb, hml, hown, hts⟩ (mX0_size (A := A) (ca := SA (8 + 2 * i))) (cwV 0 hts (gV tw_2_30 tw_2_12 tw_2_13 tw_1_2 tw_2_14) rfl rfl rfl (by decide +kernel) ⟨Nat.le_of_ble_eq_true rfl, Nat.le_of_ble_eq_true rfl⟩) hC hS hA ((hW.line (i := i) (by omega)).recv hK) (hW.line (i := i) (by omega)) rfl rfl hl.1 (Nat.le_of_ble_eq_true rfl) ⟨Nat.zero_le _, Nat.zero_le _⟩ dX2_isSameInTwoParts_4 (fun r9 h9 => lv_cv h9 ?_)
  rw [hTi]
  refine b_gt (tgt := 60) hx hb dX2_isSameInTwoParts_7 (by decide) (by omega) (by omega) (fun c_27 => ?_) (fun c_27 => ?_)
  · refine lv_iconst (v := nI 1) hx hb dX2_isSameInTwoParts_60 (by decide) ?_
    exact q_z (b9 := true) hx hb hr hlocks dX2_isSameInTwoParts_61 hS (Nat.le_refl _) (Nat.le_refl _) ⟨⟨_, rfl⟩, _, _, hW, hF⟩
  · refine lv_aload_n hx hb dX2_isSameInTwoParts_10 rfl (lv_at hl 1 rfl) ?_
    refine va_get (D := G.1) (ci := 6) (C := RX2) (T := TX2) (N := 8) hx hb hts inX2 hown hK (at_P hO) 0 rfl rfl 6 (by decide) (hts _ tw_1_143) (fun _ h9 => h9) rfl dX2_isSameInTwoParts_11 ?_
    refine qV_V (A := A) (A1 := ow (SA (7 + 2 * 13)) (SA (8 + 2 * 13)) H.size) (b := (SA 33)) (As := []) (rest := []) ⟨hx, hb, hml, hown, hts⟩ (mX0_empty (A := ow (SA (7 + 2 * 13)) (SA (8 + 2 * 13)) H.size) (ca := SA (8 + 2 * 13)) (hAa := Or.inl rfl)) (cwV 0 hts (gV tw_2_31 tw_2_32 tw_2_33 tw_1_2 tw_2_34) rfl rfl rfl (by decide +kernel) ⟨Nat.le_of_ble_eq_true rfl, Nat.le_of_ble_eq_true rfl⟩) hC hS (ow_in (hAS _ (by omega)) (hAS _ (by omega)) hA hS.1) ow_n ((hW.line (i := 13) (by omega)).recv hK) (hW.line (i := 13) (by omega)) rfl rfl hl.1 (Nat.le_of_ble_eq_true rfl) ⟨Nat.zero_le _, Nat.zero_le _⟩ dX2_isSameInTwoParts_14 (fun H28 L28 hP28 hk28 hS => ?_)
    have hZ28 := hS.1
    have hW := hW.put (q := 13) (t := []) (by omega) hk28 hP28
    have hO := hW.2.1
    have hR1 := hW.2.2.1
    have hR2 := hW.2.2.2.1
    refine lv_aload_n hx hb dX2_isSameInTwoParts_17 rfl (lv_at hl 1 rfl) ?_
    refine va_get (D := G.1) (ci := 6) (C := RX2) (T := TX2) (N := 8) hx hb hts inX2 hown hK (at_P hO) 0 rfl rfl 6 (by decide) (hts _ tw_1_143) (fun _ h9 => h9) rfl dX2_isSameInTwoParts_18 ?_
    refine lv_aload_n hx hb dX2_isSameInTwoParts_21 rfl (lv_at hl 2 rfl) ?_
    refine lv_iconst (v := nI 0) hx hb dX2_isSameInTwoParts_22 (by decide) ?_
    refine lv_iload_n hx hb dX2_isSameInTwoParts_23 rfl (lv_at hl 0 rfl) ?_
    have e1 : updT T 13 [] i = ti := (updT_n (by omega)).trans hTi
    have hLi := hW.line (i := i) (by omega)
    rw [e1] at hLi
    have hL13 := hW.line (i := 13) (by omega)
    rw [updT_s] at hL13
    refine qV_V (A := A) (A1 := ow (SA (7 + 2 * 13)) (SA (8 + 2 * 13)) H28.size) (b := (SA 33)) (As := [.ref (SA (7 + 2 * i)), .int (nI 0), .int (nI j)]) (rest := []) ⟨hx, hb, hml, hown, hts⟩ (mX0_addPart (A := ow (SA (7 + 2 * 13)) (SA (8 + 2 * 13)) H28.size) (ca := SA (8 + 2 * 13)) (cb := SA (8 + 2 * i)) (t := []) (u := ti) (i := 0) (i2 := j) (Or.inl rfl) (Or.inr (Or.inl rfl)) ⟨hW.ne (i := 7 + 2 * i) (j := 7 + 2 * 13) (by omega) (by omega) (by omega), hW.ne (i := 7 + 2 * i) (j := 8 + 2 * 13) (by omega) (by omega) (by omega), hW.ne (i := 8 + 2 * i) (j := 7 + 2 * 13) (by omega) (by omega) (by omega), hW.ne (i := 8 + 2 * i) (j := 8 + 2 * 13) (by omega) (by omega) (by omega)⟩ (Nat.zero_le _) c_27) (cwV 3 hts (gV tw_2_35 tw_2_36 tw_2_37 tw_1_2 tw_2_38) rfl rfl rfl (by decide +kernel) ⟨Nat.le_of_ble_eq_true rfl, Nat.le_of_ble_eq_true rfl⟩) hC hS (ow_in (hAS _ (by omega)) (hAS _ (by omega)) hA hS.1) ow_n ((hW.line (i := 13) (by omega)).recv hK) ⟨hL13, hLi⟩ rfl rfl hl.1 (Nat.le_of_ble_eq_true rfl) ⟨Nat.zero_le _, Nat.zero_le _⟩ dX2_isSameInTwoParts_24 (fun H29 L29 hP29 hk29 hS => ?_)
    have hZ29 := hS.1
    have hW := hW.put (q := 13) (t := (([] : List Nat) ++ cutL ti 0 j).take 60) (by omega) hk29 hP29.1
    rw [updT_2] at hW
    have hO := hW.2.1
    have hR1 := hW.2.2.1
    have hR2 := hW.2.2.2.1
    refine lv_aload_n hx hb dX2_isSameInTwoParts_27 rfl (lv_at hl 1 rfl) ?_
    refine va_get (D := G.1) (ci := 6) (C := RX2) (T := TX2) (N := 8) hx hb hts inX2 hown hK (at_P hO) 0 rfl rfl 6 (by decide) (hts _ tw_1_143) (fun _ h9 => h9) rfl dX2_isSameInTwoParts_28 ?_
    refine lv_aload_n hx hb dX2_isSameInTwoParts_31 rfl (lv_at hl 2 rfl) ?_
    refine lv_iload_n hx hb dX2_isSameInTwoParts_32 rfl (lv_at hl 0 rfl) ?_
    refine lv_aload_n hx hb dX2_isSameInTwoParts_33 rfl (lv_at hl 2 rfl) ?_
    have e2 : updT T 13 ((([] : List Nat) ++ cutL ti 0 j).take 60) i = ti := (updT_n (by omega)).trans hTi
    have hLi := hW.line (i := i) (by omega)
    rw [e2] at hLi
    have hL13 := hW.line (i := 13) (by omega)
    rw [updT_s] at hL13
    refine kV_i (A := A) (b := (SA (7 + 2 * i))) (As := []) (rest := .int (nI j) :: .ref (SA (7 + 2 * i)) :: .ref (SA 33) :: []) ⟨hx, hb, hml, hown, hts⟩ (mX0_size (A := A) (ca := SA (8 + 2 * i))) (cwV 0 hts (gV tw_2_30 tw_2_12 tw_2_13 tw_1_2 tw_2_14) rfl rfl rfl (by decide +kernel) ⟨Nat.le_of_ble_eq_true rfl, Nat.le_of_ble_eq_true rfl⟩) hC hS hA (hLi.recv hK) hLi rfl rfl hl.1 (Nat.le_of_ble_eq_true rfl) ⟨Nat.zero_le _, Nat.zero_le _⟩ dX2_isSameInTwoParts_34 (fun r9 h9 => lv_cv h9 ?_)
    refine qV_V (A := A) (A1 := ow (SA (7 + 2 * 13)) (SA (8 + 2 * 13)) H29.size) (b := (SA 33)) (As := [.ref (SA (7 + 2 * i)), .int (nI j), .int (nI ti.length)]) (rest := []) ⟨hx, hb, hml, hown, hts⟩ (mX0_addPart (A := ow (SA (7 + 2 * 13)) (SA (8 + 2 * 13)) H29.size) (ca := SA (8 + 2 * 13)) (cb := SA (8 + 2 * i)) (t := (([] : List Nat) ++ cutL ti 0 j).take 60) (u := ti) (i := j) (i2 := ti.length) (Or.inl rfl) (Or.inr (Or.inl rfl)) ⟨hW.ne (i := 7 + 2 * i) (j := 7 + 2 * 13) (by omega) (by omega) (by omega), hW.ne (i := 7 + 2 * i) (j := 8 + 2 * 13) (by omega) (by omega) (by omega), hW.ne (i := 8 + 2 * i) (j := 7 + 2 * 13) (by omega) (by omega) (by omega), hW.ne (i := 8 + 2 * i) (j := 8 + 2 * 13) (by omega) (by omega) (by omega)⟩ c_27 (Nat.le_refl _)) (cwV 3 hts (gV tw_2_35 tw_2_36 tw_2_37 tw_1_2 tw_2_38) rfl rfl rfl (by decide +kernel) ⟨Nat.le_of_ble_eq_true rfl, Nat.le_of_ble_eq_true rfl⟩) hC hS (ow_in (hAS _ (by omega)) (hAS _ (by omega)) hA hS.1) ow_n ((hW.line (i := 13) (by omega)).recv hK) ⟨hL13, hLi⟩ rfl rfl hl.1 (Nat.le_of_ble_eq_true rfl) ⟨Nat.zero_le _, Nat.zero_le _⟩ dX2_isSameInTwoParts_37 (fun H30 L30 hP30 hk30 hS => ?_)
    have hZ30 := hS.1
    have hW := hW.put (q := 13) (t := ((([] : List Nat) ++ cutL ti 0 j).take 60 ++ cutL ti j ti.length).take 60) (by omega) hk30 hP30.1
    rw [updT_2] at hW
    have hO := hW.2.1
    have hR1 := hW.2.2.1
    have hR2 := hW.2.2.2.1
    refine lv_aload_n hx hb dX2_isSameInTwoParts_40 rfl (lv_at hl 1 rfl) ?_
    refine va_get (D := G.1) (ci := 6) (C := RX2) (T := TX2) (N := 8) hx hb hts inX2 hown hK (at_P hO) 0 rfl rfl 6 (by decide) (hts _ tw_1_143) (fun _ h9 => h9) rfl dX2_isSameInTwoParts_41 ?_
    refine lv_aload_n hx hb dX2_isSameInTwoParts_44 rfl (lv_at hl 2 rfl) ?_
    refine lv_iconst (v := nI 0) hx hb dX2_isSameInTwoParts_45 (by decide) ?_
    refine kV_i (A := A) (b := (SA 33)) (As := [.ref (SA (7 + 2 * i)), .int (bI false)]) (rest := []) ⟨hx, hb, hml, hown, hts⟩ (mX0_isSameAs (A := A) (ca := SA (8 + 2 * 13)) (cb := SA (8 + 2 * i)) (b0 := false)) (cwV 2 hts (gV tw_2_7 tw_2_8 tw_2_9 tw_1_2 tw_2_10) rfl rfl rfl (by decide +kernel) ⟨Nat.le_of_ble_eq_true rfl, Nat.le_of_ble_eq_true rfl⟩) hC hS hA ((hW.line (i := 13) (by omega)).recv hK) ⟨(hW.line (i := 13) (by omega)), (hW.line (i := i) (by omega))⟩ rfl rfl hl.1 (Nat.le_of_ble_eq_true rfl) ⟨Nat.zero_le _, Nat.zero_le _⟩ dX2_isSameInTwoParts_46 (fun r_31 hr_31 => ?_)
    obtain ⟨r_31v, -, rfl⟩ := hr_31
    refine f_ne (tgt := 54) hx hb dX2_isSameInTwoParts_49 (by decide) (fun c_32 => ?_) (fun c_32 => ?_)
    · refine lv_iinc (v := nI (j + 1)) (lv' := [(2, .int (nI (j + 1))), (0, .ref (SA 0)), (1, .ref (SA (7 + 2 * i)))]) hx hb dX2_isSameInTwoParts_54 hl (k := 0) rfl (nI_add j 1) (by decide) rfl (fun ls hl => ?_)
      refine lv_goto (tgt := 2) hx hb dX2_isSameInTwoParts_57 (by decide) ?_
      exact ih (j + 1) (by omega) (by omega) ls H30 L30 _ es2 (lv_sub hl [0, 1, 2] rfl) hS hW (FR.s13 hF) ((updT_n (by omega)).trans hTi)
    · refine lv_iconst (v := nI 0) hx hb dX2_isSameInTwoParts_52 (by decide) ?_
      exact q_z (b9 := false) hx hb hr hlocks dX2_isSameInTwoParts_53 hS (Nat.le_refl _) (Nat.le_refl _) ⟨⟨_, rfl⟩, _, _, hW, (FR.s13 hF)⟩

abbrev rmX2_isSameTrimmedAgain : Room := { frames := 4, cells := 0, slots := 0, locals := 89 }
theorem mX2_isSameTrimmedAgain {l : Launch} {G : Cx} {A : Nat → Prop} {SA : Nat → Nat} {X : Nat → List Nat} {es : List Nat} {k : Int32} {i : Nat} (hi : i < 4) {b : Bool} (hAS : ∀ i : Nat, i < 39 → A (SA i)) : Met l yX2_isSameTrimmedAgain (.code yX2_isSameTrimmedAgain cX2_isSameTrimmedAgain 3 (some .boolean) :: GW) rmX2_isSameTrimmedAgain (PC G A [.ref (SA 0), .ref (SA (7 + 2 * i)), .int (bI b)] (SS G SA X es k)) (qI A (fun r H => (∃ v : Bool, r = bI v) ∧ SS G SA X es k H)) 0 0 (A) := by
  refine mstart "Signtext" (by decide +kernel) rfl (Nat.le_of_ble_eq_true rfl) ?_
  intro p e s m below meth c ls hx hb hr hts hown hml hlocks hname hC hA hW hl
  have hl : lv_has ls 3 [(0, .ref (SA 0)), (1, .ref (SA (7 + 2 * i))), (2, .int (bI b))] := hl
  have hK := hC.1
  have hS : va_S A s.heap s.heap [] := va_S.rf
  obtain ⟨T, es2, hW, hF⟩ := hW
  have hO := hW.2.1
  have hR1 := hW.2.2.1
  have hR2 := hW.2.2.2.1
  refine lv_aload_n hx hb dX2_isSameTrimmedAgain_0 rfl (lv_at hl 0 rfl) ?_
  refine lv_aload_n hx hb dX2_isSameTrimmedAgain_1 rfl (lv_at hl 1 rfl) ?_
  refine lv_aload_n hx hb dX2_isSameTrimmedAgain_2 rfl (lv_at hl 1 rfl) ?_
  refine lv_iload_n hx hb dX2_isSameTrimmedAgain_3 rfl (lv_at hl 2 rfl) ?_
  have tbi := tbL_le b (T i)
  have t60e8 := (hW.line (i := i) (by omega)).1
  refine kV_i (A := A) (b := (SA (7 + 2 * i))) (As := [.int (bI b)]) (rest := .ref (SA (7 + 2 * i)) :: .ref (SA 0) :: []) ⟨hx, hb, hml, hown, hts⟩ (mX0_trimmedBegin (A := A) (ca := SA (8 + 2 * i)) (b := b)) (cwV 1 hts (gV tw_2_43 tw_2_44 tw_2_45 tw_1_2 tw_2_46) rfl rfl rfl (by decide +kernel) ⟨Nat.le_of_ble_eq_true rfl, Nat.le_of_ble_eq_true rfl⟩) hC hS hA ((hW.line (i := i) (by omega)).recv hK) (hW.line (i := i) (by omega)) rfl rfl hl.1 (Nat.le_of_ble_eq_true rfl) ⟨Nat.zero_le _, Nat.zero_le _⟩ dX2_isSameTrimmedAgain_4 (fun r9 h9 => lv_cv h9 ?_)
  refine lv_aload_n hx hb dX2_isSameTrimmedAgain_7 rfl (lv_at hl 1 rfl) ?_
  refine lv_iload_n hx hb dX2_isSameTrimmedAgain_8 rfl (lv_at hl 2 rfl) ?_
  refine kV_i (A := A) (b := (SA (7 + 2 * i))) (As := [.int (bI b)]) (rest := .int (nI (tbL b (T i))) :: .ref (SA (7 + 2 * i)) :: .ref (SA 0) :: []) ⟨hx, hb, hml, hown, hts⟩ (mX0_trimmedEnd (A := A) (ca := SA (8 + 2 * i)) (b := b)) (cwV 1 hts (gV tw_2_50 tw_2_51 tw_2_52 tw_1_2 tw_2_53) rfl rfl rfl (by decide +kernel) ⟨Nat.le_of_ble_eq_true rfl, Nat.le_of_ble_eq_true rfl⟩) hC hS hA ((hW.line (i := i) (by omega)).recv hK) (hW.line (i := i) (by omega)) rfl rfl hl.1 (Nat.le_of_ble_eq_true rfl) ⟨Nat.zero_le _, Nat.zero_le _⟩ dX2_isSameTrimmedAgain_9 (fun r_33 hr_33 => ?_)
  obtain ⟨e8, he8, rfl⟩ := hr_33
  refine lv_aload_n hx hb dX2_isSameTrimmedAgain_12 rfl (lv_at hl 0 rfl) ?_
  refine va_get (D := G.1) (ci := 6) (C := RX2) (T := TX2) (N := 8) hx hb hts inX2 hown hK (at_P hO) 0 rfl rfl 5 (by decide) (hts _ tw_1_142) (fun _ h9 => h9) rfl dX2_isSameTrimmedAgain_13 ?_
  have ge8 := he8.1
  have g2e8 := he8.2.1
  refine qI_V (A := A) (A1 := A) (b := (SA 0)) (As := [.ref (SA (7 + 2 * i)), .int (nI (tbL b (T i))), .int (nI e8), .ref (SA 31)]) (rest := []) ⟨hx, hb, hml, hown, hts⟩ (mX2_partInto (A := A) (i := i) (q := 12) (a9 := tbL b (T i)) (b9 := e8) hAS (by omega) (by omega) (by omega) he8.1 he8.2.1) (cwV 4 hts (gV tw_2_55 tw_2_57 sel_X2_partInto tw_1_1 tw_2_58) rfl rfl rfl (by decide +kernel) ⟨Nat.le_of_ble_eq_true rfl, Nat.le_of_ble_eq_true rfl⟩) hC hS (fun _ h => h) (fun q h => hA q (Nat.le_trans hS.1 h)) (hW.recv hK) hW rfl rfl hl.1 (Nat.le_of_ble_eq_true rfl) ⟨Nat.zero_le _, Nat.zero_le _⟩ dX2_isSameTrimmedAgain_16 (fun rv34 H34 L34 hP34 hk34 hS => ?_)
  have hZ34 := hS.1
  have hW := hP34.2
  have hO := hW.2.1
  have hR1 := hW.2.2.1
  have hR2 := hW.2.2.2.1
  generalize hT2 : updT (updT T 13 _) 12 _ = T2 at hW
  have hF2 : ∀ i : Nat, i < 4 ∨ i = 11 ∨ i = 14 → T2 i = X i := by rw [← hT2]; exact (FR.s12 (FR.s13 hF))
  refine lv_pop hx hb dX2_isSameTrimmedAgain_19 rfl ?_
  refine lv_aload_n hx hb dX2_isSameTrimmedAgain_20 rfl (lv_at hl 0 rfl) ?_
  refine lv_aload_n hx hb dX2_isSameTrimmedAgain_21 rfl (lv_at hl 0 rfl) ?_
  refine va_get (D := G.1) (ci := 6) (C := RX2) (T := TX2) (N := 8) hx hb hts inX2 hown hK (at_P hO) 0 rfl rfl 5 (by decide) (hts _ tw_1_142) (fun _ h9 => h9) rfl dX2_isSameTrimmedAgain_22 ?_
  refine lv_aload_n hx hb dX2_isSameTrimmedAgain_25 rfl (lv_at hl 0 rfl) ?_
  refine va_get (D := G.1) (ci := 6) (C := RX2) (T := TX2) (N := 8) hx hb hts inX2 hown hK (at_P hO) 0 rfl rfl 5 (by decide) (hts _ tw_1_142) (fun _ h9 => h9) rfl dX2_isSameTrimmedAgain_26 ?_
  refine lv_iload_n hx hb dX2_isSameTrimmedAgain_29 rfl (lv_at hl 2 rfl) ?_
  have tb12 := tbL_le b (T2 12)
  have t60e7 := (hW.line (i := 12) (by omega)).1
  refine kV_i (A := A) (b := (SA 31)) (As := [.int (bI b)]) (rest := .ref (SA 31) :: .ref (SA 0) :: []) ⟨hx, hb, hml, hown, hts⟩ (mX0_trimmedBegin (A := A) (ca := SA (8 + 2 * 12)) (b := b)) (cwV 1 hts (gV tw_2_43 tw_2_44 tw_2_45 tw_1_2 tw_2_46) rfl rfl rfl (by decide +kernel) ⟨Nat.le_of_ble_eq_true rfl, Nat.le_of_ble_eq_true rfl⟩) hC hS hA ((hW.line (i := 12) (by omega)).recv hK) (hW.line (i := 12) (by omega)) rfl rfl hl.1 (Nat.le_of_ble_eq_true rfl) ⟨Nat.zero_le _, Nat.zero_le _⟩ dX2_isSameTrimmedAgain_30 (fun r9 h9 => lv_cv h9 ?_)
  refine lv_aload_n hx hb dX2_isSameTrimmedAgain_33 rfl (lv_at hl 0 rfl) ?_
  refine va_get (D := G.1) (ci := 6) (C := RX2) (T := TX2) (N := 8) hx hb hts inX2 hown hK (at_P hO) 0 rfl rfl 5 (by decide) (hts _ tw_1_142) (fun _ h9 => h9) rfl dX2_isSameTrimmedAgain_34 ?_
  refine lv_iload_n hx hb dX2_isSameTrimmedAgain_37 rfl (lv_at hl 2 rfl) ?_
  refine kV_i (A := A) (b := (SA 31)) (As := [.int (bI b)]) (rest := .int (nI (tbL b (T2 12))) :: .ref (SA 31) :: .ref (SA 0) :: []) ⟨hx, hb, hml, hown, hts⟩ (mX0_trimmedEnd (A := A) (ca := SA (8 + 2 * 12)) (b := b)) (cwV 1 hts (gV tw_2_50 tw_2_51 tw_2_52 tw_1_2 tw_2_53) rfl rfl rfl (by decide +kernel) ⟨Nat.le_of_ble_eq_true rfl, Nat.le_of_ble_eq_true rfl⟩) hC hS hA ((hW.line (i := 12) (by omega)).recv hK) (hW.line (i := 12) (by omega)) rfl rfl hl.1 (Nat.le_of_ble_eq_true rfl) ⟨Nat.zero_le _, Nat.zero_le _⟩ dX2_isSameTrimmedAgain_38 (fun r_35 hr_35 => ?_)
  obtain ⟨e7, he7, rfl⟩ := hr_35
  refine lv_aload_n hx hb dX2_isSameTrimmedAgain_41 rfl (lv_at hl 0 rfl) ?_
  refine va_get (D := G.1) (ci := 6) (C := RX2) (T := TX2) (N := 8) hx hb hts inX2 hown hK (at_P hO) 0 rfl rfl 6 (by decide) (hts _ tw_1_143) (fun _ h9 => h9) rfl dX2_isSameTrimmedAgain_42 ?_
  have ge7 := he7.1
  have g2e7 := he7.2.1
  -- into the draft
  refine qI_V (A := A) (A1 := A) (b := (SA 0)) (As := [.ref (SA 31), .int (nI (tbL b (T2 12))), .int (nI e7), .ref (SA 33)]) (rest := []) ⟨hx, hb, hml, hown, hts⟩ (mX2_partInto_d (A := A) (i := 12) (a9 := tbL b (T2 12)) (b9 := e7) hAS (by omega) (by omega) he7.1 he7.2.1) (cwV 4 hts (gV tw_2_55 tw_2_57 sel_X2_partInto tw_1_1 tw_2_58) rfl rfl rfl (by decide +kernel) ⟨Nat.le_of_ble_eq_true rfl, Nat.le_of_ble_eq_true rfl⟩) hC hS (fun _ h => h) (fun q h => hA q (Nat.le_trans hS.1 h)) (hW.recv hK) hW rfl rfl hl.1 (Nat.le_of_ble_eq_true rfl) ⟨Nat.zero_le _, Nat.zero_le _⟩ dX2_isSameTrimmedAgain_45 (fun rv36 H36 L36 hP36 hk36 hS => ?_)
  have hZ36 := hS.1
  have hW := hP36.2
  have hO := hW.2.1
  have hR1 := hW.2.2.1
  have hR2 := hW.2.2.2.1
  refine lv_pop hx hb dX2_isSameTrimmedAgain_48 rfl ?_
  refine lv_aload_n hx hb dX2_isSameTrimmedAgain_49 rfl (lv_at hl 0 rfl) ?_
  refine va_get (D := G.1) (ci := 6) (C := RX2) (T := TX2) (N := 8) hx hb hts inX2 hown hK (at_P hO) 0 rfl rfl 6 (by decide) (hts _ tw_1_143) (fun _ h9 => h9) rfl dX2_isSameTrimmedAgain_50 ?_
  refine lv_aload_n hx hb dX2_isSameTrimmedAgain_53 rfl (lv_at hl 0 rfl) ?_
  refine va_get (D := G.1) (ci := 6) (C := RX2) (T := TX2) (N := 8) hx hb hts inX2 hown hK (at_P hO) 0 rfl rfl 5 (by decide) (hts _ tw_1_142) (fun _ h9 => h9) rfl dX2_isSameTrimmedAgain_54 ?_
  refine lv_iconst (v := nI 0) hx hb dX2_isSameTrimmedAgain_57 (by decide) ?_
  refine kV_i (A := A) (b := (SA 33)) (As := [.ref (SA 31), .int (bI false)]) (rest := []) ⟨hx, hb, hml, hown, hts⟩ (mX0_isSameAs (A := A) (ca := SA (8 + 2 * 13)) (cb := SA (8 + 2 * 12)) (b0 := false)) (cwV 2 hts (gV tw_2_7 tw_2_8 tw_2_9 tw_1_2 tw_2_10) rfl rfl rfl (by decide +kernel) ⟨Nat.le_of_ble_eq_true rfl, Nat.le_of_ble_eq_true rfl⟩) hC hS hA ((hW.line (i := 13) (by omega)).recv hK) ⟨(hW.line (i := 13) (by omega)), (hW.line (i := 12) (by omega))⟩ rfl rfl hl.1 (Nat.le_of_ble_eq_true rfl) ⟨Nat.zero_le _, Nat.zero_le _⟩ dX2_isSameTrimmedAgain_58 (fun r_37 hr_37 => ?_)
  obtain ⟨r_37v, -, rfl⟩ := hr_37
  exact q_z (b9 := r_37v) hx hb hr hlocks dX2_isSameTrimmedAgain_61 hS (Nat.le_refl _) (Nat.le_refl _) ⟨⟨_, rfl⟩, _, _, hW, FR.s13 hF2⟩
