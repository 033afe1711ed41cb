/-! The model, 13: places asked for -/
theorem stL_one {t : List Nat} {d k : Nat} : stL false t [d] k ↔ k < t.length ∧ t.getD k 0 = d := by
  constructor
  · rintro ⟨h1, h2⟩
    have h3 := h2 0 (by show 0 < 1; decide)
    exact ⟨h1, h3⟩
  · rintro ⟨h1, h2⟩
    refine ⟨h1, fun q hq => ?_⟩
    obtain rfl : q = 0 := Nat.lt_one_iff.mp hq
    exact h2
theorem fstR_cg {P Q : Nat → Prop} (h : ∀ k, P k ↔ Q k) {r : Int32} (hr : fstR P r) : fstR Q r := by
  rcases hr with ⟨k, h1, h2, h3⟩ | ⟨h1, h2⟩
  · exact Or.inl ⟨k, (h k).mp h1, fun j hj q => h2 j hj ((h j).mpr q), h3⟩
  · exact Or.inr ⟨fun k q => h1 k ((h k).mpr q), h2⟩
theorem lstR_cg {P Q : Nat → Prop} (h : ∀ k, P k ↔ Q k) {r : Int32} (hr : lstR P r) : lstR Q r := by
  rcases hr with ⟨k, h1, h2, h3⟩ | ⟨h1, h2⟩
  · exact Or.inl ⟨k, (h k).mp h1, fun j hj q => h2 j hj ((h j).mpr q), h3⟩
  · exact Or.inr ⟨fun k q => h1 k ((h k).mpr q), h2⟩
theorem fstR_pos {P : Nat → Prop} {r : Int32} (h : fstR P r) (hb : ∀ k, P k → k < 2 ^ 31) {k : Nat} (hk : P k) : ¬ r < 0 := by
  rcases h with ⟨j, h1, -, rfl⟩ | ⟨h1, -⟩
  · exact nI_pos (hb j h1)
  · exact absurd hk (h1 k)
theorem fstR_ex {P : Nat → Prop} {r : Int32} (h : fstR P r) (hr : ¬ r < 0) : ∃ k, P k := by
  rcases h with ⟨j, h1, -⟩ | ⟨-, rfl⟩
  · exact ⟨j, h1⟩
  · exact absurd (by decide) hr
theorem dX4_first__0 : decode cX4_first_ 0 = .ok (.aload_n 0, 1) := by decide +kernel
theorem dX4_first__1 : decode cX4_first_ 1 = .ok (.iload_n 1, 1) := by decide +kernel
theorem dX4_first__2 : decode cX4_first_ 2 = .ok (.invokestatic 107, 3) := by decide +kernel
theorem dX4_first__5 : decode cX4_first_ 5 = .ok (.iconst 1, 1) := by decide +kernel
theorem dX4_first__6 : decode cX4_first_ 6 = .ok (.invokevirtual 110, 3) := by decide +kernel
theorem dX4_first__9 : decode cX4_first_ 9 = .ok (.ifCond .ne 15, 3) := by decide +kernel
theorem dX4_first__12 : decode cX4_first_ 12 = .ok (.aload_n 0, 1) := by decide +kernel
theorem dX4_first__13 : decode cX4_first_ 13 = .ok (.iload_n 2, 1) := by decide +kernel
theorem dX4_first__14 : decode cX4_first_ 14 = .ok (.invokestatic 100, 3) := by decide +kernel
theorem dX4_first__17 : decode cX4_first_ 17 = .ok (.iconst 2, 1) := by decide +kernel
theorem dX4_first__18 : decode cX4_first_ 18 = .ok (.invokevirtual 86, 3) := by decide +kernel
theorem dX4_first__21 : decode cX4_first_ 21 = .ok (.ifCond .eq 7, 3) := by decide +kernel
theorem dX4_first__24 : decode cX4_first_ 24 = .ok (.iconst 0, 1) := by decide +kernel
theorem dX4_first__25 : decode cX4_first_ 25 = .ok (.goto 23, 3) := by decide +kernel
theorem dX4_first__28 : decode cX4_first_ 28 = .ok (.aload_n 0, 1) := by decide +kernel
theorem dX4_first__29 : decode cX4_first_ 29 = .ok (.getfield 72, 3) := by decide +kernel
theorem dX4_first__32 : decode cX4_first_ 32 = .ok (.iload_n 1, 1) := by decide +kernel
theorem dX4_first__33 : decode cX4_first_ 33 = .ok (.aaload, 1) := by decide +kernel
theorem dX4_first__34 : decode cX4_first_ 34 = .ok (.iconst 1, 1) := by decide +kernel
theorem dX4_first__35 : decode cX4_first_ 35 = .ok (.newarray .int, 2) := by decide +kernel
theorem dX4_first__37 : decode cX4_first_ 37 = .ok (.dup, 1) := by decide +kernel
theorem dX4_first__38 : decode cX4_first_ 38 = .ok (.iconst 0, 1) := by decide +kernel
theorem dX4_first__39 : decode cX4_first_ 39 = .ok (.getstatic 94, 3) := by decide +kernel
theorem dX4_first__42 : decode cX4_first_ 42 = .ok (.iload_n 2, 1) := by decide +kernel
theorem dX4_first__43 : decode cX4_first_ 43 = .ok (.iaload, 1) := by decide +kernel
theorem dX4_first__44 : decode cX4_first_ 44 = .ok (.iastore, 1) := by decide +kernel
theorem dX4_first__45 : decode cX4_first_ 45 = .ok (.invokestatic 160, 3) := by decide +kernel
theorem dX4_first__48 : decode cX4_first_ 48 = .ok (.ireturn, 1) := by decide +kernel
theorem dX4_last__0 : decode cX4_last_ 0 = .ok (.aload_n 0, 1) := by decide +kernel
theorem dX4_last__1 : decode cX4_last_ 1 = .ok (.iload_n 1, 1) := by decide +kernel
theorem dX4_last__2 : decode cX4_last_ 2 = .ok (.invokestatic 107, 3) := by decide +kernel
theorem dX4_last__5 : decode cX4_last_ 5 = .ok (.iconst 1, 1) := by decide +kernel
theorem dX4_last__6 : decode cX4_last_ 6 = .ok (.invokevirtual 110, 3) := by decide +kernel
theorem dX4_last__9 : decode cX4_last_ 9 = .ok (.ifCond .ne 15, 3) := by decide +kernel
theorem dX4_last__12 : decode cX4_last_ 12 = .ok (.aload_n 0, 1) := by decide +kernel
theorem dX4_last__13 : decode cX4_last_ 13 = .ok (.iload_n 2, 1) := by decide +kernel
theorem dX4_last__14 : decode cX4_last_ 14 = .ok (.invokestatic 100, 3) := by decide +kernel
theorem dX4_last__17 : decode cX4_last_ 17 = .ok (.iconst 2, 1) := by decide +kernel
theorem dX4_last__18 : decode cX4_last_ 18 = .ok (.invokevirtual 86, 3) := by decide +kernel
theorem dX4_last__21 : decode cX4_last_ 21 = .ok (.ifCond .eq 7, 3) := by decide +kernel
theorem dX4_last__24 : decode cX4_last_ 24 = .ok (.iconst 0, 1) := by decide +kernel
theorem dX4_last__25 : decode cX4_last_ 25 = .ok (.goto 23, 3) := by decide +kernel
theorem dX4_last__28 : decode cX4_last_ 28 = .ok (.aload_n 0, 1) := by decide +kernel
theorem dX4_last__29 : decode cX4_last_ 29 = .ok (.getfield 72, 3) := by decide +kernel
theorem dX4_last__32 : decode cX4_last_ 32 = .ok (.iload_n 1, 1) := by decide +kernel
theorem dX4_last__33 : decode cX4_last_ 33 = .ok (.aaload, 1) := by decide +kernel
theorem dX4_last__34 : decode cX4_last_ 34 = .ok (.iconst 1, 1) := by decide +kernel
theorem dX4_last__35 : decode cX4_last_ 35 = .ok (.newarray .int, 2) := by decide +kernel
theorem dX4_last__37 : decode cX4_last_ 37 = .ok (.dup, 1) := by decide +kernel
theorem dX4_last__38 : decode cX4_last_ 38 = .ok (.iconst 0, 1) := by decide +kernel
theorem dX4_last__39 : decode cX4_last_ 39 = .ok (.getstatic 94, 3) := by decide +kernel
theorem dX4_last__42 : decode cX4_last_ 42 = .ok (.iload_n 2, 1) := by decide +kernel
theorem dX4_last__43 : decode cX4_last_ 43 = .ok (.iaload, 1) := by decide +kernel
theorem dX4_last__44 : decode cX4_last_ 44 = .ok (.iastore, 1) := by decide +kernel
theorem dX4_last__45 : decode cX4_last_ 45 = .ok (.invokestatic 164, 3) := by decide +kernel
theorem dX4_last__48 : decode cX4_last_ 48 = .ok (.ireturn, 1) := by decide +kernel
theorem dX4_next_0 : decode cX4_next 0 = .ok (.aload_n 0, 1) := by decide +kernel
theorem dX4_next_1 : decode cX4_next 1 = .ok (.iload_n 1, 1) := by decide +kernel
theorem dX4_next_2 : decode cX4_next 2 = .ok (.invokestatic 107, 3) := by decide +kernel
theorem dX4_next_5 : decode cX4_next 5 = .ok (.iconst 1, 1) := by decide +kernel
theorem dX4_next_6 : decode cX4_next 6 = .ok (.invokevirtual 110, 3) := by decide +kernel
theorem dX4_next_9 : decode cX4_next 9 = .ok (.ifCond .ne 43, 3) := by decide +kernel
theorem dX4_next_12 : decode cX4_next 12 = .ok (.aload_n 0, 1) := by decide +kernel
theorem dX4_next_13 : decode cX4_next 13 = .ok (.iload_n 2, 1) := by decide +kernel
theorem dX4_next_14 : decode cX4_next 14 = .ok (.iconst 0, 1) := by decide +kernel
theorem dX4_next_15 : decode cX4_next 15 = .ok (.aload_n 0, 1) := by decide +kernel
theorem dX4_next_16 : decode cX4_next 16 = .ok (.getfield 72, 3) := by decide +kernel
theorem dX4_next_19 : decode cX4_next 19 = .ok (.iload_n 1, 1) := by decide +kernel
theorem dX4_next_20 : decode cX4_next 20 = .ok (.aaload, 1) := by decide +kernel
theorem dX4_next_21 : decode cX4_next 21 = .ok (.arraylength, 1) := by decide +kernel
theorem dX4_next_22 : decode cX4_next 22 = .ok (.invokestatic 90, 3) := by decide +kernel
theorem dX4_next_25 : decode cX4_next 25 = .ok (.ifCond .ne 7, 3) := by decide +kernel
theorem dX4_next_28 : decode cX4_next 28 = .ok (.iconst 1, 1) := by decide +kernel
theorem dX4_next_29 : decode cX4_next 29 = .ok (.goto 4, 3) := by decide +kernel
theorem dX4_next_32 : decode cX4_next 32 = .ok (.iconst 0, 1) := by decide +kernel
theorem dX4_next_33 : decode cX4_next 33 = .ok (.iconst 1, 1) := by decide +kernel
theorem dX4_next_34 : decode cX4_next 34 = .ok (.invokevirtual 86, 3) := by decide +kernel
theorem dX4_next_37 : decode cX4_next 37 = .ok (.ifCond .ne 15, 3) := by decide +kernel
theorem dX4_next_40 : decode cX4_next 40 = .ok (.aload_n 0, 1) := by decide +kernel
theorem dX4_next_41 : decode cX4_next 41 = .ok (.iload_n 3, 1) := by decide +kernel
theorem dX4_next_42 : decode cX4_next 42 = .ok (.invokestatic 100, 3) := by decide +kernel
theorem dX4_next_45 : decode cX4_next 45 = .ok (.iconst 2, 1) := by decide +kernel
theorem dX4_next_46 : decode cX4_next 46 = .ok (.invokevirtual 86, 3) := by decide +kernel
theorem dX4_next_49 : decode cX4_next 49 = .ok (.ifCond .eq 5, 3) := by decide +kernel
theorem dX4_next_52 : decode cX4_next 52 = .ok (.iconst 0, 1) := by decide +kernel
theorem dX4_next_53 : decode cX4_next 53 = .ok (.ireturn, 1) := by decide +kernel
theorem dX4_next_54 : decode cX4_next 54 = .ok (.iload_n 2, 1) := by decide +kernel
theorem dX4_next_55 : decode cX4_next 55 = .ok (.istore 4, 2) := by decide +kernel
theorem dX4_next_57 : decode cX4_next 57 = .ok (.iload 4, 2) := by decide +kernel
theorem dX4_next_59 : decode cX4_next 59 = .ok (.aload_n 0, 1) := by decide +kernel
theorem dX4_next_60 : decode cX4_next 60 = .ok (.getfield 72, 3) := by decide +kernel
theorem dX4_next_63 : decode cX4_next 63 = .ok (.iload_n 1, 1) := by decide +kernel
theorem dX4_next_64 : decode cX4_next 64 = .ok (.aaload, 1) := by decide +kernel
theorem dX4_next_65 : decode cX4_next 65 = .ok (.arraylength, 1) := by decide +kernel
theorem dX4_next_66 : decode cX4_next 66 = .ok (.if_icmp .ge 29, 3) := by decide +kernel
theorem dX4_next_69 : decode cX4_next 69 = .ok (.aload_n 0, 1) := by decide +kernel
theorem dX4_next_70 : decode cX4_next 70 = .ok (.getfield 72, 3) := by decide +kernel
theorem dX4_next_73 : decode cX4_next 73 = .ok (.iload_n 1, 1) := by decide +kernel
theorem dX4_next_74 : decode cX4_next 74 = .ok (.aaload, 1) := by decide +kernel
theorem dX4_next_75 : decode cX4_next 75 = .ok (.iload 4, 2) := by decide +kernel
theorem dX4_next_77 : decode cX4_next 77 = .ok (.iaload, 1) := by decide +kernel
theorem dX4_next_78 : decode cX4_next 78 = .ok (.getstatic 94, 3) := by decide +kernel
theorem dX4_next_81 : decode cX4_next 81 = .ok (.iload_n 3, 1) := by decide +kernel
theorem dX4_next_82 : decode cX4_next 82 = .ok (.iaload, 1) := by decide +kernel
theorem dX4_next_83 : decode cX4_next 83 = .ok (.if_icmp .ne 6, 3) := by decide +kernel
theorem dX4_next_86 : decode cX4_next 86 = .ok (.iload 4, 2) := by decide +kernel
theorem dX4_next_88 : decode cX4_next 88 = .ok (.ireturn, 1) := by decide +kernel
theorem dX4_next_89 : decode cX4_next 89 = .ok (.iinc 4 1, 3) := by decide +kernel
theorem dX4_next_92 : decode cX4_next 92 = .ok (.goto (-35), 3) := by decide +kernel
theorem dX4_next_95 : decode cX4_next 95 = .ok (.iconst (-1), 1) := by decide +kernel
theorem dX4_next_96 : decode cX4_next 96 = .ok (.ireturn, 1) := by decide +kernel
theorem dX4_begins_0 : decode cX4_begins 0 = .ok (.aload_n 0, 1) := by decide +kernel
theorem dX4_begins_1 : decode cX4_begins 1 = .ok (.iload_n 1, 1) := by decide +kernel
theorem dX4_begins_2 : decode cX4_begins 2 = .ok (.invokestatic 107, 3) := by decide +kernel
theorem dX4_begins_5 : decode cX4_begins 5 = .ok (.iconst 1, 1) := by decide +kernel
theorem dX4_begins_6 : decode cX4_begins 6 = .ok (.invokevirtual 110, 3) := by decide +kernel
theorem dX4_begins_9 : decode cX4_begins 9 = .ok (.ifCond .ne 15, 3) := by decide +kernel
theorem dX4_begins_12 : decode cX4_begins 12 = .ok (.aload_n 0, 1) := by decide +kernel
theorem dX4_begins_13 : decode cX4_begins 13 = .ok (.iload_n 2, 1) := by decide +kernel
theorem dX4_begins_14 : decode cX4_begins 14 = .ok (.invokestatic 135, 3) := by decide +kernel
theorem dX4_begins_17 : decode cX4_begins 17 = .ok (.iconst 2, 1) := by decide +kernel
theorem dX4_begins_18 : decode cX4_begins 18 = .ok (.invokevirtual 86, 3) := by decide +kernel
theorem dX4_begins_21 : decode cX4_begins 21 = .ok (.ifCond .eq 5, 3) := by decide +kernel
theorem dX4_begins_24 : decode cX4_begins 24 = .ok (.iconst 0, 1) := by decide +kernel
theorem dX4_begins_25 : decode cX4_begins 25 = .ok (.ireturn, 1) := by decide +kernel
theorem dX4_begins_26 : decode cX4_begins 26 = .ok (.aload_n 0, 1) := by decide +kernel
theorem dX4_begins_27 : decode cX4_begins 27 = .ok (.getfield 72, 3) := by decide +kernel
theorem dX4_begins_30 : decode cX4_begins 30 = .ok (.iload_n 1, 1) := by decide +kernel
theorem dX4_begins_31 : decode cX4_begins 31 = .ok (.aaload, 1) := by decide +kernel
theorem dX4_begins_32 : decode cX4_begins 32 = .ok (.iload_n 3, 1) := by decide +kernel
theorem dX4_begins_33 : decode cX4_begins 33 = .ok (.ifCond .eq 20, 3) := by decide +kernel
theorem dX4_begins_36 : decode cX4_begins 36 = .ok (.aload_n 0, 1) := by decide +kernel
theorem dX4_begins_37 : decode cX4_begins 37 = .ok (.getfield 72, 3) := by decide +kernel
theorem dX4_begins_40 : decode cX4_begins 40 = .ok (.iload_n 1, 1) := by decide +kernel
theorem dX4_begins_41 : decode cX4_begins 41 = .ok (.aaload, 1) := by decide +kernel
theorem dX4_begins_42 : decode cX4_begins 42 = .ok (.arraylength, 1) := by decide +kernel
theorem dX4_begins_43 : decode cX4_begins 43 = .ok (.getstatic 97, 3) := by decide +kernel
theorem dX4_begins_46 : decode cX4_begins 46 = .ok (.iload_n 2, 1) := by decide +kernel
theorem dX4_begins_47 : decode cX4_begins 47 = .ok (.aaload, 1) := by decide +kernel
theorem dX4_begins_48 : decode cX4_begins 48 = .ok (.arraylength, 1) := by decide +kernel
theorem dX4_begins_49 : decode cX4_begins 49 = .ok (.isub, 1) := by decide +kernel
theorem dX4_begins_50 : decode cX4_begins 50 = .ok (.goto 4, 3) := by decide +kernel
theorem dX4_begins_53 : decode cX4_begins 53 = .ok (.iconst 0, 1) := by decide +kernel
theorem dX4_begins_54 : decode cX4_begins 54 = .ok (.getstatic 97, 3) := by decide +kernel
theorem dX4_begins_57 : decode cX4_begins 57 = .ok (.iload_n 2, 1) := by decide +kernel
theorem dX4_begins_58 : decode cX4_begins 58 = .ok (.aaload, 1) := by decide +kernel
theorem dX4_begins_59 : decode cX4_begins 59 = .ok (.iconst 0, 1) := by decide +kernel
theorem dX4_begins_60 : decode cX4_begins 60 = .ok (.invokestatic 39, 3) := by decide +kernel
theorem dX4_begins_63 : decode cX4_begins 63 = .ok (.ireturn, 1) := by decide +kernel
theorem dX4_stands__0 : decode cX4_stands_ 0 = .ok (.aload_n 0, 1) := by decide +kernel
theorem dX4_stands__1 : decode cX4_stands_ 1 = .ok (.iload_n 1, 1) := by decide +kernel
theorem dX4_stands__2 : decode cX4_stands_ 2 = .ok (.invokestatic 107, 3) := by decide +kernel
theorem dX4_stands__5 : decode cX4_stands_ 5 = .ok (.iconst 1, 1) := by decide +kernel
theorem dX4_stands__6 : decode cX4_stands_ 6 = .ok (.invokevirtual 110, 3) := by decide +kernel
theorem dX4_stands__9 : decode cX4_stands_ 9 = .ok (.ifCond .ne 39, 3) := by decide +kernel
theorem dX4_stands__12 : decode cX4_stands_ 12 = .ok (.aload_n 0, 1) := by decide +kernel
theorem dX4_stands__13 : decode cX4_stands_ 13 = .ok (.iload_n 3, 1) := by decide +kernel
theorem dX4_stands__14 : decode cX4_stands_ 14 = .ok (.invokestatic 135, 3) := by decide +kernel
theorem dX4_stands__17 : decode cX4_stands_ 17 = .ok (.iconst 2, 1) := by decide +kernel
theorem dX4_stands__18 : decode cX4_stands_ 18 = .ok (.invokevirtual 86, 3) := by decide +kernel
theorem dX4_stands__21 : decode cX4_stands_ 21 = .ok (.ifCond .ne 27, 3) := by decide +kernel
theorem dX4_stands__24 : decode cX4_stands_ 24 = .ok (.aload_n 0, 1) := by decide +kernel
theorem dX4_stands__25 : decode cX4_stands_ 25 = .ok (.getfield 72, 3) := by decide +kernel
theorem dX4_stands__28 : decode cX4_stands_ 28 = .ok (.iload_n 1, 1) := by decide +kernel
theorem dX4_stands__29 : decode cX4_stands_ 29 = .ok (.aaload, 1) := by decide +kernel
theorem dX4_stands__30 : decode cX4_stands_ 30 = .ok (.iload_n 2, 1) := by decide +kernel
theorem dX4_stands__31 : decode cX4_stands_ 31 = .ok (.getstatic 97, 3) := by decide +kernel
theorem dX4_stands__34 : decode cX4_stands_ 34 = .ok (.iload_n 3, 1) := by decide +kernel
theorem dX4_stands__35 : decode cX4_stands_ 35 = .ok (.aaload, 1) := by decide +kernel
theorem dX4_stands__36 : decode cX4_stands_ 36 = .ok (.iload 4, 2) := by decide +kernel
theorem dX4_stands__38 : decode cX4_stands_ 38 = .ok (.invokestatic 39, 3) := by decide +kernel
theorem dX4_stands__41 : decode cX4_stands_ 41 = .ok (.ifCond .eq 7, 3) := by decide +kernel
theorem dX4_stands__44 : decode cX4_stands_ 44 = .ok (.iconst 1, 1) := by decide +kernel
theorem dX4_stands__45 : decode cX4_stands_ 45 = .ok (.goto 4, 3) := by decide +kernel
theorem dX4_stands__48 : decode cX4_stands_ 48 = .ok (.iconst 0, 1) := by decide +kernel
theorem dX4_stands__49 : decode cX4_stands_ 49 = .ok (.ireturn, 1) := by decide +kernel
theorem dX4_isIn__0 : decode cX4_isIn_ 0 = .ok (.aload_n 0, 1) := by decide +kernel
theorem dX4_isIn__1 : decode cX4_isIn_ 1 = .ok (.aload_n 0, 1) := by decide +kernel
theorem dX4_isIn__2 : decode cX4_isIn_ 2 = .ok (.iload_n 1, 1) := by decide +kernel
theorem dX4_isIn__3 : decode cX4_isIn_ 3 = .ok (.iload_n 2, 1) := by decide +kernel
theorem dX4_isIn__4 : decode cX4_isIn_ 4 = .ok (.invokevirtual 167, 3) := by decide +kernel
theorem dX4_isIn__7 : decode cX4_isIn_ 7 = .ok (.iconst 1, 1) := by decide +kernel
theorem dX4_isIn__8 : decode cX4_isIn_ 8 = .ok (.invokevirtual 110, 3) := by decide +kernel
theorem dX4_isIn__11 : decode cX4_isIn_ 11 = .ok (.ifCond .ne 25, 3) := by decide +kernel
theorem dX4_isIn__14 : decode cX4_isIn_ 14 = .ok (.aload_n 0, 1) := by decide +kernel
theorem dX4_isIn__15 : decode cX4_isIn_ 15 = .ok (.getfield 72, 3) := by decide +kernel
theorem dX4_isIn__18 : decode cX4_isIn_ 18 = .ok (.iload_n 1, 1) := by decide +kernel
theorem dX4_isIn__19 : decode cX4_isIn_ 19 = .ok (.aaload, 1) := by decide +kernel
theorem dX4_isIn__20 : decode cX4_isIn_ 20 = .ok (.aload_n 0, 1) := by decide +kernel
theorem dX4_isIn__21 : decode cX4_isIn_ 21 = .ok (.getfield 72, 3) := by decide +kernel
theorem dX4_isIn__24 : decode cX4_isIn_ 24 = .ok (.iload_n 2, 1) := by decide +kernel
theorem dX4_isIn__25 : decode cX4_isIn_ 25 = .ok (.aaload, 1) := by decide +kernel
theorem dX4_isIn__26 : decode cX4_isIn_ 26 = .ok (.invokestatic 160, 3) := by decide +kernel
theorem dX4_isIn__29 : decode cX4_isIn_ 29 = .ok (.ifCond .lt 7, 3) := by decide +kernel
theorem dX4_isIn__32 : decode cX4_isIn_ 32 = .ok (.iconst 1, 1) := by decide +kernel
theorem dX4_isIn__33 : decode cX4_isIn_ 33 = .ok (.goto 4, 3) := by decide +kernel
theorem dX4_isIn__36 : decode cX4_isIn_ 36 = .ok (.iconst 0, 1) := by decide +kernel
theorem dX4_isIn__37 : decode cX4_isIn_ 37 = .ok (.ireturn, 1) := by decide +kernel
abbrev rmX4_first_ : Room := { frames := 3, cells := 1, slots := 1, locals := 66 }
theorem mX4_first_ {l : Launch} {G : Cx} {A : Nat → Prop} {am xa : Nat} {X : Nat → List Nat} {P : List (List Nat)} {k : Int32} {x y th : Int32} : Met l yX4_first_ (.code yX4_first_ cX4_first_ 3 (some .int) :: GW) rmX4_first_ (PC G A [.ref am, .int x, .int y] (MW G A am xa X P k th)) (qI A (fun r H => ((NT x) ∧ r = 0 ∧ MW G A am xa X P k 1 H) ∨ (((∃ i : Nat, i < 4 ∧ x = nI i) ∧ NS y) ∧ r = 0 ∧ MW G A am xa X P k 2 H) ∨ ∃ i j : Nat, i < 4 ∧ x = nI i ∧ j < 24 ∧ y = nI j ∧ fstR (fun k9 => 0 ≤ k9 ∧ k9 < (X i).length ∧ (X i).getD k9 0 = codeT.getD j 0) r ∧ MW G A am xa X P k 0 H)) 1 1 (A) := by
  refine mstart "SigntextModel" (by decide +kernel) rfl (Nat.le_of_ble_eq_true rfl) ?_
  intro p e s m below meth c ls hx hb hr hts hown hml hlocks hname hC hA hW hl
  have hl : lv_has ls 3 [(0, .ref am), (1, .int x), (2, .int y)] := hl
  have hK := hC.1
  have hS : va_S A s.heap s.heap [] := va_S.rf
  obtain ⟨ra, pa, tx, hW⟩ := hW
  have hO := hW.obj
  have hAm := hW.1
  obtain ⟨-, -, zc3, zc4, zc5, zc6, zc7, -⟩ := hC.2.2.1
  refine lv_aload_n hx hb dX4_first__0 rfl (lv_at hl 0 rfl) ?_
  refine lv_iload_n hx hb dX4_first__1 rfl (lv_at hl 1 rfl) ?_
  refine kS_i (A := A) (As := [.int x]) (rest := .ref am :: []) ⟨hx, hb, hml, hown, hts⟩ (mX4_isNone (A := A) ) (va_cwS 1 hts (gS tw_4_203 tw_4_204 tw_1_8 tw_4_205) rfl rfl rfl (by decide +kernel) ⟨Nat.le_of_ble_eq_true rfl, Nat.le_of_ble_eq_true rfl⟩) hC hS hA  trivial rfl rfl hl.1 (Nat.le_of_ble_eq_true rfl) ⟨Nat.zero_le _, Nat.zero_le _⟩ dX4_first__2 (fun r_1 hr_1 => ?_)
  obtain ⟨r_1v, hr_1v, rfl⟩ := hr_1
  refine lv_iconst (v := nI 1) hx hb dX4_first__5 (by decide) ?_
  cases r_1v
  · obtain ⟨i, hi, rfl⟩ : ∃ i : Nat, i < 4 ∧ x = nI i := Classical.byContradiction (fun q => Bool.noConfusion (hr_1v.mpr q))
    refine qI_V (A := A) (A1 := A) (b := am) (As := [.int (bI false), .int (nI 1)]) (rest := []) ⟨hx, hb, hml, hown, hts⟩ (mX4_start (A := A) (X := X) (P := P) (k := k) (xa := xa) (b := false) (w9 := 1) (by decide)) (cwV 2 hts (gV tw_4_206 tw_4_208 sel_X4_start tw_1_8 tw_4_209) rfl rfl rfl (by decide +kernel) ⟨Nat.le_of_ble_eq_true rfl, Nat.le_of_ble_eq_true rfl⟩) hC hS (fun _ h => h) (fun q h => hA q (Nat.le_trans hS.1 h)) (hW.recv hK) ⟨ra, pa, tx, hW⟩ rfl rfl hl.1 (Nat.le_of_ble_eq_true rfl) ⟨Nat.zero_le _, Nat.zero_le _⟩ dX4_first__6 (fun rv2 H2 L2 hP2 hk2 hS => ?_)
    have hZ2 := hS.1
    obtain ⟨hr2, hM2⟩ := hP2
    subst hr2
    obtain ⟨ra, pa, tx, hW⟩ := hM2
    have hW : MWx G A am xa ra pa tx X P k (nI 0) H2 := hW
    have hO := hW.obj
    have hAm := hW.1
    refine f_ne (tgt := 24) hx hb dX4_first__9 (by decide) (fun c_3 => ?_) (fun c_3 => ?_)
    · exact absurd c_3 (by decide)
    · refine lv_aload_n hx hb dX4_first__12 rfl (lv_at hl 0 rfl) ?_
      refine lv_iload_n hx hb dX4_first__13 rfl (lv_at hl 2 rfl) ?_
      refine kS_i (A := A) (As := [.int y]) (rest := .ref am :: []) ⟨hx, hb, hml, hown, hts⟩ (mX4_isNoSign (A := A) ) (va_cwS 1 hts (gS tw_4_192 tw_4_193 tw_1_8 tw_4_194) rfl rfl rfl (by decide +kernel) ⟨Nat.le_of_ble_eq_true rfl, Nat.le_of_ble_eq_true rfl⟩) hC hS hA  trivial rfl rfl hl.1 (Nat.le_of_ble_eq_true rfl) ⟨Nat.zero_le _, Nat.zero_le _⟩ dX4_first__14 (fun r_4 hr_4 => ?_)
      obtain ⟨r_4v, hr_4v, rfl⟩ := hr_4
      refine lv_iconst (v := nI 2) hx hb dX4_first__17 (by decide) ?_
      cases r_4v
      · obtain ⟨j, hj, rfl⟩ : ∃ j : Nat, j < 24 ∧ y = nI j := Classical.byContradiction (fun q => Bool.noConfusion (hr_4v.mpr q))
        refine qI_V (A := A) (A1 := A) (b := am) (As := [.int (bI false), .int (nI 2)]) (rest := []) ⟨hx, hb, hml, hown, hts⟩ (mX4_refuse (A := A) (X := X) (P := P) (k := k) (xa := xa) (b := false) (th := 0) (w9 := 2) (by decide) (by decide)) (cwV 2 hts (gV tw_4_210 tw_4_212 sel_X4_refuse tw_1_8 tw_4_213) rfl rfl rfl (by decide +kernel) ⟨Nat.le_of_ble_eq_true rfl, Nat.le_of_ble_eq_true rfl⟩) hC hS (fun _ h => h) (fun q h => hA q (Nat.le_trans hS.1 h)) (hW.recv hK) ⟨ra, pa, tx, hW⟩ rfl rfl hl.1 (Nat.le_of_ble_eq_true rfl) ⟨Nat.zero_le _, Nat.zero_le _⟩ dX4_first__18 (fun rv5 H5 L5 hP5 hk5 hS => ?_)
        have hZ5 := hS.1
        obtain ⟨hr5, hM5⟩ := hP5
        subst hr5
        obtain ⟨ra, pa, tx, hW⟩ := hM5
        have hW : MWx G A am xa ra pa tx X P k (nI 0) H5 := hW
        have hO := hW.obj
        have hAm := hW.1
        refine f_eq (tgt := 28) hx hb dX4_first__21 (by decide) (fun c_6 => ?_) (fun c_6 => ?_)
        · refine lv_aload_n hx hb dX4_first__28 rfl (lv_at hl 0 rfl) ?_
          refine va_get (D := G.1) (ci := 8) (C := RX4) (T := TX4) (N := 5) hx hb hts inX4 hown hK (at_P hO) 0 rfl rfl 1 (by decide) (hts _ tw_4_173) (fun _ h9 => h9) rfl dX4_first__29 ?_
          refine lv_iload_n hx hb dX4_first__32 rfl (lv_at hl 1 rfl) ?_
          refine h_aaldI (D := G.1) hx hb hK 4 hW.txs rfl (vp_in_nI (n := i) (N := 4) (by omega) (by omega)) dX4_first__33 ?_
          refine v_cv (show va_rf _ = .ref (tx i) from by rw [nI_clamp (n := i) (by omega)]; rfl) ?_
          refine lv_iconst (v := nI 1) hx hb dX4_first__34 (by decide) ?_
          have hW0 := hW
          refine h_newa (D := G.1) (atype := .int) (N := 1) (z := (1, .inl (fun _ => 0))) hx hb (hts _ tw_1_70) rfl (fun h => h) hK 0 rfl hS rfl (nI_pos (by omega)) (nI_clamp (by omega)) (show 1 * _ ≤ _ from by show 1 * 4 ≤ 536870912; omega) (Nat.le_trans (show 0 + 1 ≤ 1 by omega) (Nat.le_of_ble_eq_true rfl)) (Nat.le_trans (show 0 + 1 ≤ 1 by omega) (Nat.le_of_ble_eq_true rfl)) dX4_first__35 (fun na H7 hna hFna z7 o7 hS => ?_)
          have hZ7 := hS.1
          have hMna : A na := hA na (by omega)
          refine lv_dup hx hb dX4_first__37 rfl ?_
          refine lv_iconst (v := nI 0) hx hb dX4_first__38 (by decide) ?_
          refine va_gets (v := .ref (G.2.2 1)) hx hb zc3 hS hown (hts _ tw_4_195) (fun _ h9 => h9) dX4_first__39 ?_
          refine lv_iload_n hx hb dX4_first__42 rfl (lv_at hl 2 rfl) ?_
          refine va_ti (v := .int (nI (codeT.getD j 0))) hx hb zc4 hS (vp_in_nI (n := j) (N := 24) (by omega) (by omega)) (by rw [nI_clamp (n := j) (by omega)]) dX4_first__43 ?_
          refine h_ist (D := G.1) hx hb hK 0 hFna rfl hS hMna (vp_in_nI (n := 0) (N := 1) (by omega) (by omega)) dX4_first__44 (fun H8 L8 hFna z8 o8 hS => ?_)
          rw [nI_clamp (n := 0) (by omega)] at hFna
          have hZ8 := hS.1
          have hk9 : kp (nw H5.size) H5 H8 := kp_new1 hna z7 o7 z8 o8
          have hN1 : IA0 G na [codeT.getD j 0] H8 := IA0.mk hFna rfl (fun q hq => by obtain rfl : q = 0 := (by omega); exact pk_us)
          have hW := hW0.nw hk9
          have hO := hW.obj
          have hAm := hW.1
          have hTi := (hW.tx (j := i) (by omega)).ia hC.2.1.2
          have x60i := hW.2.2.1 i (Or.inl (by omega))
          have i60 := x60i.2
          refine kS_i (A := A) (As := [.ref (tx i), .ref na]) (rest := []) ⟨hx, hb, hml, hown, hts⟩ (mX4_first (A := A) (t := X i) (u := [codeT.getD j 0]) x60i.1 (okc_one (codeT_lt j)) (by omega) (by show 1 ≤ 61; decide)) (va_cwS 2 hts (gS tw_6_172 tw_6_173 tw_1_8 tw_6_174) rfl rfl rfl (by decide +kernel) ⟨Nat.le_of_ble_eq_true rfl, Nat.le_of_ble_eq_true rfl⟩) hC hS hA  ⟨hTi, hN1.ia hC.2.1.2⟩ rfl rfl hl.1 (Nat.le_of_ble_eq_true rfl) ⟨Nat.le_trans (show (0 + 1) ≤ 1 by omega) (Nat.le_of_ble_eq_true rfl), Nat.le_trans (show (0 + 1) ≤ 1 by omega) (Nat.le_of_ble_eq_true rfl)⟩ dX4_first__45 (fun r_9 hr_9 => ?_)
          have h7 : fstR (fun k9 => stL false (X i) [codeT.getD j 0] k9) r_9 := hr_9
          exact q_i hx hb hr hlocks dX4_first__48 hS (by omega) (by omega) (Or.inr (Or.inr (⟨i, j, hi, rfl, hj, rfl, fstR_cg (fun k9 => ⟨fun q => ⟨Nat.zero_le _, stL_one.mp q⟩, fun q => stL_one.mpr q.2⟩) h7, ra, pa, tx, hW⟩)))
        · exact absurd c_6 (by decide)
      · refine qI_V (A := A) (A1 := A) (b := am) (As := [.int (bI true), .int (nI 2)]) (rest := []) ⟨hx, hb, hml, hown, hts⟩ (mX4_refuse (A := A) (X := X) (P := P) (k := k) (xa := xa) (b := true) (th := 0) (w9 := 2) (by decide) (by decide)) (cwV 2 hts (gV tw_4_210 tw_4_212 sel_X4_refuse tw_1_8 tw_4_213) rfl rfl rfl (by decide +kernel) ⟨Nat.le_of_ble_eq_true rfl, Nat.le_of_ble_eq_true rfl⟩) hC hS (fun _ h => h) (fun q h => hA q (Nat.le_trans hS.1 h)) (hW.recv hK) ⟨ra, pa, tx, hW⟩ rfl rfl hl.1 (Nat.le_of_ble_eq_true rfl) ⟨Nat.zero_le _, Nat.zero_le _⟩ dX4_first__18 (fun rv10 H10 L10 hP10 hk10 hS => ?_)
        have hZ10 := hS.1
        obtain ⟨hr10, hM10⟩ := hP10
        subst hr10
        obtain ⟨ra, pa, tx, hW⟩ := hM10
        have hW : MWx G A am xa ra pa tx X P k (nI 2) H10 := hW
        have hO := hW.obj
        have hAm := hW.1
        refine f_eq (tgt := 28) hx hb dX4_first__21 (by decide) (fun c_11 => ?_) (fun c_11 => ?_)
        · exact absurd c_11 (by decide)
        · refine lv_iconst (v := nI 0) hx hb dX4_first__24 (by decide) ?_
          refine lv_goto (tgt := 48) hx hb dX4_first__25 (by decide) ?_
          exact q_i hx hb hr hlocks dX4_first__48 hS (by omega) (by omega) (Or.inr (Or.inl ⟨⟨⟨i, hi, rfl⟩, (hr_4v.mp rfl)⟩, rfl, ra, pa, tx, hW⟩))
  · refine qI_V (A := A) (A1 := A) (b := am) (As := [.int (bI true), .int (nI 1)]) (rest := []) ⟨hx, hb, hml, hown, hts⟩ (mX4_start (A := A) (X := X) (P := P) (k := k) (xa := xa) (b := true) (w9 := 1) (by decide)) (cwV 2 hts (gV tw_4_206 tw_4_208 sel_X4_start tw_1_8 tw_4_209) rfl rfl rfl (by decide +kernel) ⟨Nat.le_of_ble_eq_true rfl, Nat.le_of_ble_eq_true rfl⟩) hC hS (fun _ h => h) (fun q h => hA q (Nat.le_trans hS.1 h)) (hW.recv hK) ⟨ra, pa, tx, hW⟩ rfl rfl hl.1 (Nat.le_of_ble_eq_true rfl) ⟨Nat.zero_le _, Nat.zero_le _⟩ dX4_first__6 (fun rv12 H12 L12 hP12 hk12 hS => ?_)
    have hZ12 := hS.1
    obtain ⟨hr12, hM12⟩ := hP12
    subst hr12
    obtain ⟨ra, pa, tx, hW⟩ := hM12
    have hW : MWx G A am xa ra pa tx X P k (nI 1) H12 := hW
    have hO := hW.obj
    have hAm := hW.1
    refine f_ne (tgt := 24) hx hb dX4_first__9 (by decide) (fun c_13 => ?_) (fun c_13 => ?_)
    · refine lv_iconst (v := nI 0) hx hb dX4_first__24 (by decide) ?_
      refine lv_goto (tgt := 48) hx hb dX4_first__25 (by decide) ?_
      exact q_i hx hb hr hlocks dX4_first__48 hS (by omega) (by omega) (Or.inl ⟨(hr_1v.mp rfl), rfl, ra, pa, tx, hW⟩)
    · exact absurd c_13 (by decide)

abbrev rmX4_last_ : Room := { frames := 3, cells := 1, slots := 1, locals := 66 }
theorem mX4_last_ {l : Launch} {G : Cx} {A : Nat → Prop} {am xa : Nat} {X : Nat → List Nat} {P : List (List Nat)} {k : Int32} {x y th : Int32} : Met l yX4_last_ (.code yX4_last_ cX4_last_ 3 (some .int) :: GW) rmX4_last_ (PC G A [.ref am, .int x, .int y] (MW G A am xa X P k th)) (qI A (fun r H => ((NT x) ∧ r = 0 ∧ MW G A am xa X P k 1 H) ∨ (((∃ i : Nat, i < 4 ∧ x = nI i) ∧ NS y) ∧ r = 0 ∧ MW G A am xa X P k 2 H) ∨ ∃ i j : Nat, i < 4 ∧ x = nI i ∧ j < 24 ∧ y = nI j ∧ lstR (fun k9 => k9 < (X i).length ∧ (X i).getD k9 0 = codeT.getD j 0) r ∧ MW G A am xa X P k 0 H)) 1 1 (A) := by
  refine mstart "SigntextModel" (by decide +kernel) rfl (Nat.le_of_ble_eq_true rfl) ?_
  intro p e s m below meth c ls hx hb hr hts hown hml hlocks hname hC hA hW hl
  have hl : lv_has ls 3 [(0, .ref am), (1, .int x), (2, .int y)] := hl
  have hK := hC.1
  have hS : va_S A s.heap s.heap [] := va_S.rf
  obtain ⟨ra, pa, tx, hW⟩ := hW
  have hO := hW.obj
  have hAm := hW.1
  obtain ⟨-, -, zc3, zc4, zc5, zc6, zc7, -⟩ := hC.2.2.1
  refine lv_aload_n hx hb dX4_last__0 rfl (lv_at hl 0 rfl) ?_
  refine lv_iload_n hx hb dX4_last__1 rfl (lv_at hl 1 rfl) ?_
  refine kS_i (A := A) (As := [.int x]) (rest := .ref am :: []) ⟨hx, hb, hml, hown, hts⟩ (mX4_isNone (A := A) ) (va_cwS 1 hts (gS tw_4_203 tw_4_204 tw_1_8 tw_4_205) rfl rfl rfl (by decide +kernel) ⟨Nat.le_of_ble_eq_true rfl, Nat.le_of_ble_eq_true rfl⟩) hC hS hA  trivial rfl rfl hl.1 (Nat.le_of_ble_eq_true rfl) ⟨Nat.zero_le _, Nat.zero_le _⟩ dX4_last__2 (fun r_14 hr_14 => ?_)
  obtain ⟨r_14v, hr_14v, rfl⟩ := hr_14
  refine lv_iconst (v := nI 1) hx hb dX4_last__5 (by decide) ?_
  cases r_14v
  · obtain ⟨i, hi, rfl⟩ : ∃ i : Nat, i < 4 ∧ x = nI i := Classical.byContradiction (fun q => Bool.noConfusion (hr_14v.mpr q))
    refine qI_V (A := A) (A1 := A) (b := am) (As := [.int (bI false), .int (nI 1)]) (rest := []) ⟨hx, hb, hml, hown, hts⟩ (mX4_start (A := A) (X := X) (P := P) (k := k) (xa := xa) (b := false) (w9 := 1) (by decide)) (cwV 2 hts (gV tw_4_206 tw_4_208 sel_X4_start tw_1_8 tw_4_209) rfl rfl rfl (by decide +kernel) ⟨Nat.le_of_ble_eq_true rfl, Nat.le_of_ble_eq_true rfl⟩) hC hS (fun _ h => h) (fun q h => hA q (Nat.le_trans hS.1 h)) (hW.recv hK) ⟨ra, pa, tx, hW⟩ rfl rfl hl.1 (Nat.le_of_ble_eq_true rfl) ⟨Nat.zero_le _, Nat.zero_le _⟩ dX4_last__6 (fun rv15 H15 L15 hP15 hk15 hS => ?_)
    have hZ15 := hS.1
    obtain ⟨hr15, hM15⟩ := hP15
    subst hr15
    obtain ⟨ra, pa, tx, hW⟩ := hM15
    have hW : MWx G A am xa ra pa tx X P k (nI 0) H15 := hW
    have hO := hW.obj
    have hAm := hW.1
    refine f_ne (tgt := 24) hx hb dX4_last__9 (by decide) (fun c_16 => ?_) (fun c_16 => ?_)
    · exact absurd c_16 (by decide)
    · refine lv_aload_n hx hb dX4_last__12 rfl (lv_at hl 0 rfl) ?_
      refine lv_iload_n hx hb dX4_last__13 rfl (lv_at hl 2 rfl) ?_
      refine kS_i (A := A) (As := [.int y]) (rest := .ref am :: []) ⟨hx, hb, hml, hown, hts⟩ (mX4_isNoSign (A := A) ) (va_cwS 1 hts (gS tw_4_192 tw_4_193 tw_1_8 tw_4_194) rfl rfl rfl (by decide +kernel) ⟨Nat.le_of_ble_eq_true rfl, Nat.le_of_ble_eq_true rfl⟩) hC hS hA  trivial rfl rfl hl.1 (Nat.le_of_ble_eq_true rfl) ⟨Nat.zero_le _, Nat.zero_le _⟩ dX4_last__14 (fun r_17 hr_17 => ?_)
      obtain ⟨r_17v, hr_17v, rfl⟩ := hr_17
      refine lv_iconst (v := nI 2) hx hb dX4_last__17 (by decide) ?_
      cases r_17v
      · obtain ⟨j, hj, rfl⟩ : ∃ j : Nat, j < 24 ∧ y = nI j := Classical.byContradiction (fun q => Bool.noConfusion (hr_17v.mpr q))
        refine qI_V (A := A) (A1 := A) (b := am) (As := [.int (bI false), .int (nI 2)]) (rest := []) ⟨hx, hb, hml, hown, hts⟩ (mX4_refuse (A := A) (X := X) (P := P) (k := k) (xa := xa) (b := false) (th := 0) (w9 := 2) (by decide) (by decide)) (cwV 2 hts (gV tw_4_210 tw_4_212 sel_X4_refuse tw_1_8 tw_4_213) rfl rfl rfl (by decide +kernel) ⟨Nat.le_of_ble_eq_true rfl, Nat.le_of_ble_eq_true rfl⟩) hC hS (fun _ h => h) (fun q h => hA q (Nat.le_trans hS.1 h)) (hW.recv hK) ⟨ra, pa, tx, hW⟩ rfl rfl hl.1 (Nat.le_of_ble_eq_true rfl) ⟨Nat.zero_le _, Nat.zero_le _⟩ dX4_last__18 (fun rv18 H18 L18 hP18 hk18 hS => ?_)
        have hZ18 := hS.1
        obtain ⟨hr18, hM18⟩ := hP18
        subst hr18
        obtain ⟨ra, pa, tx, hW⟩ := hM18
        have hW : MWx G A am xa ra pa tx X P k (nI 0) H18 := hW
        have hO := hW.obj
        have hAm := hW.1
        refine f_eq (tgt := 28) hx hb dX4_last__21 (by decide) (fun c_19 => ?_) (fun c_19 => ?_)
        · refine lv_aload_n hx hb dX4_last__28 rfl (lv_at hl 0 rfl) ?_
          refine va_get (D := G.1) (ci := 8) (C := RX4) (T := TX4) (N := 5) hx hb hts inX4 hown hK (at_P hO) 0 rfl rfl 1 (by decide) (hts _ tw_4_173) (fun _ h9 => h9) rfl dX4_last__29 ?_
          refine lv_iload_n hx hb dX4_last__32 rfl (lv_at hl 1 rfl) ?_
          refine h_aaldI (D := G.1) hx hb hK 4 hW.txs rfl (vp_in_nI (n := i) (N := 4) (by omega) (by omega)) dX4_last__33 ?_
          refine v_cv (show va_rf _ = .ref (tx i) from by rw [nI_clamp (n := i) (by omega)]; rfl) ?_
          refine lv_iconst (v := nI 1) hx hb dX4_last__34 (by decide) ?_
          have hW0 := hW
          refine h_newa (D := G.1) (atype := .int) (N := 1) (z := (1, .inl (fun _ => 0))) hx hb (hts _ tw_1_70) rfl (fun h => h) hK 0 rfl hS rfl (nI_pos (by omega)) (nI_clamp (by omega)) (show 1 * _ ≤ _ from by show 1 * 4 ≤ 536870912; omega) (Nat.le_trans (show 0 + 1 ≤ 1 by omega) (Nat.le_of_ble_eq_true rfl)) (Nat.le_trans (show 0 + 1 ≤ 1 by omega) (Nat.le_of_ble_eq_true rfl)) dX4_last__35 (fun na H20 hna hFna z20 o20 hS => ?_)
          have hZ20 := hS.1
          have hMna : A na := hA na (by omega)
          refine lv_dup hx hb dX4_last__37 rfl ?_
          refine lv_iconst (v := nI 0) hx hb dX4_last__38 (by decide) ?_
          refine va_gets (v := .ref (G.2.2 1)) hx hb zc3 hS hown (hts _ tw_4_195) (fun _ h9 => h9) dX4_last__39 ?_
          refine lv_iload_n hx hb dX4_last__42 rfl (lv_at hl 2 rfl) ?_
          refine va_ti (v := .int (nI (codeT.getD j 0))) hx hb zc4 hS (vp_in_nI (n := j) (N := 24) (by omega) (by omega)) (by rw [nI_clamp (n := j) (by omega)]) dX4_last__43 ?_
          refine h_ist (D := G.1) hx hb hK 0 hFna rfl hS hMna (vp_in_nI (n := 0) (N := 1) (by omega) (by omega)) dX4_last__44 (fun H21 L21 hFna z21 o21 hS => ?_)
          rw [nI_clamp (n := 0) (by omega)] at hFna
          have hZ21 := hS.1
          have hk9 : kp (nw H18.size) H18 H21 := kp_new1 hna z20 o20 z21 o21
          have hN1 : IA0 G na [codeT.getD j 0] H21 := IA0.mk hFna rfl (fun q hq => by obtain rfl : q = 0 := (by omega); exact pk_us)
          have hW := hW0.nw hk9
          have hO := hW.obj
          have hAm := hW.1
          have hTi := (hW.tx (j := i) (by omega)).ia hC.2.1.2
          have x60i := hW.2.2.1 i (Or.inl (by omega))
          have i60 := x60i.2
          refine kS_i (A := A) (As := [.ref (tx i), .ref na]) (rest := []) ⟨hx, hb, hml, hown, hts⟩ (mX4_last (A := A) (t := X i) (u := [codeT.getD j 0]) x60i.1 (okc_one (codeT_lt j)) (by omega) (by show 1 ≤ 61; decide)) (va_cwS 2 hts (gS tw_6_185 tw_6_186 tw_1_8 tw_6_187) rfl rfl rfl (by decide +kernel) ⟨Nat.le_of_ble_eq_true rfl, Nat.le_of_ble_eq_true rfl⟩) hC hS hA  ⟨hTi, hN1.ia hC.2.1.2⟩ rfl rfl hl.1 (Nat.le_of_ble_eq_true rfl) ⟨Nat.le_trans (show (0 + 1) ≤ 1 by omega) (Nat.le_of_ble_eq_true rfl), Nat.le_trans (show (0 + 1) ≤ 1 by omega) (Nat.le_of_ble_eq_true rfl)⟩ dX4_last__45 (fun r_22 hr_22 => ?_)
          have h7 : lstR (fun k9 => stL false (X i) [codeT.getD j 0] k9) r_22 := hr_22
          exact q_i hx hb hr hlocks dX4_last__48 hS (by omega) (by omega) (Or.inr (Or.inr (⟨i, j, hi, rfl, hj, rfl, lstR_cg (fun k9 => stL_one) h7, ra, pa, tx, hW⟩)))
        · exact absurd c_19 (by decide)
      · refine qI_V (A := A) (A1 := A) (b := am) (As := [.int (bI true), .int (nI 2)]) (rest := []) ⟨hx, hb, hml, hown, hts⟩ (mX4_refuse (A := A) (X := X) (P := P) (k := k) (xa := xa) (b := true) (th := 0) (w9 := 2) (by decide) (by decide)) (cwV 2 hts (gV tw_4_210 tw_4_212 sel_X4_refuse tw_1_8 tw_4_213) rfl rfl rfl (by decide +kernel) ⟨Nat.le_of_ble_eq_true rfl, Nat.le_of_ble_eq_true rfl⟩) hC hS (fun _ h => h) (fun q h => hA q (Nat.le_trans hS.1 h)) (hW.recv hK) ⟨ra, pa, tx, hW⟩ rfl rfl hl.1 (Nat.le_of_ble_eq_true rfl) ⟨Nat.zero_le _, Nat.zero_le _⟩ dX4_last__18 (fun rv23 H23 L23 hP23 hk23 hS => ?_)
        have hZ23 := hS.1
        obtain ⟨hr23, hM23⟩ := hP23
        subst hr23
        obtain ⟨ra, pa, tx, hW⟩ := hM23
        have hW : MWx G A am xa ra pa tx X P k (nI 2) H23 := hW
        have hO := hW.obj
        have hAm := hW.1
        refine f_eq (tgt := 28) hx hb dX4_last__21 (by decide) (fun c_24 => ?_) (fun c_24 => ?_)
        · exact absurd c_24 (by decide)
        · refine lv_iconst (v := nI 0) hx hb dX4_last__24 (by decide) ?_
          refine lv_goto (tgt := 48) hx hb dX4_last__25 (by decide) ?_
          exact q_i hx hb hr hlocks dX4_last__48 hS (by omega) (by omega) (Or.inr (Or.inl ⟨⟨⟨i, hi, rfl⟩, (hr_17v.mp rfl)⟩, rfl, ra, pa, tx, hW⟩))
  · refine qI_V (A := A) (A1 := A) (b := am) (As := [.int (bI true), .int (nI 1)]) (rest := []) ⟨hx, hb, hml, hown, hts⟩ (mX4_start (A := A) (X := X) (P := P) (k := k) (xa := xa) (b := true) (w9 := 1) (by decide)) (cwV 2 hts (gV tw_4_206 tw_4_208 sel_X4_start tw_1_8 tw_4_209) rfl rfl rfl (by decide +kernel) ⟨Nat.le_of_ble_eq_true rfl, Nat.le_of_ble_eq_true rfl⟩) hC hS (fun _ h => h) (fun q h => hA q (Nat.le_trans hS.1 h)) (hW.recv hK) ⟨ra, pa, tx, hW⟩ rfl rfl hl.1 (Nat.le_of_ble_eq_true rfl) ⟨Nat.zero_le _, Nat.zero_le _⟩ dX4_last__6 (fun rv25 H25 L25 hP25 hk25 hS => ?_)
    have hZ25 := hS.1
    obtain ⟨hr25, hM25⟩ := hP25
    subst hr25
    obtain ⟨ra, pa, tx, hW⟩ := hM25
    have hW : MWx G A am xa ra pa tx X P k (nI 1) H25 := hW
    have hO := hW.obj
    have hAm := hW.1
    refine f_ne (tgt := 24) hx hb dX4_last__9 (by decide) (fun c_26 => ?_) (fun c_26 => ?_)
    · refine lv_iconst (v := nI 0) hx hb dX4_last__24 (by decide) ?_
      refine lv_goto (tgt := 48) hx hb dX4_last__25 (by decide) ?_
      exact q_i hx hb hr hlocks dX4_last__48 hS (by omega) (by omega) (Or.inl ⟨(hr_14v.mp rfl), rfl, ra, pa, tx, hW⟩)
    · exact absurd c_26 (by decide)

abbrev rmX4_next : Room := { frames := 3, cells := 0, slots := 0, locals := 64 }
theorem mX4_next {l : Launch} {G : Cx} {A : Nat → Prop} {am xa : Nat} {X : Nat → List Nat} {P : List (List Nat)} {k : Int32} {x f9 y th : Int32} : Met l yX4_next (.code yX4_next cX4_next 5 (some .int) :: GW) rmX4_next (PC G A [.ref am, .int x, .int f9, .int y] (MW G A am xa X P k th)) (qI A (fun r H => ((NT x ∨ ¬ (∃ i a9 : Nat, i < 4 ∧ x = nI i ∧ f9 = nI a9 ∧ a9 ≤ (X i).length)) ∧ r = 0 ∧ MW G A am xa X P k 1 H) ∨ (((∃ i a9 : Nat, i < 4 ∧ x = nI i ∧ f9 = nI a9 ∧ a9 ≤ (X i).length) ∧ NS y) ∧ r = 0 ∧ MW G A am xa X P k 2 H) ∨ ∃ i a9 j : Nat, i < 4 ∧ x = nI i ∧ a9 ≤ (X i).length ∧ f9 = nI a9 ∧ j < 24 ∧ y = nI j ∧ fstR (fun k9 => a9 ≤ k9 ∧ k9 < (X i).length ∧ (X i).getD k9 0 = codeT.getD j 0) r ∧ MW G A am xa X P k 0 H)) 0 0 (A) := by
  refine mstart "SigntextModel" (by decide +kernel) rfl (Nat.le_of_ble_eq_true rfl) ?_
  intro p e s m below meth c ls hx hb hr hts hown hml hlocks hname hC hA hW hl
  have hl : lv_has ls 5 [(0, .ref am), (1, .int x), (2, .int f9), (3, .int y)] := hl
  have hK := hC.1
  have hS : va_S A s.heap s.heap [] := va_S.rf
  obtain ⟨ra, pa, tx, hW⟩ := hW
  have hO := hW.obj
  have hAm := hW.1
  obtain ⟨-, -, zc3, zc4, zc5, zc6, zc7, -⟩ := hC.2.2.1
  obtain ⟨QQ, hQQ⟩ : ∃ Q9 : State → Prop, Q9 = (MQ below (qI A (fun r H => ((NT x ∨ ¬ (∃ i a9 : Nat, i < 4 ∧ x = nI i ∧ f9 = nI a9 ∧ a9 ≤ (X i).length)) ∧ r = 0 ∧ MW G A am xa X P k 1 H) ∨ (((∃ i a9 : Nat, i < 4 ∧ x = nI i ∧ f9 = nI a9 ∧ a9 ≤ (X i).length) ∧ NS y) ∧ r = 0 ∧ MW G A am xa X P k 2 H) ∨ ∃ i a9 j : Nat, i < 4 ∧ x = nI i ∧ a9 ≤ (X i).length ∧ f9 = nI a9 ∧ j < 24 ∧ y = nI j ∧ fstR (fun k9 => a9 ≤ k9 ∧ k9 < (X i).length ∧ (X i).getD k9 0 = codeT.getD j 0) r ∧ MW G A am xa X P k 0 H)) [.ref am, .int x, .int f9, .int y].toArray s 0 0 (A)) := ⟨_, rfl⟩
  rw [← hQQ]
  refine lv_aload_n hx hb dX4_next_0 rfl (lv_at hl 0 rfl) ?_
  refine lv_iload_n hx hb dX4_next_1 rfl (lv_at hl 1 rfl) ?_
  refine kS_i (A := A) (As := [.int x]) (rest := .ref am :: []) ⟨hx, hb, hml, hown, hts⟩ (mX4_isNone (A := A) ) (va_cwS 1 hts (gS tw_4_203 tw_4_204 tw_1_8 tw_4_205) rfl rfl rfl (by decide +kernel) ⟨Nat.le_of_ble_eq_true rfl, Nat.le_of_ble_eq_true rfl⟩) hC hS hA  trivial rfl rfl hl.1 (Nat.le_of_ble_eq_true rfl) ⟨Nat.zero_le _, Nat.zero_le _⟩ dX4_next_2 (fun r_27 hr_27 => ?_)
  obtain ⟨r_27v, hr_27v, rfl⟩ := hr_27
  refine lv_iconst (v := nI 1) hx hb dX4_next_5 (by decide) ?_
  cases r_27v
  · obtain ⟨i, hi, rfl⟩ : ∃ i : Nat, i < 4 ∧ x = nI i := Classical.byContradiction (fun q => Bool.noConfusion (hr_27v.mpr q))
    refine qI_V (A := A) (A1 := A) (b := am) (As := [.int (bI false), .int (nI 1)]) (rest := []) ⟨hx, hb, hml, hown, hts⟩ (mX4_start (A := A) (X := X) (P := P) (k := k) (xa := xa) (b := false) (w9 := 1) (by decide)) (cwV 2 hts (gV tw_4_206 tw_4_208 sel_X4_start tw_1_8 tw_4_209) rfl rfl rfl (by decide +kernel) ⟨Nat.le_of_ble_eq_true rfl, Nat.le_of_ble_eq_true rfl⟩) hC hS (fun _ h => h) (fun q h => hA q (Nat.le_trans hS.1 h)) (hW.recv hK) ⟨ra, pa, tx, hW⟩ rfl rfl hl.1 (Nat.le_of_ble_eq_true rfl) ⟨Nat.zero_le _, Nat.zero_le _⟩ dX4_next_6 (fun rv28 H28 L28 hP28 hk28 hS => ?_)
    have hZ28 := hS.1
    obtain ⟨hr28, hM28⟩ := hP28
    subst hr28
    obtain ⟨ra, pa, tx, hW⟩ := hM28
    have hW : MWx G A am xa ra pa tx X P k (nI 0) H28 := hW
    have hO := hW.obj
    have hAm := hW.1
    refine f_ne (tgt := 52) hx hb dX4_next_9 (by decide) (fun c_29 => ?_) (fun c_29 => ?_)
    · exact absurd c_29 (by decide)
    · refine lv_aload_n hx hb dX4_next_12 rfl (lv_at hl 0 rfl) ?_
      refine lv_iload_n hx hb dX4_next_13 rfl (lv_at hl 2 rfl) ?_
      refine lv_iconst (v := nI 0) hx hb dX4_next_14 (by decide) ?_
      refine lv_aload_n hx hb dX4_next_15 rfl (lv_at hl 0 rfl) ?_
      refine va_get (D := G.1) (ci := 8) (C := RX4) (T := TX4) (N := 5) hx hb hts inX4 hown hK (at_P hO) 0 rfl rfl 1 (by decide) (hts _ tw_4_173) (fun _ h9 => h9) rfl dX4_next_16 ?_
      refine lv_iload_n hx hb dX4_next_19 rfl (lv_at hl 1 rfl) ?_
      refine h_aaldI (D := G.1) hx hb hK 4 hW.txs rfl (vp_in_nI (n := i) (N := 4) (by omega) (by omega)) dX4_next_20 ?_
      refine v_cv (show va_rf _ = .ref (tx i) from by rw [nI_clamp (n := i) (by omega)]; rfl) ?_
      have hTi := (hW.tx (j := i) (by omega)).ia hC.2.1.2
      have x60i := hW.2.2.1 i (Or.inl (by omega))
      have i60 := x60i.2
      refine h_ilen hx hb hC.2.1 hTi dX4_next_21 ?_
      refine kS_i (A := A) (As := [.int f9, .int (nI 0), .int (nI ((X i).length))]) (rest := .ref am :: []) ⟨hx, hb, hml, hown, hts⟩ (mX4_isIn (A := A) ) (va_cwS 3 hts (gS tw_4_197 tw_4_198 tw_1_8 tw_4_199) rfl rfl rfl (by decide +kernel) ⟨Nat.le_of_ble_eq_true rfl, Nat.le_of_ble_eq_true rfl⟩) hC hS hA  trivial rfl rfl hl.1 (Nat.le_of_ble_eq_true rfl) ⟨Nat.zero_le _, Nat.zero_le _⟩ dX4_next_22 (fun r9 h9 => lv_cv h9 ?_)
      refine f_ne (tgt := 32) hx hb dX4_next_25 (by decide) (fun c_30 => ?_) (fun c_30 => ?_)
      · obtain ⟨a9, ha9, rfl⟩ := (rngI (n := (X i).length) (by omega)).mp (of_decide_eq_true c_30)
        refine lv_iconst (v := nI 0) hx hb dX4_next_32 (by decide) ?_
        refine lv_iconst (v := nI 1) hx hb dX4_next_33 (by decide) ?_
        refine qI_V (A := A) (A1 := A) (b := am) (As := [.int (bI false), .int (nI 1)]) (rest := []) ⟨hx, hb, hml, hown, hts⟩ (mX4_refuse (A := A) (X := X) (P := P) (k := k) (xa := xa) (b := false) (th := 0) (w9 := 1) (by decide) (by decide)) (cwV 2 hts (gV tw_4_210 tw_4_212 sel_X4_refuse tw_1_8 tw_4_213) rfl rfl rfl (by decide +kernel) ⟨Nat.le_of_ble_eq_true rfl, Nat.le_of_ble_eq_true rfl⟩) hC hS (fun _ h => h) (fun q h => hA q (Nat.le_trans hS.1 h)) (hW.recv hK) ⟨ra, pa, tx, hW⟩ rfl rfl hl.1 (Nat.le_of_ble_eq_true rfl) ⟨Nat.zero_le _, Nat.zero_le _⟩ dX4_next_34 (fun rv31 H31 L31 hP31 hk31 hS => ?_)
        have hZ31 := hS.1
        obtain ⟨hr31, hM31⟩ := hP31
        subst hr31
        obtain ⟨ra, pa, tx, hW⟩ := hM31
        have hW : MWx G A am xa ra pa tx X P k (nI 0) H31 := hW
        have hO := hW.obj
        have hAm := hW.1
        refine f_ne (tgt := 52) hx hb dX4_next_37 (by decide) (fun c_32 => ?_) (fun c_32 => ?_)
        · exact absurd c_32 (by decide)
        · refine lv_aload_n hx hb dX4_next_40 rfl (lv_at hl 0 rfl) ?_
          refine lv_iload_n hx hb dX4_next_41 rfl (lv_at hl 3 rfl) ?_
          refine kS_i (A := A) (As := [.int y]) (rest := .ref am :: []) ⟨hx, hb, hml, hown, hts⟩ (mX4_isNoSign (A := A) ) (va_cwS 1 hts (gS tw_4_192 tw_4_193 tw_1_8 tw_4_194) rfl rfl rfl (by decide +kernel) ⟨Nat.le_of_ble_eq_true rfl, Nat.le_of_ble_eq_true rfl⟩) hC hS hA  trivial rfl rfl hl.1 (Nat.le_of_ble_eq_true rfl) ⟨Nat.zero_le _, Nat.zero_le _⟩ dX4_next_42 (fun r_33 hr_33 => ?_)
          obtain ⟨r_33v, hr_33v, rfl⟩ := hr_33
          refine lv_iconst (v := nI 2) hx hb dX4_next_45 (by decide) ?_
          cases r_33v
          · obtain ⟨j, hj, rfl⟩ : ∃ j : Nat, j < 24 ∧ y = nI j := Classical.byContradiction (fun q => Bool.noConfusion (hr_33v.mpr q))
            refine qI_V (A := A) (A1 := A) (b := am) (As := [.int (bI false), .int (nI 2)]) (rest := []) ⟨hx, hb, hml, hown, hts⟩ (mX4_refuse (A := A) (X := X) (P := P) (k := k) (xa := xa) (b := false) (th := 0) (w9 := 2) (by decide) (by decide)) (cwV 2 hts (gV tw_4_210 tw_4_212 sel_X4_refuse tw_1_8 tw_4_213) rfl rfl rfl (by decide +kernel) ⟨Nat.le_of_ble_eq_true rfl, Nat.le_of_ble_eq_true rfl⟩) hC hS (fun _ h => h) (fun q h => hA q (Nat.le_trans hS.1 h)) (hW.recv hK) ⟨ra, pa, tx, hW⟩ rfl rfl hl.1 (Nat.le_of_ble_eq_true rfl) ⟨Nat.zero_le _, Nat.zero_le _⟩ dX4_next_46 (fun rv34 H34 L34 hP34 hk34 hS => ?_)
            have hZ34 := hS.1
            obtain ⟨hr34, hM34⟩ := hP34
            subst hr34
            obtain ⟨ra, pa, tx, hW⟩ := hM34
            have hW : MWx G A am xa ra pa tx X P k (nI 0) H34 := hW
            have hO := hW.obj
            have hAm := hW.1
            refine f_eq (tgt := 54) hx hb dX4_next_49 (by decide) (fun c_35 => ?_) (fun c_35 => ?_)
            · refine lv_iload_n hx hb dX4_next_54 rfl (lv_at hl 2 rfl) ?_
              refine lv_istore (lv' := [(4, .int (nI a9)), (0, .ref am), (1, .int (nI i)), (2, .int (nI a9)), (3, .int (nI j))]) hx hb dX4_next_55 hl (by decide) rfl (fun ls hl => ?_)
              refine nloop (P := fun j9 => ∀ (ls : Array Slot) , lv_has ls 5 [(4, .int (nI j9)), (0, .ref am), (1, .int (nI i)), (2, .int (nI a9)), (3, .int (nI j))] → a9 ≤ j9 → (∀ q : Nat, a9 ≤ q → q < j9 → (X i).getD q 0 ≠ codeT.getD j 0) → W p l e rmX4_next s m [.ref am, .int (nI i), .int (nI a9), .int (nI j)].toArray below meth c H34 L34 0 0 QQ (F0 m 57 ls [])) ((X i).length) ?_ a9 ha9 ls  hl (Nat.le_refl _) (fun q h1 h2 => absurd h2 (by omega))
              clear hl
              intro j9 hj9 ih ls  hl
              intro haj hg
              have hO := hW.obj
              have hAm := hW.1
              refine lv_iload hx hb dX4_next_57 (lv_at hl 0 rfl) ?_
              refine lv_aload_n hx hb dX4_next_59 rfl (lv_at hl 1 rfl) ?_
              refine va_get (D := G.1) (ci := 8) (C := RX4) (T := TX4) (N := 5) hx hb hts inX4 hown hK (at_P hO) 0 rfl rfl 1 (by decide) (hts _ tw_4_173) (fun _ h9 => h9) rfl dX4_next_60 ?_
              refine lv_iload_n hx hb dX4_next_63 rfl (lv_at hl 2 rfl) ?_
              refine h_aaldI (D := G.1) hx hb hK 4 hW.txs rfl (vp_in_nI (n := i) (N := 4) (by omega) (by omega)) dX4_next_64 ?_
              refine v_cv (show va_rf _ = .ref (tx i) from by rw [nI_clamp (n := i) (by omega)]; rfl) ?_
              have hTi := (hW.tx (j := i) (by omega)).ia hC.2.1.2
              have x60i := hW.2.2.1 i (Or.inl (by omega))
              have i60 := x60i.2
              refine h_ilen hx hb hC.2.1 hTi dX4_next_65 ?_
              refine b_ge (tgt := 95) hx hb dX4_next_66 (by decide) (by omega) (by omega) (fun c_36 => ?_) (fun c_36 => ?_)
              · refine lv_iconst (v := (-1)) hx hb dX4_next_95 (by decide) ?_
                subst hQQ
                exact q_i hx hb hr hlocks dX4_next_96 hS (Nat.le_refl _) (Nat.le_refl _) (Or.inr (Or.inr (⟨i, a9, j, hi, rfl, ha9, rfl, hj, rfl, Or.inr ⟨fun q h9 => hg q h9.1 (by have := h9.2.1; omega) h9.2.2, rfl⟩, ra, pa, tx, hW⟩)))
              · refine lv_aload_n hx hb dX4_next_69 rfl (lv_at hl 1 rfl) ?_
                refine va_get (D := G.1) (ci := 8) (C := RX4) (T := TX4) (N := 5) hx hb hts inX4 hown hK (at_P hO) 0 rfl rfl 1 (by decide) (hts _ tw_4_173) (fun _ h9 => h9) rfl dX4_next_70 ?_
                refine lv_iload_n hx hb dX4_next_73 rfl (lv_at hl 2 rfl) ?_
                refine h_aaldI (D := G.1) hx hb hK 4 hW.txs rfl (vp_in_nI (n := i) (N := 4) (by omega) (by omega)) dX4_next_74 ?_
                refine v_cv (show va_rf _ = .ref (tx i) from by rw [nI_clamp (n := i) (by omega)]; rfl) ?_
                have hTi := (hW.tx (j := i) (by omega)).ia hC.2.1.2
                have x60i := hW.2.2.1 i (Or.inl (by omega))
                refine lv_iload hx hb dX4_next_75 (lv_at hl 0 rfl) ?_
                refine h_ild hx hb hC.2.1 hTi (i := j9) (by omega) (by omega) dX4_next_77 ?_
                refine va_gets (v := .ref (G.2.2 1)) hx hb zc3 hS hown (hts _ tw_4_195) (fun _ h9 => h9) dX4_next_78 ?_
                refine lv_iload_n hx hb dX4_next_81 rfl (lv_at hl 4 rfl) ?_
                refine va_ti (v := .int (nI (codeT.getD j 0))) hx hb zc4 hS (vp_in_nI (n := j) (N := 24) (by omega) (by omega)) (by rw [nI_clamp (n := j) (by omega)]) dX4_next_82 ?_
                have ok1 := x60i.1 j9
                have ok2 := codeT_lt j
                refine b_ne (tgt := 89) hx hb dX4_next_83 (by decide) (by omega) (by omega) (fun c_37 => ?_) (fun c_37 => ?_)
                · refine lv_iinc (v := nI (j9 + 1)) (lv' := [(4, .int (nI (j9 + 1))), (0, .ref am), (1, .int (nI i)), (2, .int (nI a9)), (3, .int (nI j))]) hx hb dX4_next_89 hl (k := 0) rfl (nI_add j9 1) (by decide) rfl (fun ls hl => ?_)
                  refine lv_goto (tgt := 57) hx hb dX4_next_92 (by decide) ?_
                  exact ih (j9 + 1) (by omega) (by omega) ls (lv_sub hl [0, 1, 2, 3, 4] rfl) (by omega) (fun q h1 h2 => by rcases Nat.lt_succ_iff_lt_or_eq.mp h2 with e | e; exact hg q h1 e; rw [e]; exact c_37)
                · refine lv_iload hx hb dX4_next_86 (lv_at hl 0 rfl) ?_
                  subst hQQ
                  exact q_i hx hb hr hlocks dX4_next_88 hS (Nat.le_refl _) (Nat.le_refl _) (Or.inr (Or.inr (⟨i, a9, j, hi, rfl, ha9, rfl, hj, rfl, Or.inl ⟨j9, ⟨haj, c_36, c_37⟩, fun q h1 h2 => hg q h2.1 h1 h2.2.2, rfl⟩, ra, pa, tx, hW⟩)))
            · exact absurd c_35 (by decide)
          · refine qI_V (A := A) (A1 := A) (b := am) (As := [.int (bI true), .int (nI 2)]) (rest := []) ⟨hx, hb, hml, hown, hts⟩ (mX4_refuse (A := A) (X := X) (P := P) (k := k) (xa := xa) (b := true) (th := 0) (w9 := 2) (by decide) (by decide)) (cwV 2 hts (gV tw_4_210 tw_4_212 sel_X4_refuse tw_1_8 tw_4_213) rfl rfl rfl (by decide +kernel) ⟨Nat.le_of_ble_eq_true rfl, Nat.le_of_ble_eq_true rfl⟩) hC hS (fun _ h => h) (fun q h => hA q (Nat.le_trans hS.1 h)) (hW.recv hK) ⟨ra, pa, tx, hW⟩ rfl rfl hl.1 (Nat.le_of_ble_eq_true rfl) ⟨Nat.zero_le _, Nat.zero_le _⟩ dX4_next_46 (fun rv38 H38 L38 hP38 hk38 hS => ?_)
            have hZ38 := hS.1
            obtain ⟨hr38, hM38⟩ := hP38
            subst hr38
            obtain ⟨ra, pa, tx, hW⟩ := hM38
            have hW : MWx G A am xa ra pa tx X P k (nI 2) H38 := hW
            have hO := hW.obj
            have hAm := hW.1
            refine f_eq (tgt := 54) hx hb dX4_next_49 (by decide) (fun c_39 => ?_) (fun c_39 => ?_)
            · exact absurd c_39 (by decide)
            · refine lv_iconst (v := nI 0) hx hb dX4_next_52 (by decide) ?_
              subst hQQ
              exact q_i hx hb hr hlocks dX4_next_53 hS (Nat.le_refl _) (Nat.le_refl _) (Or.inr (Or.inl ⟨⟨⟨i, a9, hi, rfl, rfl, ha9⟩, (hr_33v.mp rfl)⟩, rfl, ra, pa, tx, hW⟩))
      · refine lv_iconst (v := nI 1) hx hb dX4_next_28 (by decide) ?_
        refine lv_goto (tgt := 33) hx hb dX4_next_29 (by decide) ?_
        refine lv_iconst (v := nI 1) hx hb dX4_next_33 (by decide) ?_
        refine qI_V (A := A) (A1 := A) (b := am) (As := [.int (bI true), .int (nI 1)]) (rest := []) ⟨hx, hb, hml, hown, hts⟩ (mX4_refuse (A := A) (X := X) (P := P) (k := k) (xa := xa) (b := true) (th := 0) (w9 := 1) (by decide) (by decide)) (cwV 2 hts (gV tw_4_210 tw_4_212 sel_X4_refuse tw_1_8 tw_4_213) rfl rfl rfl (by decide +kernel) ⟨Nat.le_of_ble_eq_true rfl, Nat.le_of_ble_eq_true rfl⟩) hC hS (fun _ h => h) (fun q h => hA q (Nat.le_trans hS.1 h)) (hW.recv hK) ⟨ra, pa, tx, hW⟩ rfl rfl hl.1 (Nat.le_of_ble_eq_true rfl) ⟨Nat.zero_le _, Nat.zero_le _⟩ dX4_next_34 (fun rv40 H40 L40 hP40 hk40 hS => ?_)
        have hZ40 := hS.1
        obtain ⟨hr40, hM40⟩ := hP40
        subst hr40
        obtain ⟨ra, pa, tx, hW⟩ := hM40
        have hW : MWx G A am xa ra pa tx X P k (nI 1) H40 := hW
        have hO := hW.obj
        have hAm := hW.1
        refine f_ne (tgt := 52) hx hb dX4_next_37 (by decide) (fun c_41 => ?_) (fun c_41 => ?_)
        · refine lv_iconst (v := nI 0) hx hb dX4_next_52 (by decide) ?_
          subst hQQ
          exact q_i hx hb hr hlocks dX4_next_53 hS (Nat.le_refl _) (Nat.le_refl _) (Or.inl ⟨(Or.inr (fun ⟨i9, a0, w1, w2, w3, w4⟩ => (fun q => absurd ((rngI (n := (X i).length) (by omega)).mpr q) (of_decide_eq_false c_30)) ⟨a0, by have w7 : i9 = i := (nI_eq (by omega) (by omega)).mp w2.symm; rw [w7] at w4; exact w4, w3⟩)), rfl, ra, pa, tx, hW⟩)
        · exact absurd c_41 (by decide)
  · refine qI_V (A := A) (A1 := A) (b := am) (As := [.int (bI true), .int (nI 1)]) (rest := []) ⟨hx, hb, hml, hown, hts⟩ (mX4_start (A := A) (X := X) (P := P) (k := k) (xa := xa) (b := true) (w9 := 1) (by decide)) (cwV 2 hts (gV tw_4_206 tw_4_208 sel_X4_start tw_1_8 tw_4_209) rfl rfl rfl (by decide +kernel) ⟨Nat.le_of_ble_eq_true rfl, Nat.le_of_ble_eq_true rfl⟩) hC hS (fun _ h => h) (fun q h => hA q (Nat.le_trans hS.1 h)) (hW.recv hK) ⟨ra, pa, tx, hW⟩ rfl rfl hl.1 (Nat.le_of_ble_eq_true rfl) ⟨Nat.zero_le _, Nat.zero_le _⟩ dX4_next_6 (fun rv42 H42 L42 hP42 hk42 hS => ?_)
    have hZ42 := hS.1
    obtain ⟨hr42, hM42⟩ := hP42
    subst hr42
    obtain ⟨ra, pa, tx, hW⟩ := hM42
    have hW : MWx G A am xa ra pa tx X P k (nI 1) H42 := hW
    have hO := hW.obj
    have hAm := hW.1
    refine f_ne (tgt := 52) hx hb dX4_next_9 (by decide) (fun c_43 => ?_) (fun c_43 => ?_)
    · refine lv_iconst (v := nI 0) hx hb dX4_next_52 (by decide) ?_
      subst hQQ
      exact q_i hx hb hr hlocks dX4_next_53 hS (Nat.le_refl _) (Nat.le_refl _) (Or.inl ⟨(Or.inl (hr_27v.mp rfl)), rfl, ra, pa, tx, hW⟩)
    · exact absurd c_43 (by decide)

abbrev rmX4_begins : Room := { frames := 3, cells := 0, slots := 0, locals := 64 }
theorem mX4_begins {l : Launch} {G : Cx} {A : Nat → Prop} {am xa : Nat} {X : Nat → List Nat} {P : List (List Nat)} {k : Int32} {x y th : Int32} {b : Bool} : Met l yX4_begins (.code yX4_begins cX4_begins 4 (some .boolean) :: GW) rmX4_begins (PC G A [.ref am, .int x, .int y, .int (bI b)] (MW G A am xa X P k th)) (qI A (fun r H => ((NT x) ∧ r = 0 ∧ MW G A am xa X P k 1 H) ∨ (((∃ i : Nat, i < 4 ∧ x = nI i) ∧ NK y) ∧ r = 0 ∧ MW G A am xa X P k 2 H) ∨ ∃ (i j : Nat) (v : Bool), i < 4 ∧ x = nI i ∧ j < 7 ∧ y = nI j ∧ (v = true ↔ if b then (knT j).length ≤ (X i).length ∧ stL false (X i) (knT j) ((X i).length - (knT j).length) else stL false (X i) (knT j) 0) ∧ r = bI v ∧ MW G A am xa X P k 0 H)) 0 0 (A) := by
  refine mstart "SigntextModel" (by decide +kernel) rfl (Nat.le_of_ble_eq_true rfl) ?_
  intro p e s m below meth c ls hx hb hr hts hown hml hlocks hname hC hA hW hl
  have hl : lv_has ls 4 [(0, .ref am), (1, .int x), (2, .int y), (3, .int (bI b))] := hl
  have hK := hC.1
  have hS : va_S A s.heap s.heap [] := va_S.rf
  obtain ⟨ra, pa, tx, hW⟩ := hW
  have hO := hW.obj
  have hAm := hW.1
  obtain ⟨-, -, zc3, zc4, zc5, zc6, zc7, -⟩ := hC.2.2.1
  refine lv_aload_n hx hb dX4_begins_0 rfl (lv_at hl 0 rfl) ?_
  refine lv_iload_n hx hb dX4_begins_1 rfl (lv_at hl 1 rfl) ?_
  refine kS_i (A := A) (As := [.int x]) (rest := .ref am :: []) ⟨hx, hb, hml, hown, hts⟩ (mX4_isNone (A := A) ) (va_cwS 1 hts (gS tw_4_203 tw_4_204 tw_1_8 tw_4_205) rfl rfl rfl (by decide +kernel) ⟨Nat.le_of_ble_eq_true rfl, Nat.le_of_ble_eq_true rfl⟩) hC hS hA  trivial rfl rfl hl.1 (Nat.le_of_ble_eq_true rfl) ⟨Nat.zero_le _, Nat.zero_le _⟩ dX4_begins_2 (fun r_44 hr_44 => ?_)
  obtain ⟨r_44v, hr_44v, rfl⟩ := hr_44
  refine lv_iconst (v := nI 1) hx hb dX4_begins_5 (by decide) ?_
  cases r_44v
  · obtain ⟨i, hi, rfl⟩ : ∃ i : Nat, i < 4 ∧ x = nI i := Classical.byContradiction (fun q => Bool.noConfusion (hr_44v.mpr q))
    refine qI_V (A := A) (A1 := A) (b := am) (As := [.int (bI false), .int (nI 1)]) (rest := []) ⟨hx, hb, hml, hown, hts⟩ (mX4_start (A := A) (X := X) (P := P) (k := k) (xa := xa) (b := false) (w9 := 1) (by decide)) (cwV 2 hts (gV tw_4_206 tw_4_208 sel_X4_start tw_1_8 tw_4_209) rfl rfl rfl (by decide +kernel) ⟨Nat.le_of_ble_eq_true rfl, Nat.le_of_ble_eq_true rfl⟩) hC hS (fun _ h => h) (fun q h => hA q (Nat.le_trans hS.1 h)) (hW.recv hK) ⟨ra, pa, tx, hW⟩ rfl rfl hl.1 (Nat.le_of_ble_eq_true rfl) ⟨Nat.zero_le _, Nat.zero_le _⟩ dX4_begins_6 (fun rv45 H45 L45 hP45 hk45 hS => ?_)
    have hZ45 := hS.1
    obtain ⟨hr45, hM45⟩ := hP45
    subst hr45
    obtain ⟨ra, pa, tx, hW⟩ := hM45
    have hW : MWx G A am xa ra pa tx X P k (nI 0) H45 := hW
    have hO := hW.obj
    have hAm := hW.1
    refine f_ne (tgt := 24) hx hb dX4_begins_9 (by decide) (fun c_46 => ?_) (fun c_46 => ?_)
    · exact absurd c_46 (by decide)
    · refine lv_aload_n hx hb dX4_begins_12 rfl (lv_at hl 0 rfl) ?_
      refine lv_iload_n hx hb dX4_begins_13 rfl (lv_at hl 2 rfl) ?_
      refine kS_i (A := A) (As := [.int y]) (rest := .ref am :: []) ⟨hx, hb, hml, hown, hts⟩ (mX4_isNoKnown (A := A) ) (va_cwS 1 hts (gS tw_5_53 tw_5_54 tw_1_8 tw_5_55) rfl rfl rfl (by decide +kernel) ⟨Nat.le_of_ble_eq_true rfl, Nat.le_of_ble_eq_true rfl⟩) hC hS hA  trivial rfl rfl hl.1 (Nat.le_of_ble_eq_true rfl) ⟨Nat.zero_le _, Nat.zero_le _⟩ dX4_begins_14 (fun r_47 hr_47 => ?_)
      obtain ⟨r_47v, hr_47v, rfl⟩ := hr_47
      refine lv_iconst (v := nI 2) hx hb dX4_begins_17 (by decide) ?_
      cases r_47v
      · obtain ⟨j, hj, rfl⟩ : ∃ j : Nat, j < 7 ∧ y = nI j := Classical.byContradiction (fun q => Bool.noConfusion (hr_47v.mpr q))
        refine qI_V (A := A) (A1 := A) (b := am) (As := [.int (bI false), .int (nI 2)]) (rest := []) ⟨hx, hb, hml, hown, hts⟩ (mX4_refuse (A := A) (X := X) (P := P) (k := k) (xa := xa) (b := false) (th := 0) (w9 := 2) (by decide) (by decide)) (cwV 2 hts (gV tw_4_210 tw_4_212 sel_X4_refuse tw_1_8 tw_4_213) rfl rfl rfl (by decide +kernel) ⟨Nat.le_of_ble_eq_true rfl, Nat.le_of_ble_eq_true rfl⟩) hC hS (fun _ h => h) (fun q h => hA q (Nat.le_trans hS.1 h)) (hW.recv hK) ⟨ra, pa, tx, hW⟩ rfl rfl hl.1 (Nat.le_of_ble_eq_true rfl) ⟨Nat.zero_le _, Nat.zero_le _⟩ dX4_begins_18 (fun rv48 H48 L48 hP48 hk48 hS => ?_)
        have hZ48 := hS.1
        obtain ⟨hr48, hM48⟩ := hP48
        subst hr48
        obtain ⟨ra, pa, tx, hW⟩ := hM48
        have hW : MWx G A am xa ra pa tx X P k (nI 0) H48 := hW
        have hO := hW.obj
        have hAm := hW.1
        refine f_eq (tgt := 26) hx hb dX4_begins_21 (by decide) (fun c_49 => ?_) (fun c_49 => ?_)
        · refine lv_aload_n hx hb dX4_begins_26 rfl (lv_at hl 0 rfl) ?_
          refine va_get (D := G.1) (ci := 8) (C := RX4) (T := TX4) (N := 5) hx hb hts inX4 hown hK (at_P hO) 0 rfl rfl 1 (by decide) (hts _ tw_4_173) (fun _ h9 => h9) rfl dX4_begins_27 ?_
          refine lv_iload_n hx hb dX4_begins_30 rfl (lv_at hl 1 rfl) ?_
          refine h_aaldI (D := G.1) hx hb hK 4 hW.txs rfl (vp_in_nI (n := i) (N := 4) (by omega) (by omega)) dX4_begins_31 ?_
          refine v_cv (show va_rf _ = .ref (tx i) from by rw [nI_clamp (n := i) (by omega)]; rfl) ?_
          refine lv_iload_n hx hb dX4_begins_32 rfl (lv_at hl 3 rfl) ?_
          refine f_eq (tgt := 53) hx hb dX4_begins_33 (by decide) (fun c_50 => ?_) (fun c_50 => ?_)
          · subst c_50
            refine lv_iconst (v := nI 0) hx hb dX4_begins_53 (by decide) ?_
            refine va_gets (v := .ref (G.2.2 2)) hx hb zc5 hS hown (hts _ tw_5_56) (fun _ h9 => h9) dX4_begins_54 ?_
            refine lv_iload_n hx hb dX4_begins_57 rfl (lv_at hl 2 rfl) ?_
            refine h_aaTI (v := .ref (G.2.2 (3 + j))) hx hb zc6 hS (vp_in_nI (n := j) (N := 7) (by omega) (by omega)) (by rw [nI_clamp (n := j) (by omega)]) dX4_begins_58 ?_
            refine lv_iconst (v := nI 0) hx hb dX4_begins_59 (by decide) ?_
            have hTi := (hW.tx (j := i) (by omega)).ia hC.2.1.2
            have x60i := hW.2.2.1 i (Or.inl (by omega))
            have hKnj := (zc7 j hj).1.at' (hS.2.1 _ (zc7 j hj).1.lt (zc7 j hj).2)
            have k4j := knT_le (i := j) hj
            have i60 := x60i.2
            refine kS_i (A := A) (As := [.ref (tx i), .int (nI 0), .ref (G.2.2 (3 + j)), .int (bI false)]) (rest := []) ⟨hx, hb, hml, hown, hts⟩ (mX4_stands (A := A) (t := X i) (u := knT j) (i := 0) (b0 := false) x60i.1 k4j.2 (by omega) (by omega) (by omega)) (va_cwS 4 hts (gS tw_6_175 tw_6_176 tw_1_8 tw_6_177) rfl rfl rfl (by decide +kernel) ⟨Nat.le_of_ble_eq_true rfl, Nat.le_of_ble_eq_true rfl⟩) hC hS hA  ⟨hTi, hKnj⟩ rfl rfl hl.1 (Nat.le_of_ble_eq_true rfl) ⟨Nat.zero_le _, Nat.zero_le _⟩ dX4_begins_60 (fun r_51 hr_51 => ?_)
            obtain ⟨v9, hv9, rfl⟩ := hr_51
            exact q_z (b9 := v9) hx hb hr hlocks dX4_begins_63 hS (Nat.le_refl _) (Nat.le_refl _) (Or.inr (Or.inr (⟨i, j, v9, hi, rfl, hj, rfl, by rw [if_neg (by decide)]; exact hv9, rfl, ra, pa, tx, hW⟩)))
          · subst c_50
            refine lv_aload_n hx hb dX4_begins_36 rfl (lv_at hl 0 rfl) ?_
            refine va_get (D := G.1) (ci := 8) (C := RX4) (T := TX4) (N := 5) hx hb hts inX4 hown hK (at_P hO) 0 rfl rfl 1 (by decide) (hts _ tw_4_173) (fun _ h9 => h9) rfl dX4_begins_37 ?_
            refine lv_iload_n hx hb dX4_begins_40 rfl (lv_at hl 1 rfl) ?_
            refine h_aaldI (D := G.1) hx hb hK 4 hW.txs rfl (vp_in_nI (n := i) (N := 4) (by omega) (by omega)) dX4_begins_41 ?_
            refine v_cv (show va_rf _ = .ref (tx i) from by rw [nI_clamp (n := i) (by omega)]; rfl) ?_
            have hTi := (hW.tx (j := i) (by omega)).ia hC.2.1.2
            have x60i := hW.2.2.1 i (Or.inl (by omega))
            have hKnj := (zc7 j hj).1.at' (hS.2.1 _ (zc7 j hj).1.lt (zc7 j hj).2)
            have k4j := knT_le (i := j) hj
            have i60 := x60i.2
            refine h_ilen hx hb hC.2.1 hTi dX4_begins_42 ?_
            refine va_gets (v := .ref (G.2.2 2)) hx hb zc5 hS hown (hts _ tw_5_56) (fun _ h9 => h9) dX4_begins_43 ?_
            refine lv_iload_n hx hb dX4_begins_46 rfl (lv_at hl 2 rfl) ?_
            refine h_aaTI (v := .ref (G.2.2 (3 + j))) hx hb zc6 hS (vp_in_nI (n := j) (N := 7) (by omega) (by omega)) (by rw [nI_clamp (n := j) (by omega)]) dX4_begins_47 ?_
            refine h_ilen hx hb hC.2.1 hKnj dX4_begins_48 ?_
            rcases Nat.lt_or_ge (X i).length (knT j).length with q9 | q9
            · have hneg : nI (X i).length - nI (knT j).length < 0 := subI_neg (by omega) (by omega) q9
              refine lv_isub hx hb dX4_begins_49 ?_
              refine lv_goto (tgt := 54) hx hb dX4_begins_50 (by decide) ?_
              refine va_gets (v := .ref (G.2.2 2)) hx hb zc5 hS hown (hts _ tw_5_56) (fun _ h9 => h9) dX4_begins_54 ?_
              refine lv_iload_n hx hb dX4_begins_57 rfl (lv_at hl 2 rfl) ?_
              refine h_aaTI (v := .ref (G.2.2 (3 + j))) hx hb zc6 hS (vp_in_nI (n := j) (N := 7) (by omega) (by omega)) (by rw [nI_clamp (n := j) (by omega)]) dX4_begins_58 ?_
              refine lv_iconst (v := nI 0) hx hb dX4_begins_59 (by decide) ?_
              refine kS_i (A := A) (As := [.ref (tx i), .int (nI ((X i).length) - nI ((knT j).length)), .ref (G.2.2 (3 + j)), .int (bI false)]) (rest := []) ⟨hx, hb, hml, hown, hts⟩ (mX4_stands_n (A := A) (t := X i) (u := knT j) (x := nI (X i).length - nI (knT j).length) (b0 := false) x60i.1 k4j.2 (by omega) (by omega) hneg) (va_cwS 4 hts (gS tw_6_175 tw_6_176 tw_1_8 tw_6_177) rfl rfl rfl (by decide +kernel) ⟨Nat.le_of_ble_eq_true rfl, Nat.le_of_ble_eq_true rfl⟩) hC hS hA  ⟨hTi, hKnj⟩ rfl rfl hl.1 (Nat.le_of_ble_eq_true rfl) ⟨Nat.zero_le _, Nat.zero_le _⟩ dX4_begins_60 (fun r9 h9 => lv_cv h9 ?_)
              exact q_z (b9 := false) hx hb hr hlocks dX4_begins_63 hS (Nat.le_refl _) (Nat.le_refl _) (Or.inr (Or.inr (⟨i, j, false, hi, rfl, hj, rfl, by rw [if_pos rfl]; exact ⟨fun q => Bool.noConfusion q, fun q => absurd q.1 (by omega)⟩, rfl, ra, pa, tx, hW⟩)))
            · refine lv_isub hx hb dX4_begins_49 ?_
              refine lv_cv (pk_sub (a := (X i).length) (b := (knT j).length) (by omega)) ?_
              refine lv_goto (tgt := 54) hx hb dX4_begins_50 (by decide) ?_
              refine va_gets (v := .ref (G.2.2 2)) hx hb zc5 hS hown (hts _ tw_5_56) (fun _ h9 => h9) dX4_begins_54 ?_
              refine lv_iload_n hx hb dX4_begins_57 rfl (lv_at hl 2 rfl) ?_
              refine h_aaTI (v := .ref (G.2.2 (3 + j))) hx hb zc6 hS (vp_in_nI (n := j) (N := 7) (by omega) (by omega)) (by rw [nI_clamp (n := j) (by omega)]) dX4_begins_58 ?_
              refine lv_iconst (v := nI 0) hx hb dX4_begins_59 (by decide) ?_
              refine kS_i (A := A) (As := [.ref (tx i), .int (nI ((X i).length - ((knT j).length))), .ref (G.2.2 (3 + j)), .int (bI false)]) (rest := []) ⟨hx, hb, hml, hown, hts⟩ (mX4_stands (A := A) (t := X i) (u := knT j) (i := (X i).length - (knT j).length) (b0 := false) x60i.1 k4j.2 (by omega) (by omega) (by omega)) (va_cwS 4 hts (gS tw_6_175 tw_6_176 tw_1_8 tw_6_177) rfl rfl rfl (by decide +kernel) ⟨Nat.le_of_ble_eq_true rfl, Nat.le_of_ble_eq_true rfl⟩) hC hS hA  ⟨hTi, hKnj⟩ rfl rfl hl.1 (Nat.le_of_ble_eq_true rfl) ⟨Nat.zero_le _, Nat.zero_le _⟩ dX4_begins_60 (fun r_52 hr_52 => ?_)
              obtain ⟨v9, hv9, rfl⟩ := hr_52
              exact q_z (b9 := v9) hx hb hr hlocks dX4_begins_63 hS (Nat.le_refl _) (Nat.le_refl _) (Or.inr (Or.inr (⟨i, j, v9, hi, rfl, hj, rfl, by rw [if_pos rfl]; exact ⟨fun q => ⟨q9, hv9.mp q⟩, fun q => hv9.mpr q.2⟩, rfl, ra, pa, tx, hW⟩)))
        · exact absurd c_49 (by decide)
      · refine qI_V (A := A) (A1 := A) (b := am) (As := [.int (bI true), .int (nI 2)]) (rest := []) ⟨hx, hb, hml, hown, hts⟩ (mX4_refuse (A := A) (X := X) (P := P) (k := k) (xa := xa) (b := true) (th := 0) (w9 := 2) (by decide) (by decide)) (cwV 2 hts (gV tw_4_210 tw_4_212 sel_X4_refuse tw_1_8 tw_4_213) rfl rfl rfl (by decide +kernel) ⟨Nat.le_of_ble_eq_true rfl, Nat.le_of_ble_eq_true rfl⟩) hC hS (fun _ h => h) (fun q h => hA q (Nat.le_trans hS.1 h)) (hW.recv hK) ⟨ra, pa, tx, hW⟩ rfl rfl hl.1 (Nat.le_of_ble_eq_true rfl) ⟨Nat.zero_le _, Nat.zero_le _⟩ dX4_begins_18 (fun rv53 H53 L53 hP53 hk53 hS => ?_)
        have hZ53 := hS.1
        obtain ⟨hr53, hM53⟩ := hP53
        subst hr53
        obtain ⟨ra, pa, tx, hW⟩ := hM53
        have hW : MWx G A am xa ra pa tx X P k (nI 2) H53 := hW
        have hO := hW.obj
        have hAm := hW.1
        refine f_eq (tgt := 26) hx hb dX4_begins_21 (by decide) (fun c_54 => ?_) (fun c_54 => ?_)
        · exact absurd c_54 (by decide)
        · refine lv_iconst (v := nI 0) hx hb dX4_begins_24 (by decide) ?_
          exact q_z (b9 := false) hx hb hr hlocks dX4_begins_25 hS (Nat.le_refl _) (Nat.le_refl _) (Or.inr (Or.inl ⟨⟨⟨i, hi, rfl⟩, (hr_47v.mp rfl)⟩, rfl, ra, pa, tx, hW⟩))
  · refine qI_V (A := A) (A1 := A) (b := am) (As := [.int (bI true), .int (nI 1)]) (rest := []) ⟨hx, hb, hml, hown, hts⟩ (mX4_start (A := A) (X := X) (P := P) (k := k) (xa := xa) (b := true) (w9 := 1) (by decide)) (cwV 2 hts (gV tw_4_206 tw_4_208 sel_X4_start tw_1_8 tw_4_209) rfl rfl rfl (by decide +kernel) ⟨Nat.le_of_ble_eq_true rfl, Nat.le_of_ble_eq_true rfl⟩) hC hS (fun _ h => h) (fun q h => hA q (Nat.le_trans hS.1 h)) (hW.recv hK) ⟨ra, pa, tx, hW⟩ rfl rfl hl.1 (Nat.le_of_ble_eq_true rfl) ⟨Nat.zero_le _, Nat.zero_le _⟩ dX4_begins_6 (fun rv55 H55 L55 hP55 hk55 hS => ?_)
    have hZ55 := hS.1
    obtain ⟨hr55, hM55⟩ := hP55
    subst hr55
    obtain ⟨ra, pa, tx, hW⟩ := hM55
    have hW : MWx G A am xa ra pa tx X P k (nI 1) H55 := hW
    have hO := hW.obj
    have hAm := hW.1
    refine f_ne (tgt := 24) hx hb dX4_begins_9 (by decide) (fun c_56 => ?_) (fun c_56 => ?_)
    · refine lv_iconst (v := nI 0) hx hb dX4_begins_24 (by decide) ?_
      exact q_z (b9 := false) hx hb hr hlocks dX4_begins_25 hS (Nat.le_refl _) (Nat.le_refl _) (Or.inl ⟨(hr_44v.mp rfl), rfl, ra, pa, tx, hW⟩)
    · exact absurd c_56 (by decide)

abbrev rmX4_stands_ : Room := { frames := 3, cells := 0, slots := 0, locals := 64 }
theorem mX4_stands_ {l : Launch} {G : Cx} {A : Nat → Prop} {am xa : Nat} {X : Nat → List Nat} {P : List (List Nat)} {k : Int32} {x p9 y th : Int32} {b : Bool} : Met l yX4_stands_ (.code yX4_stands_ cX4_stands_ 5 (some .boolean) :: GW) rmX4_stands_ (PC G A [.ref am, .int x, .int p9, .int y, .int (bI b)] (MW G A am xa X P k th)) (qI A (fun r H => ((NT x) ∧ r = 0 ∧ MW G A am xa X P k 1 H) ∨ (((∃ i : Nat, i < 4 ∧ x = nI i) ∧ NK y) ∧ r = 0 ∧ MW G A am xa X P k 2 H) ∨ ∃ (i j : Nat) (v : Bool), i < 4 ∧ x = nI i ∧ j < 7 ∧ y = nI j ∧ (v = true ↔ ∃ a9 : Nat, a9 < 2 ^ 31 ∧ p9 = nI a9 ∧ stL b (X i) (knT j) a9) ∧ r = bI v ∧ MW G A am xa X P k 0 H)) 0 0 (A) := by
  refine mstart "SigntextModel" (by decide +kernel) rfl (Nat.le_of_ble_eq_true rfl) ?_
  intro p e s m below meth c ls hx hb hr hts hown hml hlocks hname hC hA hW hl
  have hl : lv_has ls 5 [(0, .ref am), (1, .int x), (2, .int p9), (3, .int y), (4, .int (bI b))] := hl
  have hK := hC.1
  have hS : va_S A s.heap s.heap [] := va_S.rf
  obtain ⟨ra, pa, tx, hW⟩ := hW
  have hO := hW.obj
  have hAm := hW.1
  obtain ⟨-, -, zc3, zc4, zc5, zc6, zc7, -⟩ := hC.2.2.1
  refine lv_aload_n hx hb dX4_stands__0 rfl (lv_at hl 0 rfl) ?_
  refine lv_iload_n hx hb dX4_stands__1 rfl (lv_at hl 1 rfl) ?_
  refine kS_i (A := A) (As := [.int x]) (rest := .ref am :: []) ⟨hx, hb, hml, hown, hts⟩ (mX4_isNone (A := A) ) (va_cwS 1 hts (gS tw_4_203 tw_4_204 tw_1_8 tw_4_205) rfl rfl rfl (by decide +kernel) ⟨Nat.le_of_ble_eq_true rfl, Nat.le_of_ble_eq_true rfl⟩) hC hS hA  trivial rfl rfl hl.1 (Nat.le_of_ble_eq_true rfl) ⟨Nat.zero_le _, Nat.zero_le _⟩ dX4_stands__2 (fun r_57 hr_57 => ?_)
  obtain ⟨r_57v, hr_57v, rfl⟩ := hr_57
  refine lv_iconst (v := nI 1) hx hb dX4_stands__5 (by decide) ?_
  cases r_57v
  · obtain ⟨i, hi, rfl⟩ : ∃ i : Nat, i < 4 ∧ x = nI i := Classical.byContradiction (fun q => Bool.noConfusion (hr_57v.mpr q))
    refine qI_V (A := A) (A1 := A) (b := am) (As := [.int (bI false), .int (nI 1)]) (rest := []) ⟨hx, hb, hml, hown, hts⟩ (mX4_start (A := A) (X := X) (P := P) (k := k) (xa := xa) (b := false) (w9 := 1) (by decide)) (cwV 2 hts (gV tw_4_206 tw_4_208 sel_X4_start tw_1_8 tw_4_209) rfl rfl rfl (by decide +kernel) ⟨Nat.le_of_ble_eq_true rfl, Nat.le_of_ble_eq_true rfl⟩) hC hS (fun _ h => h) (fun q h => hA q (Nat.le_trans hS.1 h)) (hW.recv hK) ⟨ra, pa, tx, hW⟩ rfl rfl hl.1 (Nat.le_of_ble_eq_true rfl) ⟨Nat.zero_le _, Nat.zero_le _⟩ dX4_stands__6 (fun rv58 H58 L58 hP58 hk58 hS => ?_)
    have hZ58 := hS.1
    obtain ⟨hr58, hM58⟩ := hP58
    subst hr58
    obtain ⟨ra, pa, tx, hW⟩ := hM58
    have hW : MWx G A am xa ra pa tx X P k (nI 0) H58 := hW
    have hO := hW.obj
    have hAm := hW.1
    refine f_ne (tgt := 48) hx hb dX4_stands__9 (by decide) (fun c_59 => ?_) (fun c_59 => ?_)
    · exact absurd c_59 (by decide)
    · refine lv_aload_n hx hb dX4_stands__12 rfl (lv_at hl 0 rfl) ?_
      refine lv_iload_n hx hb dX4_stands__13 rfl (lv_at hl 3 rfl) ?_
      refine kS_i (A := A) (As := [.int y]) (rest := .ref am :: []) ⟨hx, hb, hml, hown, hts⟩ (mX4_isNoKnown (A := A) ) (va_cwS 1 hts (gS tw_5_53 tw_5_54 tw_1_8 tw_5_55) rfl rfl rfl (by decide +kernel) ⟨Nat.le_of_ble_eq_true rfl, Nat.le_of_ble_eq_true rfl⟩) hC hS hA  trivial rfl rfl hl.1 (Nat.le_of_ble_eq_true rfl) ⟨Nat.zero_le _, Nat.zero_le _⟩ dX4_stands__14 (fun r_60 hr_60 => ?_)
      obtain ⟨r_60v, hr_60v, rfl⟩ := hr_60
      refine lv_iconst (v := nI 2) hx hb dX4_stands__17 (by decide) ?_
      cases r_60v
      · obtain ⟨j, hj, rfl⟩ : ∃ j : Nat, j < 7 ∧ y = nI j := Classical.byContradiction (fun q => Bool.noConfusion (hr_60v.mpr q))
        refine qI_V (A := A) (A1 := A) (b := am) (As := [.int (bI false), .int (nI 2)]) (rest := []) ⟨hx, hb, hml, hown, hts⟩ (mX4_refuse (A := A) (X := X) (P := P) (k := k) (xa := xa) (b := false) (th := 0) (w9 := 2) (by decide) (by decide)) (cwV 2 hts (gV tw_4_210 tw_4_212 sel_X4_refuse tw_1_8 tw_4_213) rfl rfl rfl (by decide +kernel) ⟨Nat.le_of_ble_eq_true rfl, Nat.le_of_ble_eq_true rfl⟩) hC hS (fun _ h => h) (fun q h => hA q (Nat.le_trans hS.1 h)) (hW.recv hK) ⟨ra, pa, tx, hW⟩ rfl rfl hl.1 (Nat.le_of_ble_eq_true rfl) ⟨Nat.zero_le _, Nat.zero_le _⟩ dX4_stands__18 (fun rv61 H61 L61 hP61 hk61 hS => ?_)
        have hZ61 := hS.1
        obtain ⟨hr61, hM61⟩ := hP61
        subst hr61
        obtain ⟨ra, pa, tx, hW⟩ := hM61
        have hW : MWx G A am xa ra pa tx X P k (nI 0) H61 := hW
        have hO := hW.obj
        have hAm := hW.1
        refine f_ne (tgt := 48) hx hb dX4_stands__21 (by decide) (fun c_62 => ?_) (fun c_62 => ?_)
        · exact absurd c_62 (by decide)
        · refine lv_aload_n hx hb dX4_stands__24 rfl (lv_at hl 0 rfl) ?_
          refine va_get (D := G.1) (ci := 8) (C := RX4) (T := TX4) (N := 5) hx hb hts inX4 hown hK (at_P hO) 0 rfl rfl 1 (by decide) (hts _ tw_4_173) (fun _ h9 => h9) rfl dX4_stands__25 ?_
          refine lv_iload_n hx hb dX4_stands__28 rfl (lv_at hl 1 rfl) ?_
          refine h_aaldI (D := G.1) hx hb hK 4 hW.txs rfl (vp_in_nI (n := i) (N := 4) (by omega) (by omega)) dX4_stands__29 ?_
          refine v_cv (show va_rf _ = .ref (tx i) from by rw [nI_clamp (n := i) (by omega)]; rfl) ?_
          refine lv_iload_n hx hb dX4_stands__30 rfl (lv_at hl 2 rfl) ?_
          refine va_gets (v := .ref (G.2.2 2)) hx hb zc5 hS hown (hts _ tw_5_56) (fun _ h9 => h9) dX4_stands__31 ?_
          refine lv_iload_n hx hb dX4_stands__34 rfl (lv_at hl 3 rfl) ?_
          refine h_aaTI (v := .ref (G.2.2 (3 + j))) hx hb zc6 hS (vp_in_nI (n := j) (N := 7) (by omega) (by omega)) (by rw [nI_clamp (n := j) (by omega)]) dX4_stands__35 ?_
          refine lv_iload hx hb dX4_stands__36 (lv_at hl 4 rfl) ?_
          have hTi := (hW.tx (j := i) (by omega)).ia hC.2.1.2
          have x60i := hW.2.2.1 i (Or.inl (by omega))
          have hKnj := (zc7 j hj).1.at' (hS.2.1 _ (zc7 j hj).1.lt (zc7 j hj).2)
          have k4j := knT_le (i := j) hj
          have i60 := x60i.2
          by_cases q9 : p9 < 0
          · have hneg := q9
            refine kS_i (A := A) (As := [.ref (tx i), .int p9, .ref (G.2.2 (3 + j)), .int (bI b)]) (rest := []) ⟨hx, hb, hml, hown, hts⟩ (mX4_stands_n (A := A) (t := X i) (u := knT j) (x := p9) (b0 := b) x60i.1 k4j.2 (by omega) (by omega) hneg) (va_cwS 4 hts (gS tw_6_175 tw_6_176 tw_1_8 tw_6_177) rfl rfl rfl (by decide +kernel) ⟨Nat.le_of_ble_eq_true rfl, Nat.le_of_ble_eq_true rfl⟩) hC hS hA  ⟨hTi, hKnj⟩ rfl rfl hl.1 (Nat.le_of_ble_eq_true rfl) ⟨Nat.zero_le _, Nat.zero_le _⟩ dX4_stands__38 (fun r9 h9 => lv_cv h9 ?_)
            refine f_eq (tgt := 48) hx hb dX4_stands__41 (by decide) (fun c_63 => ?_) (fun c_63 => ?_)
            · refine lv_iconst (v := nI 0) hx hb dX4_stands__48 (by decide) ?_
              exact q_z (b9 := false) hx hb hr hlocks dX4_stands__49 hS (Nat.le_refl _) (Nat.le_refl _) (Or.inr (Or.inr (⟨i, j, false, hi, rfl, hj, rfl, ⟨fun q => Bool.noConfusion q, fun ⟨a0, h31, w3, _⟩ => absurd (show nI a0 < 0 from w3 ▸ q9) (nI_pos h31)⟩, rfl, ra, pa, tx, hW⟩)))
            · exact absurd c_63 (by decide)
          · obtain ⟨a9, ha31, rfl⟩ := nI_of q9
            refine kS_i (A := A) (As := [.ref (tx i), .int (nI a9), .ref (G.2.2 (3 + j)), .int (bI b)]) (rest := []) ⟨hx, hb, hml, hown, hts⟩ (mX4_stands (A := A) (t := X i) (u := knT j) (i := a9) (b0 := b) x60i.1 k4j.2 (by omega) (by omega) (by omega)) (va_cwS 4 hts (gS tw_6_175 tw_6_176 tw_1_8 tw_6_177) rfl rfl rfl (by decide +kernel) ⟨Nat.le_of_ble_eq_true rfl, Nat.le_of_ble_eq_true rfl⟩) hC hS hA  ⟨hTi, hKnj⟩ rfl rfl hl.1 (Nat.le_of_ble_eq_true rfl) ⟨Nat.zero_le _, Nat.zero_le _⟩ dX4_stands__38 (fun r_64 hr_64 => ?_)
            obtain ⟨v9, hv9, rfl⟩ := hr_64
            refine f_eq (tgt := 48) hx hb dX4_stands__41 (by decide) (fun c_65 => ?_) (fun c_65 => ?_)
            · refine lv_iconst (v := nI 0) hx hb dX4_stands__48 (by decide) ?_
              exact q_z (b9 := false) hx hb hr hlocks dX4_stands__49 hS (Nat.le_refl _) (Nat.le_refl _) (Or.inr (Or.inr (⟨i, j, false, hi, rfl, hj, rfl, ⟨fun q => Bool.noConfusion q, fun ⟨a0, h31, w3, w4⟩ => by have w7 : a0 = a9 := (nI_eq h31 ha31).mp w3.symm; rw [w7] at w4; exact absurd (hv9.mpr w4) (by rw [c_65]; decide)⟩, rfl, ra, pa, tx, hW⟩)))
            · refine lv_iconst (v := nI 1) hx hb dX4_stands__44 (by decide) ?_
              refine lv_goto (tgt := 49) hx hb dX4_stands__45 (by decide) ?_
              exact q_z (b9 := true) hx hb hr hlocks dX4_stands__49 hS (Nat.le_refl _) (Nat.le_refl _) (Or.inr (Or.inr (⟨i, j, true, hi, rfl, hj, rfl, ⟨fun q => ⟨a9, ha31, rfl, hv9.mp (c_65)⟩, fun _ => rfl⟩, rfl, ra, pa, tx, hW⟩)))
      · refine qI_V (A := A) (A1 := A) (b := am) (As := [.int (bI true), .int (nI 2)]) (rest := []) ⟨hx, hb, hml, hown, hts⟩ (mX4_refuse (A := A) (X := X) (P := P) (k := k) (xa := xa) (b := true) (th := 0) (w9 := 2) (by decide) (by decide)) (cwV 2 hts (gV tw_4_210 tw_4_212 sel_X4_refuse tw_1_8 tw_4_213) rfl rfl rfl (by decide +kernel) ⟨Nat.le_of_ble_eq_true rfl, Nat.le_of_ble_eq_true rfl⟩) hC hS (fun _ h => h) (fun q h => hA q (Nat.le_trans hS.1 h)) (hW.recv hK) ⟨ra, pa, tx, hW⟩ rfl rfl hl.1 (Nat.le_of_ble_eq_true rfl) ⟨Nat.zero_le _, Nat.zero_le _⟩ dX4_stands__18 (fun rv66 H66 L66 hP66 hk66 hS => ?_)
        have hZ66 := hS.1
        obtain ⟨hr66, hM66⟩ := hP66
        subst hr66
        obtain ⟨ra, pa, tx, hW⟩ := hM66
        have hW : MWx G A am xa ra pa tx X P k (nI 2) H66 := hW
        have hO := hW.obj
        have hAm := hW.1
        refine f_ne (tgt := 48) hx hb dX4_stands__21 (by decide) (fun c_67 => ?_) (fun c_67 => ?_)
        · refine lv_iconst (v := nI 0) hx hb dX4_stands__48 (by decide) ?_
          exact q_z (b9 := false) hx hb hr hlocks dX4_stands__49 hS (Nat.le_refl _) (Nat.le_refl _) (Or.inr (Or.inl ⟨⟨⟨i, hi, rfl⟩, (hr_60v.mp rfl)⟩, rfl, ra, pa, tx, hW⟩))
        · exact absurd c_67 (by decide)
  · refine qI_V (A := A) (A1 := A) (b := am) (As := [.int (bI true), .int (nI 1)]) (rest := []) ⟨hx, hb, hml, hown, hts⟩ (mX4_start (A := A) (X := X) (P := P) (k := k) (xa := xa) (b := true) (w9 := 1) (by decide)) (cwV 2 hts (gV tw_4_206 tw_4_208 sel_X4_start tw_1_8 tw_4_209) rfl rfl rfl (by decide +kernel) ⟨Nat.le_of_ble_eq_true rfl, Nat.le_of_ble_eq_true rfl⟩) hC hS (fun _ h => h) (fun q h => hA q (Nat.le_trans hS.1 h)) (hW.recv hK) ⟨ra, pa, tx, hW⟩ rfl rfl hl.1 (Nat.le_of_ble_eq_true rfl) ⟨Nat.zero_le _, Nat.zero_le _⟩ dX4_stands__6 (fun rv68 H68 L68 hP68 hk68 hS => ?_)
    have hZ68 := hS.1
    obtain ⟨hr68, hM68⟩ := hP68
    subst hr68
    obtain ⟨ra, pa, tx, hW⟩ := hM68
    have hW : MWx G A am xa ra pa tx X P k (nI 1) H68 := hW
    have hO := hW.obj
    have hAm := hW.1
    refine f_ne (tgt := 48) hx hb dX4_stands__9 (by decide) (fun c_69 => ?_) (fun c_69 => ?_)
    · refine lv_iconst (v := nI 0) hx hb dX4_stands__48 (by decide) ?_
      exact q_z (b9 := false) hx hb hr hlocks dX4_stands__49 hS (Nat.le_refl _) (Nat.le_refl _) (Or.inl ⟨(hr_57v.mp rfl), rfl, ra, pa, tx, hW⟩)
    · exact absurd c_69 (by decide)

abbrev rmX4_isIn_ : Room := { frames := 3, cells := 0, slots := 0, locals := 66 }
theorem mX4_isIn_ {l : Launch} {G : Cx} {A : Nat → Prop} {am xa : Nat} {X : Nat → List Nat} {P : List (List Nat)} {k : Int32} {x y th : Int32} : Met l yX4_isIn_ (.code yX4_isIn_ cX4_isIn_ 3 (some .boolean) :: GW) rmX4_isIn_ (PC G A [.ref am, .int x, .int y] (MW G A am xa X P k th)) (qI A (fun r H => ((NT x ∨ NT y) ∧ r = 0 ∧ MW G A am xa X P k 1 H) ∨ ∃ i j : Nat, i < 4 ∧ x = nI i ∧ j < 4 ∧ y = nI j ∧ (∃ v : Bool, (v = true ↔ ∃ k9, stL false (X i) (X j) k9) ∧ r = bI v) ∧ MW G A am xa X P k 0 H)) 0 0 (A) := by
  refine mstart "SigntextModel" (by decide +kernel) rfl (Nat.le_of_ble_eq_true rfl) ?_
  intro p e s m below meth c ls hx hb hr hts hown hml hlocks hname hC hA hW hl
  have hl : lv_has ls 3 [(0, .ref am), (1, .int x), (2, .int y)] := hl
  have hK := hC.1
  have hS : va_S A s.heap s.heap [] := va_S.rf
  obtain ⟨ra, pa, tx, hW⟩ := hW
  have hO := hW.obj
  have hAm := hW.1
  refine lv_aload_n hx hb dX4_isIn__0 rfl (lv_at hl 0 rfl) ?_
  refine lv_aload_n hx hb dX4_isIn__1 rfl (lv_at hl 0 rfl) ?_
  refine lv_iload_n hx hb dX4_isIn__2 rfl (lv_at hl 1 rfl) ?_
  refine lv_iload_n hx hb dX4_isIn__3 rfl (lv_at hl 2 rfl) ?_
  refine kV_i (A := A) (b := am) (As := [.int x, .int y]) (rest := .ref am :: []) ⟨hx, hb, hml, hown, hts⟩ (mX4_areNone (A := A) (xa := xa) (X := X) (P := P) (k := k)) (cwV 2 hts (gV tw_6_204 tw_6_206 sel_X4_areNone tw_1_8 tw_6_207) rfl rfl rfl (by decide +kernel) ⟨Nat.le_of_ble_eq_true rfl, Nat.le_of_ble_eq_true rfl⟩) hC hS hA (hW.recv hK) ⟨ra, pa, tx, hW⟩ rfl rfl hl.1 (Nat.le_of_ble_eq_true rfl) ⟨Nat.zero_le _, Nat.zero_le _⟩ dX4_isIn__4 (fun r_70 hr_70 => ?_)
  obtain ⟨r_70v, hr_70v, rfl⟩ := hr_70
  refine lv_iconst (v := nI 1) hx hb dX4_isIn__7 (by decide) ?_
  cases r_70v
  · have hno : ¬ (NT x ∨ NT y) := fun q => Bool.noConfusion (hr_70v.mpr q)
    obtain ⟨i, hi, rfl⟩ : ∃ i : Nat, i < 4 ∧ x = nI i := Classical.byContradiction (fun q => hno (Or.inl q))
    obtain ⟨j, hj, rfl⟩ : ∃ j : Nat, j < 4 ∧ y = nI j := Classical.byContradiction (fun q => hno (Or.inr q))
    refine qI_V (A := A) (A1 := A) (b := am) (As := [.int (bI false), .int (nI 1)]) (rest := []) ⟨hx, hb, hml, hown, hts⟩ (mX4_start (A := A) (X := X) (P := P) (k := k) (xa := xa) (b := false) (w9 := 1) (by decide)) (cwV 2 hts (gV tw_4_206 tw_4_208 sel_X4_start tw_1_8 tw_4_209) rfl rfl rfl (by decide +kernel) ⟨Nat.le_of_ble_eq_true rfl, Nat.le_of_ble_eq_true rfl⟩) hC hS (fun _ h => h) (fun q h => hA q (Nat.le_trans hS.1 h)) (hW.recv hK) ⟨ra, pa, tx, hW⟩ rfl rfl hl.1 (Nat.le_of_ble_eq_true rfl) ⟨Nat.zero_le _, Nat.zero_le _⟩ dX4_isIn__8 (fun rv71 H71 L71 hP71 hk71 hS => ?_)
    have hZ71 := hS.1
    obtain ⟨hr71, hM71⟩ := hP71
    subst hr71
    obtain ⟨ra, pa, tx, hW⟩ := hM71
    have hW : MWx G A am xa ra pa tx X P k (nI 0) H71 := hW
    have hO := hW.obj
    have hAm := hW.1
    refine f_ne (tgt := 36) hx hb dX4_isIn__11 (by decide) (fun c_72 => ?_) (fun c_72 => ?_)
    · exact absurd c_72 (by decide)
    · refine lv_aload_n hx hb dX4_isIn__14 rfl (lv_at hl 0 rfl) ?_
      refine va_get (D := G.1) (ci := 8) (C := RX4) (T := TX4) (N := 5) hx hb hts inX4 hown hK (at_P hO) 0 rfl rfl 1 (by decide) (hts _ tw_4_173) (fun _ h9 => h9) rfl dX4_isIn__15 ?_
      refine lv_iload_n hx hb dX4_isIn__18 rfl (lv_at hl 1 rfl) ?_
      refine h_aaldI (D := G.1) hx hb hK 4 hW.txs rfl (vp_in_nI (n := i) (N := 4) (by omega) (by omega)) dX4_isIn__19 ?_
      refine v_cv (show va_rf _ = .ref (tx i) from by rw [nI_clamp (n := i) (by omega)]; rfl) ?_
      refine lv_aload_n hx hb dX4_isIn__20 rfl (lv_at hl 0 rfl) ?_
      refine va_get (D := G.1) (ci := 8) (C := RX4) (T := TX4) (N := 5) hx hb hts inX4 hown hK (at_P hO) 0 rfl rfl 1 (by decide) (hts _ tw_4_173) (fun _ h9 => h9) rfl dX4_isIn__21 ?_
      refine lv_iload_n hx hb dX4_isIn__24 rfl (lv_at hl 2 rfl) ?_
      refine h_aaldI (D := G.1) hx hb hK 4 hW.txs rfl (vp_in_nI (n := j) (N := 4) (by omega) (by omega)) dX4_isIn__25 ?_
      refine v_cv (show va_rf _ = .ref (tx j) from by rw [nI_clamp (n := j) (by omega)]; rfl) ?_
      have hTi := (hW.tx (j := i) (by omega)).ia hC.2.1.2
      have x60i := hW.2.2.1 i (Or.inl (by omega))
      have hTj := (hW.tx (j := j) (by omega)).ia hC.2.1.2
      have x60j := hW.2.2.1 j (Or.inl (by omega))
      have i60 := x60i.2
      have j60 := x60j.2
      refine kS_i (A := A) (As := [.ref (tx i), .ref (tx j)]) (rest := []) ⟨hx, hb, hml, hown, hts⟩ (mX4_first (A := A) (t := X i) (u := X j) x60i.1 x60j.1 (by omega) (by omega)) (va_cwS 2 hts (gS tw_6_172 tw_6_173 tw_1_8 tw_6_174) rfl rfl rfl (by decide +kernel) ⟨Nat.le_of_ble_eq_true rfl, Nat.le_of_ble_eq_true rfl⟩) hC hS hA  ⟨hTi, hTj⟩ rfl rfl hl.1 (Nat.le_of_ble_eq_true rfl) ⟨Nat.zero_le _, Nat.zero_le _⟩ dX4_isIn__26 (fun r_73 hr_73 => ?_)
      have h7 : fstR (fun k9 => stL false (X i) (X j) k9) r_73 := hr_73
      refine lv_if_lt (tgt := 36) hx hb dX4_isIn__29 (by decide) (fun c_74 => ?_) (fun c_74 => ?_)
      · refine lv_iconst (v := nI 0) hx hb dX4_isIn__36 (by decide) ?_
        exact q_z (b9 := false) hx hb hr hlocks dX4_isIn__37 hS (Nat.le_refl _) (Nat.le_refl _) (Or.inr (⟨i, j, hi, rfl, hj, rfl, ⟨false, ⟨fun q => Bool.noConfusion q, fun ⟨k9, q⟩ => absurd c_74 (fstR_pos h7 (fun k8 h8 => by have := h8.1; omega) q)⟩, rfl⟩, ra, pa, tx, hW⟩))
      · refine lv_iconst (v := nI 1) hx hb dX4_isIn__32 (by decide) ?_
        refine lv_goto (tgt := 37) hx hb dX4_isIn__33 (by decide) ?_
        exact q_z (b9 := true) hx hb hr hlocks dX4_isIn__37 hS (Nat.le_refl _) (Nat.le_refl _) (Or.inr (⟨i, j, hi, rfl, hj, rfl, ⟨true, ⟨fun _ => fstR_ex h7 c_74, fun _ => rfl⟩, rfl⟩, ra, pa, tx, hW⟩))
  · refine qI_V (A := A) (A1 := A) (b := am) (As := [.int (bI true), .int (nI 1)]) (rest := []) ⟨hx, hb, hml, hown, hts⟩ (mX4_start (A := A) (X := X) (P := P) (k := k) (xa := xa) (b := true) (w9 := 1) (by decide)) (cwV 2 hts (gV tw_4_206 tw_4_208 sel_X4_start tw_1_8 tw_4_209) rfl rfl rfl (by decide +kernel) ⟨Nat.le_of_ble_eq_true rfl, Nat.le_of_ble_eq_true rfl⟩) hC hS (fun _ h => h) (fun q h => hA q (Nat.le_trans hS.1 h)) (hW.recv hK) ⟨ra, pa, tx, hW⟩ rfl rfl hl.1 (Nat.le_of_ble_eq_true rfl) ⟨Nat.zero_le _, Nat.zero_le _⟩ dX4_isIn__8 (fun rv75 H75 L75 hP75 hk75 hS => ?_)
    have hZ75 := hS.1
    obtain ⟨hr75, hM75⟩ := hP75
    subst hr75
    obtain ⟨ra, pa, tx, hW⟩ := hM75
    have hW : MWx G A am xa ra pa tx X P k (nI 1) H75 := hW
    have hO := hW.obj
    have hAm := hW.1
    refine f_ne (tgt := 36) hx hb dX4_isIn__11 (by decide) (fun c_76 => ?_) (fun c_76 => ?_)
    · refine lv_iconst (v := nI 0) hx hb dX4_isIn__36 (by decide) ?_
      exact q_z (b9 := false) hx hb hr hlocks dX4_isIn__37 hS (Nat.le_refl _) (Nat.le_refl _) (Or.inl ⟨(hr_70v.mp rfl), rfl, ra, pa, tx, hW⟩)
    · exact absurd c_76 (by decide)
