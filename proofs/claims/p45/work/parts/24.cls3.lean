/-! The class, 3: calls that change -/
abbrev NT (x : Int32) : Prop := ¬ ∃ i : Nat, i < 4 ∧ x = nI i
abbrev NS (x : Int32) : Prop := ¬ ∃ i : Nat, i < 24 ∧ x = nI i
abbrev NK (x : Int32) : Prop := ¬ ∃ i : Nat, i < 7 ∧ x = nI i
theorem FR.s13 {T X : Nat → List Nat} {w : List Nat} (h : ∀ i : Nat, i < 4 ∨ i = 11 ∨ i = 14 → T i = X i) : ∀ i : Nat, i < 4 ∨ i = 11 ∨ i = 14 → updT T 13 w i = X i := fun i hi => (updT_n (by omega)).trans (h i hi)
theorem FR.s12 {T X : Nat → List Nat} {w : List Nat} (h : ∀ i : Nat, i < 4 ∨ i = 11 ∨ i = 14 → T i = X i) : ∀ i : Nat, i < 4 ∨ i = 11 ∨ i = 14 → updT T 12 w i = X i := fun i hi => (updT_n (by omega)).trans (h i hi)
theorem FR.up {T X : Nat → List Nat} {q : Nat} {w : List Nat} (h : ∀ i : Nat, i < 4 ∨ i = 11 ∨ i = 14 → T i = X i) : ∀ i : Nat, i < 4 ∨ i = 11 ∨ i = 14 → updT T q w i = updT X q w i := fun i hi => by
  unfold updT; split
  · rfl
  · exact h i hi
theorem SW.knock {G : Cx} {SA : Nat → Nat} {T : Nat → List Nat} {es es2 : List Nat} {k k2 : Int32} {H H1 : Heap} (h : SW G SA T es es2 k H) (hO : va_at G.1 vwCl (SA 0, .inr (6, [.ref (SA 1), .ref (SA 2), .ref (SA 29), .ref (SA 3), .int k2, .ref (SA 31), .ref (SA 33), .ref (SA 5)])) H1) (oq : ∀ q : Nat, q ≠ SA 0 → H1[q]? = H[q]?) (z : H1.size = H.size) : SW G SA T es es2 k2 H1 := by
  have hk : Pilot.CSigntextLaw_law_r7290_016d97.kp (fun q => q = SA 0) H H1 := kp.one z oq
  have hX : ∀ i : Nat, i < 39 → i ≠ 0 → ¬ SA i = SA 0 := fun i hi h0 => h.ne hi (by decide) h0
  exact ⟨h.1, hO, at_kp h.2.2.1 hk (hX 1 (by decide) (by decide)), at_kp h.2.2.2.1 hk (hX 2 (by decide) (by decide)), fun i hi => (h.line hi).kp hk (hX _ (by omega) (by omega)) (hX _ (by omega) (by omega)), h.pcs.1.kp hk (hX 3 (by decide) (by decide)) (hX 4 (by decide) (by decide)), h.pcs.2.2.1, h.trd.1.kp hk (hX 5 (by decide) (by decide)) (hX 6 (by decide) (by decide)), h.trd.2.2.1, h.2.2.2.2.2.2.2.2.2⟩
theorem dX2_clear_0 : decode cX2_clear 0 = .ok (.aload_n 0, 1) := by decide +kernel
theorem dX2_clear_1 : decode cX2_clear 1 = .ok (.iload_n 1, 1) := by decide +kernel
theorem dX2_clear_2 : decode cX2_clear 2 = .ok (.invokevirtual 51, 3) := by decide +kernel
theorem dX2_clear_5 : decode cX2_clear 5 = .ok (.astore_n 2, 1) := by decide +kernel
theorem dX2_clear_6 : decode cX2_clear 6 = .ok (.aload_n 2, 1) := by decide +kernel
theorem dX2_clear_7 : decode cX2_clear 7 = .ok (.invokevirtual 66, 3) := by decide +kernel
theorem dX2_clear_10 : decode cX2_clear 10 = .ok (.istore_n 3, 1) := by decide +kernel
theorem dX2_clear_11 : decode cX2_clear 11 = .ok (.aload_n 2, 1) := by decide +kernel
theorem dX2_clear_12 : decode cX2_clear 12 = .ok (.invokevirtual 55, 3) := by decide +kernel
theorem dX2_clear_15 : decode cX2_clear 15 = .ok (.iload_n 3, 1) := by decide +kernel
theorem dX2_clear_16 : decode cX2_clear 16 = .ok (.ireturn, 1) := by decide +kernel
theorem dX2_copy_0 : decode cX2_copy 0 = .ok (.aload_n 0, 1) := by decide +kernel
theorem dX2_copy_1 : decode cX2_copy 1 = .ok (.iload_n 1, 1) := by decide +kernel
theorem dX2_copy_2 : decode cX2_copy 2 = .ok (.invokevirtual 51, 3) := by decide +kernel
theorem dX2_copy_5 : decode cX2_copy 5 = .ok (.astore_n 3, 1) := by decide +kernel
theorem dX2_copy_6 : decode cX2_copy 6 = .ok (.aload_n 0, 1) := by decide +kernel
theorem dX2_copy_7 : decode cX2_copy 7 = .ok (.aload_n 3, 1) := by decide +kernel
theorem dX2_copy_8 : decode cX2_copy 8 = .ok (.iconst 0, 1) := by decide +kernel
theorem dX2_copy_9 : decode cX2_copy 9 = .ok (.aload_n 3, 1) := by decide +kernel
theorem dX2_copy_10 : decode cX2_copy 10 = .ok (.invokevirtual 66, 3) := by decide +kernel
theorem dX2_copy_13 : decode cX2_copy 13 = .ok (.aload_n 0, 1) := by decide +kernel
theorem dX2_copy_14 : decode cX2_copy 14 = .ok (.iload_n 2, 1) := by decide +kernel
theorem dX2_copy_15 : decode cX2_copy 15 = .ok (.invokevirtual 51, 3) := by decide +kernel
theorem dX2_copy_18 : decode cX2_copy 18 = .ok (.invokevirtual 70, 3) := by decide +kernel
theorem dX2_copy_21 : decode cX2_copy 21 = .ok (.ireturn, 1) := by decide +kernel
theorem dX2_part_0 : decode cX2_part 0 = .ok (.aload_n 0, 1) := by decide +kernel
theorem dX2_part_1 : decode cX2_part 1 = .ok (.iload_n 1, 1) := by decide +kernel
theorem dX2_part_2 : decode cX2_part 2 = .ok (.invokevirtual 51, 3) := by decide +kernel
theorem dX2_part_5 : decode cX2_part 5 = .ok (.astore 5, 2) := by decide +kernel
theorem dX2_part_7 : decode cX2_part 7 = .ok (.aload_n 0, 1) := by decide +kernel
theorem dX2_part_8 : decode cX2_part 8 = .ok (.iload 4, 2) := by decide +kernel
theorem dX2_part_10 : decode cX2_part 10 = .ok (.invokevirtual 51, 3) := by decide +kernel
theorem dX2_part_13 : decode cX2_part 13 = .ok (.astore 6, 2) := by decide +kernel
theorem dX2_part_15 : decode cX2_part 15 = .ok (.iload_n 2, 1) := by decide +kernel
theorem dX2_part_16 : decode cX2_part 16 = .ok (.ifCond .lt 17, 3) := by decide +kernel
theorem dX2_part_19 : decode cX2_part 19 = .ok (.iload_n 3, 1) := by decide +kernel
theorem dX2_part_20 : decode cX2_part 20 = .ok (.iload_n 2, 1) := by decide +kernel
theorem dX2_part_21 : decode cX2_part 21 = .ok (.if_icmp .lt 12, 3) := by decide +kernel
theorem dX2_part_24 : decode cX2_part 24 = .ok (.iload_n 3, 1) := by decide +kernel
theorem dX2_part_25 : decode cX2_part 25 = .ok (.aload 5, 2) := by decide +kernel
theorem dX2_part_27 : decode cX2_part 27 = .ok (.invokevirtual 66, 3) := by decide +kernel
theorem dX2_part_30 : decode cX2_part 30 = .ok (.if_icmp .le 11, 3) := by decide +kernel
theorem dX2_part_33 : decode cX2_part 33 = .ok (.new 74, 3) := by decide +kernel
theorem dX2_part_36 : decode cX2_part 36 = .ok (.dup, 1) := by decide +kernel
theorem dX2_part_37 : decode cX2_part 37 = .ok (.invokespecial 76, 3) := by decide +kernel
theorem dX2_part_40 : decode cX2_part 40 = .ok (.athrow, 1) := by decide +kernel
theorem dX2_part_41 : decode cX2_part 41 = .ok (.aload_n 0, 1) := by decide +kernel
theorem dX2_part_42 : decode cX2_part 42 = .ok (.aload 5, 2) := by decide +kernel
theorem dX2_part_44 : decode cX2_part 44 = .ok (.iload_n 2, 1) := by decide +kernel
theorem dX2_part_45 : decode cX2_part 45 = .ok (.iload_n 3, 1) := by decide +kernel
theorem dX2_part_46 : decode cX2_part 46 = .ok (.aload 6, 2) := by decide +kernel
theorem dX2_part_48 : decode cX2_part 48 = .ok (.invokevirtual 70, 3) := by decide +kernel
theorem dX2_part_51 : decode cX2_part 51 = .ok (.ireturn, 1) := by decide +kernel
theorem dX2_tail_0 : decode cX2_tail 0 = .ok (.aload_n 0, 1) := by decide +kernel
theorem dX2_tail_1 : decode cX2_tail 1 = .ok (.iload_n 1, 1) := by decide +kernel
theorem dX2_tail_2 : decode cX2_tail 2 = .ok (.invokevirtual 51, 3) := by decide +kernel
theorem dX2_tail_5 : decode cX2_tail 5 = .ok (.astore 4, 2) := by decide +kernel
theorem dX2_tail_7 : decode cX2_tail 7 = .ok (.aload_n 0, 1) := by decide +kernel
theorem dX2_tail_8 : decode cX2_tail 8 = .ok (.iload_n 3, 1) := by decide +kernel
theorem dX2_tail_9 : decode cX2_tail 9 = .ok (.invokevirtual 51, 3) := by decide +kernel
theorem dX2_tail_12 : decode cX2_tail 12 = .ok (.astore 5, 2) := by decide +kernel
theorem dX2_tail_14 : decode cX2_tail 14 = .ok (.aload 4, 2) := by decide +kernel
theorem dX2_tail_16 : decode cX2_tail 16 = .ok (.iload_n 2, 1) := by decide +kernel
theorem dX2_tail_17 : decode cX2_tail 17 = .ok (.invokestatic 77, 3) := by decide +kernel
theorem dX2_tail_20 : decode cX2_tail 20 = .ok (.aload_n 0, 1) := by decide +kernel
theorem dX2_tail_21 : decode cX2_tail 21 = .ok (.aload 4, 2) := by decide +kernel
theorem dX2_tail_23 : decode cX2_tail 23 = .ok (.iload_n 2, 1) := by decide +kernel
theorem dX2_tail_24 : decode cX2_tail 24 = .ok (.aload 4, 2) := by decide +kernel
theorem dX2_tail_26 : decode cX2_tail 26 = .ok (.invokevirtual 66, 3) := by decide +kernel
theorem dX2_tail_29 : decode cX2_tail 29 = .ok (.aload 5, 2) := by decide +kernel
theorem dX2_tail_31 : decode cX2_tail 31 = .ok (.invokevirtual 70, 3) := by decide +kernel
theorem dX2_tail_34 : decode cX2_tail 34 = .ok (.ireturn, 1) := by decide +kernel
theorem dX2_join_0 : decode cX2_join 0 = .ok (.aload_n 0, 1) := by decide +kernel
theorem dX2_join_1 : decode cX2_join 1 = .ok (.aload_n 0, 1) := by decide +kernel
theorem dX2_join_2 : decode cX2_join 2 = .ok (.iload_n 1, 1) := by decide +kernel
theorem dX2_join_3 : decode cX2_join 3 = .ok (.invokevirtual 51, 3) := by decide +kernel
theorem dX2_join_6 : decode cX2_join 6 = .ok (.aload_n 0, 1) := by decide +kernel
theorem dX2_join_7 : decode cX2_join 7 = .ok (.iload_n 2, 1) := by decide +kernel
theorem dX2_join_8 : decode cX2_join 8 = .ok (.invokevirtual 51, 3) := by decide +kernel
theorem dX2_join_11 : decode cX2_join 11 = .ok (.aload_n 0, 1) := by decide +kernel
theorem dX2_join_12 : decode cX2_join 12 = .ok (.iload_n 3, 1) := by decide +kernel
theorem dX2_join_13 : decode cX2_join 13 = .ok (.invokevirtual 51, 3) := by decide +kernel
theorem dX2_join_16 : decode cX2_join 16 = .ok (.invokevirtual 62, 3) := by decide +kernel
theorem dX2_join_19 : decode cX2_join 19 = .ok (.ireturn, 1) := by decide +kernel
theorem dX2_trim_0 : decode cX2_trim 0 = .ok (.aload_n 0, 1) := by decide +kernel
theorem dX2_trim_1 : decode cX2_trim 1 = .ok (.iload_n 1, 1) := by decide +kernel
theorem dX2_trim_2 : decode cX2_trim 2 = .ok (.invokevirtual 51, 3) := by decide +kernel
theorem dX2_trim_5 : decode cX2_trim 5 = .ok (.astore 4, 2) := by decide +kernel
theorem dX2_trim_7 : decode cX2_trim 7 = .ok (.aload_n 0, 1) := by decide +kernel
theorem dX2_trim_8 : decode cX2_trim 8 = .ok (.aload 4, 2) := by decide +kernel
theorem dX2_trim_10 : decode cX2_trim 10 = .ok (.aload 4, 2) := by decide +kernel
theorem dX2_trim_12 : decode cX2_trim 12 = .ok (.iload_n 2, 1) := by decide +kernel
theorem dX2_trim_13 : decode cX2_trim 13 = .ok (.invokevirtual 94, 3) := by decide +kernel
theorem dX2_trim_16 : decode cX2_trim 16 = .ok (.aload 4, 2) := by decide +kernel
theorem dX2_trim_18 : decode cX2_trim 18 = .ok (.iload_n 2, 1) := by decide +kernel
theorem dX2_trim_19 : decode cX2_trim 19 = .ok (.invokevirtual 98, 3) := by decide +kernel
theorem dX2_trim_22 : decode cX2_trim 22 = .ok (.aload_n 0, 1) := by decide +kernel
theorem dX2_trim_23 : decode cX2_trim 23 = .ok (.iload_n 3, 1) := by decide +kernel
theorem dX2_trim_24 : decode cX2_trim 24 = .ok (.invokevirtual 51, 3) := by decide +kernel
theorem dX2_trim_27 : decode cX2_trim 27 = .ok (.invokevirtual 70, 3) := by decide +kernel
theorem dX2_trim_30 : decode cX2_trim 30 = .ok (.ireturn, 1) := by decide +kernel
theorem dX2_known_0 : decode cX2_known 0 = .ok (.aload_n 0, 1) := by decide +kernel
theorem dX2_known_1 : decode cX2_known 1 = .ok (.iload_n 1, 1) := by decide +kernel
theorem dX2_known_2 : decode cX2_known 2 = .ok (.invokevirtual 51, 3) := by decide +kernel
theorem dX2_known_5 : decode cX2_known 5 = .ok (.astore_n 3, 1) := by decide +kernel
theorem dX2_known_6 : decode cX2_known 6 = .ok (.aload_n 0, 1) := by decide +kernel
theorem dX2_known_7 : decode cX2_known 7 = .ok (.aload_n 3, 1) := by decide +kernel
theorem dX2_known_8 : decode cX2_known 8 = .ok (.aload_n 0, 1) := by decide +kernel
theorem dX2_known_9 : decode cX2_known 9 = .ok (.iload_n 2, 1) := by decide +kernel
theorem dX2_known_10 : decode cX2_known 10 = .ok (.invokevirtual 122, 3) := by decide +kernel
theorem dX2_known_13 : decode cX2_known 13 = .ok (.aload_n 3, 1) := by decide +kernel
theorem dX2_known_14 : decode cX2_known 14 = .ok (.invokevirtual 62, 3) := by decide +kernel
theorem dX2_known_17 : decode cX2_known 17 = .ok (.ireturn, 1) := by decide +kernel
theorem dX2_lay_0 : decode cX2_lay 0 = .ok (.aload_n 0, 1) := by decide +kernel
theorem dX2_lay_1 : decode cX2_lay 1 = .ok (.getfield 19, 3) := by decide +kernel
theorem dX2_lay_4 : decode cX2_lay 4 = .ok (.aload_n 0, 1) := by decide +kernel
theorem dX2_lay_5 : decode cX2_lay 5 = .ok (.iload_n 1, 1) := by decide +kernel
theorem dX2_lay_6 : decode cX2_lay 6 = .ok (.invokevirtual 51, 3) := by decide +kernel
theorem dX2_lay_9 : decode cX2_lay 9 = .ok (.invokevirtual 91, 3) := by decide +kernel
theorem dX2_lay_12 : decode cX2_lay 12 = .ok (.aload_n 0, 1) := by decide +kernel
theorem dX2_lay_13 : decode cX2_lay 13 = .ok (.getfield 19, 3) := by decide +kernel
theorem dX2_lay_16 : decode cX2_lay 16 = .ok (.invokevirtual 66, 3) := by decide +kernel
theorem dX2_lay_19 : decode cX2_lay 19 = .ok (.ireturn, 1) := by decide +kernel
theorem dX2_set_0 : decode cX2_set 0 = .ok (.aload_n 0, 1) := by decide +kernel
theorem dX2_set_1 : decode cX2_set 1 = .ok (.getfield 19, 3) := by decide +kernel
theorem dX2_set_4 : decode cX2_set 4 = .ok (.iload_n 1, 1) := by decide +kernel
theorem dX2_set_5 : decode cX2_set 5 = .ok (.invokestatic 125, 3) := by decide +kernel
theorem dX2_set_8 : decode cX2_set 8 = .ok (.iload_n 2, 1) := by decide +kernel
theorem dX2_set_9 : decode cX2_set 9 = .ok (.invokestatic 115, 3) := by decide +kernel
theorem dX2_set_12 : decode cX2_set 12 = .ok (.istore_n 3, 1) := by decide +kernel
theorem dX2_set_13 : decode cX2_set 13 = .ok (.aload_n 0, 1) := by decide +kernel
theorem dX2_set_14 : decode cX2_set 14 = .ok (.getfield 19, 3) := by decide +kernel
theorem dX2_set_17 : decode cX2_set 17 = .ok (.iload_n 1, 1) := by decide +kernel
theorem dX2_set_18 : decode cX2_set 18 = .ok (.invokevirtual 128, 3) := by decide +kernel
theorem dX2_set_21 : decode cX2_set 21 = .ok (.istore 4, 2) := by decide +kernel
theorem dX2_set_23 : decode cX2_set 23 = .ok (.aload_n 0, 1) := by decide +kernel
theorem dX2_set_24 : decode cX2_set 24 = .ok (.getfield 19, 3) := by decide +kernel
theorem dX2_set_27 : decode cX2_set 27 = .ok (.iload_n 1, 1) := by decide +kernel
theorem dX2_set_28 : decode cX2_set 28 = .ok (.iload_n 3, 1) := by decide +kernel
theorem dX2_set_29 : decode cX2_set 29 = .ok (.invokevirtual 131, 3) := by decide +kernel
theorem dX2_set_32 : decode cX2_set 32 = .ok (.iload 4, 2) := by decide +kernel
theorem dX2_set_34 : decode cX2_set 34 = .ok (.ireturn, 1) := by decide +kernel
theorem dX2_take_0 : decode cX2_take 0 = .ok (.aload_n 0, 1) := by decide +kernel
theorem dX2_take_1 : decode cX2_take 1 = .ok (.aload_n 0, 1) := by decide +kernel
theorem dX2_take_2 : decode cX2_take 2 = .ok (.getfield 19, 3) := by decide +kernel
theorem dX2_take_5 : decode cX2_take 5 = .ok (.iconst 0, 1) := by decide +kernel
theorem dX2_take_6 : decode cX2_take 6 = .ok (.aload_n 0, 1) := by decide +kernel
theorem dX2_take_7 : decode cX2_take 7 = .ok (.getfield 19, 3) := by decide +kernel
theorem dX2_take_10 : decode cX2_take 10 = .ok (.invokevirtual 66, 3) := by decide +kernel
theorem dX2_take_13 : decode cX2_take 13 = .ok (.aload_n 0, 1) := by decide +kernel
theorem dX2_take_14 : decode cX2_take 14 = .ok (.iload_n 1, 1) := by decide +kernel
theorem dX2_take_15 : decode cX2_take 15 = .ok (.invokevirtual 51, 3) := by decide +kernel
theorem dX2_take_18 : decode cX2_take 18 = .ok (.invokevirtual 70, 3) := by decide +kernel
theorem dX2_take_21 : decode cX2_take 21 = .ok (.ireturn, 1) := by decide +kernel
theorem dX2_takePiece_0 : decode cX2_takePiece 0 = .ok (.aload_n 0, 1) := by decide +kernel
theorem dX2_takePiece_1 : decode cX2_takePiece 1 = .ok (.iload_n 1, 1) := by decide +kernel
theorem dX2_takePiece_2 : decode cX2_takePiece 2 = .ok (.invokevirtual 139, 3) := by decide +kernel
theorem dX2_takePiece_5 : decode cX2_takePiece 5 = .ok (.aload_n 0, 1) := by decide +kernel
theorem dX2_takePiece_6 : decode cX2_takePiece 6 = .ok (.iload_n 1, 1) := by decide +kernel
theorem dX2_takePiece_7 : decode cX2_takePiece 7 = .ok (.aload_n 0, 1) := by decide +kernel
theorem dX2_takePiece_8 : decode cX2_takePiece 8 = .ok (.iload_n 2, 1) := by decide +kernel
theorem dX2_takePiece_9 : decode cX2_takePiece 9 = .ok (.invokevirtual 51, 3) := by decide +kernel
theorem dX2_takePiece_12 : decode cX2_takePiece 12 = .ok (.invokevirtual 142, 3) := by decide +kernel
theorem dX2_takePiece_15 : decode cX2_takePiece 15 = .ok (.ireturn, 1) := by decide +kernel
theorem dX2_knock_0 : decode cX2_knock 0 = .ok (.aload_n 0, 1) := by decide +kernel
theorem dX2_knock_1 : decode cX2_knock 1 = .ok (.dup, 1) := by decide +kernel
theorem dX2_knock_2 : decode cX2_knock 2 = .ok (.getfield 30, 3) := by decide +kernel
theorem dX2_knock_5 : decode cX2_knock 5 = .ok (.iconst 1, 1) := by decide +kernel
theorem dX2_knock_6 : decode cX2_knock 6 = .ok (.iadd, 1) := by decide +kernel
theorem dX2_knock_7 : decode cX2_knock 7 = .ok (.putfield 30, 3) := by decide +kernel
theorem dX2_knock_10 : decode cX2_knock 10 = .ok (.aload_n 0, 1) := by decide +kernel
theorem dX2_knock_11 : decode cX2_knock 11 = .ok (.getfield 30, 3) := by decide +kernel
theorem dX2_knock_14 : decode cX2_knock 14 = .ok (.ireturn, 1) := by decide +kernel
abbrev rmX2_knock : Room := { frames := 1, cells := 0, slots := 0, locals := 20 }
theorem mX2_knock {l : Launch} {G : Cx} {A : Nat → Prop} {SA : Nat → Nat} {X : Nat → List Nat} {es : List Nat} {k : Int32} (hAS : ∀ i : Nat, i < 39 → A (SA i)) : Met l yX2_knock (.code yX2_knock cX2_knock 1 (some .int) :: GW) rmX2_knock (PC G A [.ref (SA 0)] (SS G SA X es k)) (qI A (fun r H => r = k + 1 ∧ SS G SA X es (k + 1) H)) 0 0 (A) := by
  refine mstart "Signtext" (by decide +kernel) rfl (Nat.le_of_ble_eq_true rfl) ?_
  intro p e s m below meth c ls hx hb hr hts hown hml hlocks hname hC hA hW hl
  have hl : lv_has ls 1 [(0, .ref (SA 0))] := hl
  have hK := hC.1
  have hS : va_S A s.heap s.heap [] := va_S.rf
  obtain ⟨T, es2, hW, hF⟩ := hW
  have hO := hW.2.1
  have hR1 := hW.2.2.1
  have hR2 := hW.2.2.2.1
  refine lv_aload_n hx hb dX2_knock_0 rfl (lv_at hl 0 rfl) ?_
  refine lv_dup hx hb dX2_knock_1 rfl ?_
  refine va_get (D := G.1) (ci := 6) (C := RX2) (T := TX2) (N := 8) hx hb hts inX2 hown hK (at_P hO) 0 rfl rfl 4 (by decide) (hts _ tw_1_141) (fun _ h9 => h9) rfl dX2_knock_2 ?_
  refine lv_iconst (v := nI 1) hx hb dX2_knock_5 (by decide) ?_
  refine lv_iadd hx hb dX2_knock_6 ?_
  refine h_put (D := G.1) (ci := 6) (C := RX2) (T := TX2) (N := 8) hx hb hts inX2 tyX2 tyX2_ok nmX2 hown hK hO hS (hAS 0 (by decide)) rfl 4 (by decide) (hts _ tw_1_141) (fun _ h9 => h9) rfl (tyX2_ok 4 (by decide)) rfl rfl (Nat.le_of_ble_eq_true rfl) dX2_knock_7 (fun H1 L1 hO z1 o1 hS => ?_)
  have hO : va_at G.1 vwCl (SA 0, .inr (6, [.ref (SA 1), .ref (SA 2), .ref (SA 29), .ref (SA 3), .int (k + 1), .ref (SA 31), .ref (SA 33), .ref (SA 5)])) H1 := hO
  have hZ1 := hS.1
  refine lv_aload_n hx hb dX2_knock_10 rfl (lv_at hl 0 rfl) ?_
  refine va_get (D := G.1) (ci := 6) (C := RX2) (T := TX2) (N := 8) hx hb hts inX2 hown hK (at_P hO) 0 rfl rfl 4 (by decide) (hts _ tw_1_141) (fun _ h9 => h9) rfl dX2_knock_11 ?_
  exact q_i hx hb hr hlocks dX2_knock_14 hS (Nat.le_refl _) (Nat.le_refl _) ⟨rfl, _, _, hW.knock hO o1 z1, hF⟩

abbrev rmX2_clear : Room := { frames := 7, cells := 1, slots := 6, locals := 110 }
theorem mX2_clear {l : Launch} {G : Cx} {A : Nat → Prop} (hst : l.stackTraces = false) {SA : Nat → Nat} {X : Nat → List Nat} {es : List Nat} {k : Int32} {x : Int32} (hAS : ∀ i : Nat, i < 39 → A (SA i)) : vx_Met l yX2_clear (.code yX2_clear cX2_clear 4 (some .int) :: GW) rmX2_clear (PC G A [.ref (SA 0), .int x] (SS G SA X es k)) (qI A (fun r H => ∃ i : Nat, i < 4 ∧ x = nI i ∧ r = nI (X i).length ∧ SS G SA (updT X i []) es k H)) (xE A (fun E H => (E = "java/lang/IndexOutOfBoundsException" ∧ NT x) ∧ SS G SA X es k H)) 1 6 A := by
  refine mstartX "Signtext" (by decide +kernel) rfl (Nat.le_of_ble_eq_true rfl) ?_
  intro p e s m below meth c ls hx hb hr hts hown hml hlocks hnx hC hA hW hl
  have hl : lv_has ls 4 [(0, .ref (SA 0)), (1, .int x)] := hl
  have hK := hC.1
  have hS : va_S A s.heap s.heap [] := va_S.rf
  obtain ⟨T, es2, hW, hF⟩ := hW
  have hO := hW.2.1
  have hR1 := hW.2.2.1
  have hR2 := hW.2.2.2.1
  refine lv_aload_n hx hb dX2_clear_0 rfl (lv_at hl 0 rfl) ?_
  refine lv_iload_n hx hb dX2_clear_1 rfl (lv_at hl 1 rfl) ?_
  refine xR_V (A := A) (A1 := A) (b := (SA 0)) (As := [.int x]) (rest := []) ⟨hx, hb, hml, hown, hts⟩ (mX2_textOf (A := A) hst ) (cwV 1 hts (gV tw_3_4 tw_3_6 sel_X2_textOf tw_1_1 tw_3_7) rfl rfl rfl (by decide +kernel) ⟨Nat.le_of_ble_eq_true rfl, Nat.le_of_ble_eq_true rfl⟩) hC hS (fun _ h => h) (fun q h => hA q (Nat.le_trans hS.1 h)) (hW.recv hK) hW rfl rfl hl.1 (Nat.le_of_ble_eq_true rfl) ⟨Nat.le_trans (show 0 + 1 ≤ 1 by omega) (Nat.le_of_ble_eq_true rfl), Nat.le_trans (show 0 + 6 ≤ 6 by omega) (Nat.le_of_ble_eq_true rfl)⟩ dX2_clear_2 hnx hlocks (by omega) (by omega) (fun E H9 q _ => ⟨⟨q.1, q.2.1⟩, _, _, q.2.2, hF⟩) (fun rv2 H2 L2 hP2 hk2 hS => ?_)
  have hZ2 := hS.1
  obtain ⟨⟨i, hi, hxi, hrv⟩, hW⟩ := hP2
  subst hrv
  have hO := hW.2.1
  have hR1 := hW.2.2.1
  have hR2 := hW.2.2.2.1
  have ei := hF i (Or.inl hi)
  refine lv_astore_n (lv' := [(2, .ref (SA (7 + 2 * i))), (0, .ref (SA 0)), (1, .int x)]) hx hb dX2_clear_5 rfl hl (by decide) rfl (fun ls hl => ?_)
  refine lv_aload_n hx hb dX2_clear_6 rfl (lv_at hl 0 rfl) ?_
  refine kV_i (A := A) (b := (SA (7 + 2 * i))) (As := []) (rest := []) ⟨hx, hb, hml, hown, hts⟩ (mX0_size (A := A) (ca := SA (8 + 2 * i))) (cwV 0 hts (gV tw_2_30 tw_2_12 tw_2_13 tw_1_2 tw_2_14) rfl rfl rfl (by decide +kernel) ⟨Nat.le_of_ble_eq_true rfl, Nat.le_of_ble_eq_true rfl⟩) hC hS hA ((hW.line (i := i) (by omega)).recv hK) (hW.line (i := i) (by omega)) rfl rfl hl.1 (Nat.le_of_ble_eq_true rfl) ⟨Nat.le_trans (show (0 + 1) ≤ 1 by omega) (Nat.le_of_ble_eq_true rfl), Nat.le_trans (show (0 + 6) ≤ 6 by omega) (Nat.le_of_ble_eq_true rfl)⟩ dX2_clear_7 (fun r9 h9 => lv_cv h9 ?_)
  refine lv_istore_n (lv' := [(3, .int (nI ((T i).length))), (2, .ref (SA (7 + 2 * i))), (0, .ref (SA 0)), (1, .int x)]) hx hb dX2_clear_10 rfl hl (by decide) rfl (fun ls hl => ?_)
  refine lv_aload_n hx hb dX2_clear_11 rfl (lv_at hl 1 rfl) ?_
  refine qV_V (A := A) (A1 := ow (SA (7 + 2 * i)) (SA (8 + 2 * i)) H2.size) (b := (SA (7 + 2 * i))) (As := []) (rest := []) ⟨hx, hb, hml, hown, hts⟩ (mX0_empty (A := ow (SA (7 + 2 * i)) (SA (8 + 2 * i)) H2.size) (ca := SA (8 + 2 * i)) (hAa := Or.inl rfl)) (cwV 0 hts (gV tw_2_31 tw_2_32 tw_2_33 tw_1_2 tw_2_34) rfl rfl rfl (by decide +kernel) ⟨Nat.le_of_ble_eq_true rfl, Nat.le_of_ble_eq_true rfl⟩) hC hS (ow_in (hAS _ (by omega)) (hAS _ (by omega)) hA hS.1) ow_n ((hW.line (i := i) (by omega)).recv hK) (hW.line (i := i) (by omega)) rfl rfl hl.1 (Nat.le_of_ble_eq_true rfl) ⟨Nat.le_trans (show (0 + 1) ≤ 1 by omega) (Nat.le_of_ble_eq_true rfl), Nat.le_trans (show (0 + 6) ≤ 6 by omega) (Nat.le_of_ble_eq_true rfl)⟩ dX2_clear_12 (fun H3 L3 hP3 hk3 hS => ?_)
  have hZ3 := hS.1
  have hW := hW.put (q := i) (t := []) (by omega) hk3 hP3
  refine lv_iload_n hx hb dX2_clear_15 rfl (lv_at hl 0 rfl) ?_
  exact vx_ret (q_i hx hb hr hlocks dX2_clear_16 hS (by omega) (by omega) ⟨i, hi, hxi, by rw [ei], _, _, hW, (FR.up hF)⟩)

abbrev rmX2_copy : Room := { frames := 7, cells := 2, slots := 12, locals := 110 }
theorem mX2_copy {l : Launch} {G : Cx} {A : Nat → Prop} (hst : l.stackTraces = false) {SA : Nat → Nat} {X : Nat → List Nat} {es : List Nat} {k : Int32} {x y : Int32} (hAS : ∀ i : Nat, i < 39 → A (SA i)) : vx_Met l yX2_copy (.code yX2_copy cX2_copy 4 (some .int) :: GW) rmX2_copy (PC G A [.ref (SA 0), .int x, .int y] (SS G SA X es k)) (qI A (fun r H => ∃ i j : Nat, i < 4 ∧ x = nI i ∧ j < 4 ∧ y = nI j ∧ r = nI (X i).length ∧ SS G SA (updT X j (X i)) es k H)) (xE A (fun E H => (E = "java/lang/IndexOutOfBoundsException" ∧ (NT x ∨ NT y)) ∧ SS G SA X es k H)) 2 12 A := by
  refine mstartX "Signtext" (by decide +kernel) rfl (Nat.le_of_ble_eq_true rfl) ?_
  intro p e s m below meth c ls hx hb hr hts hown hml hlocks hnx hC hA hW hl
  have hl : lv_has ls 4 [(0, .ref (SA 0)), (1, .int x), (2, .int y)] := hl
  have hK := hC.1
  have hS : va_S A s.heap s.heap [] := va_S.rf
  obtain ⟨T, es2, hW, hF⟩ := hW
  have hO := hW.2.1
  have hR1 := hW.2.2.1
  have hR2 := hW.2.2.2.1
  refine lv_aload_n hx hb dX2_copy_0 rfl (lv_at hl 0 rfl) ?_
  refine lv_iload_n hx hb dX2_copy_1 rfl (lv_at hl 1 rfl) ?_
  refine xR_V (A := A) (A1 := A) (b := (SA 0)) (As := [.int x]) (rest := []) ⟨hx, hb, hml, hown, hts⟩ (mX2_textOf (A := A) hst ) (cwV 1 hts (gV tw_3_4 tw_3_6 sel_X2_textOf tw_1_1 tw_3_7) rfl rfl rfl (by decide +kernel) ⟨Nat.le_of_ble_eq_true rfl, Nat.le_of_ble_eq_true rfl⟩) hC hS (fun _ h => h) (fun q h => hA q (Nat.le_trans hS.1 h)) (hW.recv hK) hW rfl rfl hl.1 (Nat.le_of_ble_eq_true rfl) ⟨Nat.le_trans (show 0 + 1 ≤ 2 by omega) (Nat.le_of_ble_eq_true rfl), Nat.le_trans (show 0 + 6 ≤ 12 by omega) (Nat.le_of_ble_eq_true rfl)⟩ dX2_copy_2 hnx hlocks (by omega) (by omega) (fun E H9 q _ => ⟨⟨q.1, Or.inl q.2.1⟩, _, _, q.2.2, hF⟩) (fun rv4 H4 L4 hP4 hk4 hS => ?_)
  have hZ4 := hS.1
  obtain ⟨⟨i, hi, hxi, hrv⟩, hW⟩ := hP4
  subst hrv
  have hO := hW.2.1
  have hR1 := hW.2.2.1
  have hR2 := hW.2.2.2.1
  have ei := hF i (Or.inl hi)
  refine lv_astore_n (lv' := [(3, .ref (SA (7 + 2 * i))), (0, .ref (SA 0)), (1, .int x), (2, .int y)]) hx hb dX2_copy_5 rfl hl (by decide) rfl (fun ls hl => ?_)
  refine lv_aload_n hx hb dX2_copy_6 rfl (lv_at hl 1 rfl) ?_
  refine lv_aload_n hx hb dX2_copy_7 rfl (lv_at hl 0 rfl) ?_
  refine lv_iconst (v := nI 0) hx hb dX2_copy_8 (by decide) ?_
  refine lv_aload_n hx hb dX2_copy_9 rfl (lv_at hl 0 rfl) ?_
  refine kV_i (A := A) (b := (SA (7 + 2 * i))) (As := []) (rest := .int (nI 0) :: .ref (SA (7 + 2 * i)) :: .ref (SA 0) :: []) ⟨hx, hb, hml, hown, hts⟩ (mX0_size (A := A) (ca := SA (8 + 2 * i))) (cwV 0 hts (gV tw_2_30 tw_2_12 tw_2_13 tw_1_2 tw_2_14) rfl rfl rfl (by decide +kernel) ⟨Nat.le_of_ble_eq_true rfl, Nat.le_of_ble_eq_true rfl⟩) hC hS hA ((hW.line (i := i) (by omega)).recv hK) (hW.line (i := i) (by omega)) rfl rfl hl.1 (Nat.le_of_ble_eq_true rfl) ⟨Nat.le_trans (show (0 + 1) ≤ 2 by omega) (Nat.le_of_ble_eq_true rfl), Nat.le_trans (show (0 + 6) ≤ 12 by omega) (Nat.le_of_ble_eq_true rfl)⟩ dX2_copy_10 (fun r9 h9 => lv_cv h9 ?_)
  refine lv_aload_n hx hb dX2_copy_13 rfl (lv_at hl 1 rfl) ?_
  refine lv_iload_n hx hb dX2_copy_14 rfl (lv_at hl 3 rfl) ?_
  refine xR_V (A := A) (A1 := A) (b := (SA 0)) (As := [.int y]) (rest := .int (nI ((T i).length)) :: .int (nI 0) :: .ref (SA (7 + 2 * i)) :: .ref (SA 0) :: []) ⟨hx, hb, hml, hown, hts⟩ (mX2_textOf (A := A) hst ) (cwV 1 hts (gV tw_3_4 tw_3_6 sel_X2_textOf tw_1_1 tw_3_7) rfl rfl rfl (by decide +kernel) ⟨Nat.le_of_ble_eq_true rfl, Nat.le_of_ble_eq_true rfl⟩) hC hS (fun _ h => h) (fun q h => hA q (Nat.le_trans hS.1 h)) (hW.recv hK) hW rfl rfl hl.1 (Nat.le_of_ble_eq_true rfl) ⟨Nat.le_trans (show (0 + 1) + 1 ≤ 2 by omega) (Nat.le_of_ble_eq_true rfl), Nat.le_trans (show (0 + 6) + 6 ≤ 12 by omega) (Nat.le_of_ble_eq_true rfl)⟩ dX2_copy_15 hnx hlocks (by omega) (by omega) (fun E H9 q _ => ⟨⟨q.1, Or.inr q.2.1⟩, _, _, q.2.2, hF⟩) (fun rv5 H5 L5 hP5 hk5 hS => ?_)
  have hZ5 := hS.1
  obtain ⟨⟨j, hj, hxj, hrv⟩, hW⟩ := hP5
  subst hrv
  have hO := hW.2.1
  have hR1 := hW.2.2.1
  have hR2 := hW.2.2.2.1
  have ej := hF j (Or.inl hj)
  refine qI_V (A := A) (A1 := A) (b := (SA 0)) (As := [.ref (SA (7 + 2 * i)), .int (nI 0), .int (nI ((T i).length)), .ref (SA (7 + 2 * j))]) (rest := []) ⟨hx, hb, hml, hown, hts⟩ (mX2_partInto (A := A) (i := i) (q := j) (a9 := 0) (b9 := (T i).length) hAS (by omega) (by omega) (by omega) (Nat.zero_le _) (Nat.le_refl _)) (cwV 4 hts (gV tw_2_55 tw_2_57 sel_X2_partInto tw_1_1 tw_2_58) rfl rfl rfl (by decide +kernel) ⟨Nat.le_of_ble_eq_true rfl, Nat.le_of_ble_eq_true rfl⟩) hC hS (fun _ h => h) (fun q h => hA q (Nat.le_trans hS.1 h)) (hW.recv hK) hW rfl rfl hl.1 (Nat.le_of_ble_eq_true rfl) ⟨Nat.le_trans (show ((0 + 1) + 1) ≤ 2 by omega) (Nat.le_of_ble_eq_true rfl), Nat.le_trans (show ((0 + 6) + 6) ≤ 12 by omega) (Nat.le_of_ble_eq_true rfl)⟩ dX2_copy_18 (fun rv6 H6 L6 hP6 hk6 hS => ?_)
  have hZ6 := hS.1
  rw [cutL_all, ei] at hP6
  exact vx_ret (q_i hx hb hr hlocks dX2_copy_21 hS (by omega) (by omega) ⟨i, j, hi, hxi, hj, hxj, hP6.1, _, _, hP6.2, (FR.up (FR.s13 hF))⟩)

abbrev rmX2_part : Room := { frames := 7, cells := 3, slots := 18, locals := 110 }
theorem mX2_part {l : Launch} {G : Cx} {A : Nat → Prop} (hst : l.stackTraces = false) {SA : Nat → Nat} {X : Nat → List Nat} {es : List Nat} {k : Int32} {x f9 t9 y : Int32} (hAS : ∀ i : Nat, i < 39 → A (SA i)) : vx_Met l yX2_part (.code yX2_part cX2_part 7 (some .int) :: GW) rmX2_part (PC G A [.ref (SA 0), .int x, .int f9, .int t9, .int y] (SS G SA X es k)) (qI A (fun r H => ∃ i j a9 b9 : Nat, i < 4 ∧ x = nI i ∧ j < 4 ∧ y = nI j ∧ f9 = nI a9 ∧ t9 = nI b9 ∧ a9 ≤ b9 ∧ b9 ≤ (X i).length ∧ r = nI (cutL (X i) a9 b9).length ∧ SS G SA (updT X j (cutL (X i) a9 b9)) es k H)) (xE A (fun E H => (E = "java/lang/IndexOutOfBoundsException" ∧ (NT x ∨ NT y ∨ ¬ (∃ i a9 b9 : Nat, i < 4 ∧ x = nI i ∧ f9 = nI a9 ∧ t9 = nI b9 ∧ a9 ≤ b9 ∧ b9 ≤ (X i).length))) ∧ SS G SA X es k H)) 3 18 A := by
  refine mstartX "Signtext" (by decide +kernel) rfl (Nat.le_of_ble_eq_true rfl) ?_
  intro p e s m below meth c ls hx hb hr hts hown hml hlocks hnx hC hA hW hl
  have hl : lv_has ls 7 [(0, .ref (SA 0)), (1, .int x), (2, .int f9), (3, .int t9), (4, .int y)] := hl
  have hK := hC.1
  have hS : va_S A s.heap s.heap [] := va_S.rf
  obtain ⟨T, es2, hW, hF⟩ := hW
  have hO := hW.2.1
  have hR1 := hW.2.2.1
  have hR2 := hW.2.2.2.1
  refine lv_aload_n hx hb dX2_part_0 rfl (lv_at hl 0 rfl) ?_
  refine lv_iload_n hx hb dX2_part_1 rfl (lv_at hl 1 rfl) ?_
  refine xR_V (A := A) (A1 := A) (b := (SA 0)) (As := [.int x]) (rest := []) ⟨hx, hb, hml, hown, hts⟩ (mX2_textOf (A := A) hst ) (cwV 1 hts (gV tw_3_4 tw_3_6 sel_X2_textOf tw_1_1 tw_3_7) rfl rfl rfl (by decide +kernel) ⟨Nat.le_of_ble_eq_true rfl, Nat.le_of_ble_eq_true rfl⟩) hC hS (fun _ h => h) (fun q h => hA q (Nat.le_trans hS.1 h)) (hW.recv hK) hW rfl rfl hl.1 (Nat.le_of_ble_eq_true rfl) ⟨Nat.le_trans (show 0 + 1 ≤ 3 by omega) (Nat.le_of_ble_eq_true rfl), Nat.le_trans (show 0 + 6 ≤ 18 by omega) (Nat.le_of_ble_eq_true rfl)⟩ dX2_part_2 hnx hlocks (by omega) (by omega) (fun E H9 q _ => ⟨⟨q.1, Or.inl q.2.1⟩, _, _, q.2.2, hF⟩) (fun rv7 H7 L7 hP7 hk7 hS => ?_)
  have hZ7 := hS.1
  obtain ⟨⟨i, hi, hxi, hrv⟩, hW⟩ := hP7
  subst hrv
  have hO := hW.2.1
  have hR1 := hW.2.2.1
  have hR2 := hW.2.2.2.1
  have ei := hF i (Or.inl hi)
  refine lv_astore (lv' := [(5, .ref (SA (7 + 2 * i))), (0, .ref (SA 0)), (1, .int x), (2, .int f9), (3, .int t9), (4, .int y)]) hx hb dX2_part_5 hl (by decide) rfl (fun ls hl => ?_)
  refine lv_aload_n hx hb dX2_part_7 rfl (lv_at hl 1 rfl) ?_
  refine lv_iload hx hb dX2_part_8 (lv_at hl 5 rfl) ?_
  refine xR_V (A := A) (A1 := A) (b := (SA 0)) (As := [.int y]) (rest := []) ⟨hx, hb, hml, hown, hts⟩ (mX2_textOf (A := A) hst ) (cwV 1 hts (gV tw_3_4 tw_3_6 sel_X2_textOf tw_1_1 tw_3_7) rfl rfl rfl (by decide +kernel) ⟨Nat.le_of_ble_eq_true rfl, Nat.le_of_ble_eq_true rfl⟩) hC hS (fun _ h => h) (fun q h => hA q (Nat.le_trans hS.1 h)) (hW.recv hK) hW rfl rfl hl.1 (Nat.le_of_ble_eq_true rfl) ⟨Nat.le_trans (show (0 + 1) + 1 ≤ 3 by omega) (Nat.le_of_ble_eq_true rfl), Nat.le_trans (show (0 + 6) + 6 ≤ 18 by omega) (Nat.le_of_ble_eq_true rfl)⟩ dX2_part_10 hnx hlocks (by omega) (by omega) (fun E H9 q _ => ⟨⟨q.1, Or.inr (Or.inl q.2.1)⟩, _, _, q.2.2, hF⟩) (fun rv8 H8 L8 hP8 hk8 hS => ?_)
  have hZ8 := hS.1
  obtain ⟨⟨j, hj, hxj, hrv⟩, hW⟩ := hP8
  subst hrv
  have hO := hW.2.1
  have hR1 := hW.2.2.1
  have hR2 := hW.2.2.2.1
  have ej := hF j (Or.inl hj)
  have i60 := (hW.line (i := i) (by omega)).1
  refine lv_astore (lv' := [(6, .ref (SA (7 + 2 * j))), (5, .ref (SA (7 + 2 * i))), (0, .ref (SA 0)), (1, .int x), (2, .int f9), (3, .int t9), (4, .int y)]) hx hb dX2_part_13 hl (by decide) rfl (fun ls hl => ?_)
  refine lv_iload_n hx hb dX2_part_15 rfl (lv_at hl 4 rfl) ?_
  refine lv_if_lt (tgt := 33) hx hb dX2_part_16 (by decide) (fun c_9 => ?_) (fun c_9 => ?_)
  · exact t_new (nL := 7) (cls := "java/lang/IndexOutOfBoundsException") (ik := 74) (ic := 76) hx hb hst hown hts hC hS hl.1 hml (by decide +kernel) tw_3_8 tw_1_16 tA76 tB76 tG76 hnx hlocks (Nat.le_of_ble_eq_true rfl) (Nat.le_of_ble_eq_true rfl) (Nat.le_trans (show ((0 + 1) + 1) + 1 ≤ 3 by omega) (Nat.le_of_ble_eq_true rfl)) (Nat.le_trans (show ((0 + 6) + 6) + 6 ≤ 18 by omega) (Nat.le_of_ble_eq_true rfl)) (by omega) (by omega) dX2_part_33 dX2_part_36 dX2_part_37 dX2_part_40 (fun H9 hk9 => ⟨⟨rfl, Or.inr (Or.inr (fun ⟨i9, a0, b0, w1, w2, w3, w4, w5, w6⟩ => by rw [w3] at c_9; exact nI_pos (by have w7 : i9 = i := (nI_eq (by omega) (by omega)).mp (w2.symm.trans hxi); rw [w7, ← ei] at w6; omega) c_9))⟩, _, _, hW.nw hk9, hF⟩)
  · obtain ⟨a9, ha31, rfl⟩ := nI_of c_9
    refine lv_iload_n hx hb dX2_part_19 rfl (lv_at hl 5 rfl) ?_
    refine lv_iload_n hx hb dX2_part_20 rfl (lv_at hl 4 rfl) ?_
    refine lv_icmp_lt (tgt := 33) hx hb dX2_part_21 (by decide) (fun c_10 => ?_) (fun c_10 => ?_)
    · exact t_new (nL := 7) (cls := "java/lang/IndexOutOfBoundsException") (ik := 74) (ic := 76) hx hb hst hown hts hC hS hl.1 hml (by decide +kernel) tw_3_8 tw_1_16 tA76 tB76 tG76 hnx hlocks (Nat.le_of_ble_eq_true rfl) (Nat.le_of_ble_eq_true rfl) (Nat.le_trans (show ((0 + 1) + 1) + 1 ≤ 3 by omega) (Nat.le_of_ble_eq_true rfl)) (Nat.le_trans (show ((0 + 6) + 6) + 6 ≤ 18 by omega) (Nat.le_of_ble_eq_true rfl)) (by omega) (by omega) dX2_part_33 dX2_part_36 dX2_part_37 dX2_part_40 (fun H9 hk9 => ⟨⟨rfl, Or.inr (Or.inr (fun ⟨i9, a0, b0, w1, w2, w3, w4, w5, w6⟩ => by rw [w3, w4] at c_10; exact nI_nlt w5 (by have w7 : i9 = i := (nI_eq (by omega) (by omega)).mp (w2.symm.trans hxi); rw [w7, ← ei] at w6; omega) c_10))⟩, _, _, hW.nw hk9, hF⟩)
    · obtain ⟨b9, hb31, rfl⟩ := nI_of (x := t9) (fun q => c_10 (Int32.lt_of_lt_of_le q (nI_pos' (by omega))))
      have hab : a9 ≤ b9 := Nat.le_of_not_lt (fun q => c_10 (nI_lt q (by omega)))
      refine lv_iload_n hx hb dX2_part_24 rfl (lv_at hl 5 rfl) ?_
      refine lv_aload hx hb dX2_part_25 (lv_at hl 1 rfl) ?_
      refine kV_i (A := A) (b := (SA (7 + 2 * i))) (As := []) (rest := .int (nI b9) :: []) ⟨hx, hb, hml, hown, hts⟩ (mX0_size (A := A) (ca := SA (8 + 2 * i))) (cwV 0 hts (gV tw_2_30 tw_2_12 tw_2_13 tw_1_2 tw_2_14) rfl rfl rfl (by decide +kernel) ⟨Nat.le_of_ble_eq_true rfl, Nat.le_of_ble_eq_true rfl⟩) hC hS hA ((hW.line (i := i) (by omega)).recv hK) (hW.line (i := i) (by omega)) rfl rfl hl.1 (Nat.le_of_ble_eq_true rfl) ⟨Nat.le_trans (show ((0 + 1) + 1) ≤ 3 by omega) (Nat.le_of_ble_eq_true rfl), Nat.le_trans (show ((0 + 6) + 6) ≤ 18 by omega) (Nat.le_of_ble_eq_true rfl)⟩ dX2_part_27 (fun r9 h9 => lv_cv h9 ?_)
      refine b_le (tgt := 41) hx hb dX2_part_30 (by decide) (by omega) (by omega) (fun c_11 => ?_) (fun c_11 => ?_)
      · refine lv_aload_n hx hb dX2_part_41 rfl (lv_at hl 2 rfl) ?_
        refine lv_aload hx hb dX2_part_42 (lv_at hl 1 rfl) ?_
        refine lv_iload_n hx hb dX2_part_44 rfl (lv_at hl 4 rfl) ?_
        refine lv_iload_n hx hb dX2_part_45 rfl (lv_at hl 5 rfl) ?_
        refine lv_aload hx hb dX2_part_46 (lv_at hl 0 rfl) ?_
        refine qI_V (A := A) (A1 := A) (b := (SA 0)) (As := [.ref (SA (7 + 2 * i)), .int (nI a9), .int (nI b9), .ref (SA (7 + 2 * j))]) (rest := []) ⟨hx, hb, hml, hown, hts⟩ (mX2_partInto (A := A) (i := i) (q := j) (a9 := a9) (b9 := b9) hAS (by omega) (by omega) (by omega) hab c_11) (cwV 4 hts (gV tw_2_55 tw_2_57 sel_X2_partInto tw_1_1 tw_2_58) rfl rfl rfl (by decide +kernel) ⟨Nat.le_of_ble_eq_true rfl, Nat.le_of_ble_eq_true rfl⟩) hC hS (fun _ h => h) (fun q h => hA q (Nat.le_trans hS.1 h)) (hW.recv hK) hW rfl rfl hl.1 (Nat.le_of_ble_eq_true rfl) ⟨Nat.le_trans (show ((0 + 1) + 1) ≤ 3 by omega) (Nat.le_of_ble_eq_true rfl), Nat.le_trans (show ((0 + 6) + 6) ≤ 18 by omega) (Nat.le_of_ble_eq_true rfl)⟩ dX2_part_48 (fun rv12 H12 L12 hP12 hk12 hS => ?_)
        have hZ12 := hS.1
        rw [ei] at hP12 c_11
        exact vx_ret (q_i hx hb hr hlocks dX2_part_51 hS (by omega) (by omega) ⟨i, j, a9, b9, hi, hxi, hj, hxj, rfl, rfl, hab, c_11, hP12.1, _, _, hP12.2, (FR.up (FR.s13 hF))⟩)
      · exact t_new (nL := 7) (cls := "java/lang/IndexOutOfBoundsException") (ik := 74) (ic := 76) hx hb hst hown hts hC hS hl.1 hml (by decide +kernel) tw_3_8 tw_1_16 tA76 tB76 tG76 hnx hlocks (Nat.le_of_ble_eq_true rfl) (Nat.le_of_ble_eq_true rfl) (Nat.le_trans (show ((0 + 1) + 1) + 1 ≤ 3 by omega) (Nat.le_of_ble_eq_true rfl)) (Nat.le_trans (show ((0 + 6) + 6) + 6 ≤ 18 by omega) (Nat.le_of_ble_eq_true rfl)) (by omega) (by omega) dX2_part_33 dX2_part_36 dX2_part_37 dX2_part_40 (fun H9 hk9 => ⟨⟨rfl, Or.inr (Or.inr (fun ⟨i9, a0, b0, w1, w2, w3, w4, w5, w6⟩ => by have w7 : i9 = i := (nI_eq (by omega) (by omega)).mp (w2.symm.trans hxi); have w8 : b0 = b9 := (nI_eq (by rw [w7, ← ei] at w6; omega) (by omega)).mp w4.symm; rw [w7, w8, ← ei] at w6; omega))⟩, _, _, hW.nw hk9, hF⟩)

abbrev rmX2_tail : Room := { frames := 7, cells := 3, slots := 18, locals := 110 }
theorem mX2_tail {l : Launch} {G : Cx} {A : Nat → Prop} (hst : l.stackTraces = false) {SA : Nat → Nat} {X : Nat → List Nat} {es : List Nat} {k : Int32} {x f9 y : Int32} (hAS : ∀ i : Nat, i < 39 → A (SA i)) : vx_Met l yX2_tail (.code yX2_tail cX2_tail 6 (some .int) :: GW) rmX2_tail (PC G A [.ref (SA 0), .int x, .int f9, .int y] (SS G SA X es k)) (qI A (fun r H => ∃ i j a9 : Nat, i < 4 ∧ x = nI i ∧ j < 4 ∧ y = nI j ∧ f9 = nI a9 ∧ a9 ≤ (X i).length ∧ r = nI (cutL (X i) a9 (X i).length).length ∧ SS G SA (updT X j (cutL (X i) a9 (X i).length)) es k H)) (xE A (fun E H => (E = "java/lang/IndexOutOfBoundsException" ∧ (NT x ∨ NT y ∨ ¬ ∃ i a9 : Nat, i < 4 ∧ x = nI i ∧ f9 = nI a9 ∧ a9 ≤ (X i).length)) ∧ SS G SA X es k H)) 3 18 A := by
  refine mstartX "Signtext" (by decide +kernel) rfl (Nat.le_of_ble_eq_true rfl) ?_
  intro p e s m below meth c ls hx hb hr hts hown hml hlocks hnx hC hA hW hl
  have hl : lv_has ls 6 [(0, .ref (SA 0)), (1, .int x), (2, .int f9), (3, .int y)] := hl
  have hK := hC.1
  have hS : va_S A s.heap s.heap [] := va_S.rf
  obtain ⟨T, es2, hW, hF⟩ := hW
  have hO := hW.2.1
  have hR1 := hW.2.2.1
  have hR2 := hW.2.2.2.1
  refine lv_aload_n hx hb dX2_tail_0 rfl (lv_at hl 0 rfl) ?_
  refine lv_iload_n hx hb dX2_tail_1 rfl (lv_at hl 1 rfl) ?_
  refine xR_V (A := A) (A1 := A) (b := (SA 0)) (As := [.int x]) (rest := []) ⟨hx, hb, hml, hown, hts⟩ (mX2_textOf (A := A) hst ) (cwV 1 hts (gV tw_3_4 tw_3_6 sel_X2_textOf tw_1_1 tw_3_7) rfl rfl rfl (by decide +kernel) ⟨Nat.le_of_ble_eq_true rfl, Nat.le_of_ble_eq_true rfl⟩) hC hS (fun _ h => h) (fun q h => hA q (Nat.le_trans hS.1 h)) (hW.recv hK) hW rfl rfl hl.1 (Nat.le_of_ble_eq_true rfl) ⟨Nat.le_trans (show 0 + 1 ≤ 3 by omega) (Nat.le_of_ble_eq_true rfl), Nat.le_trans (show 0 + 6 ≤ 18 by omega) (Nat.le_of_ble_eq_true rfl)⟩ dX2_tail_2 hnx hlocks (by omega) (by omega) (fun E H9 q _ => ⟨⟨q.1, Or.inl q.2.1⟩, _, _, q.2.2, hF⟩) (fun rv13 H13 L13 hP13 hk13 hS => ?_)
  have hZ13 := hS.1
  obtain ⟨⟨i, hi, hxi, hrv⟩, hW⟩ := hP13
  subst hrv
  have hO := hW.2.1
  have hR1 := hW.2.2.1
  have hR2 := hW.2.2.2.1
  have ei := hF i (Or.inl hi)
  refine lv_astore (lv' := [(4, .ref (SA (7 + 2 * i))), (0, .ref (SA 0)), (1, .int x), (2, .int f9), (3, .int y)]) hx hb dX2_tail_5 hl (by decide) rfl (fun ls hl => ?_)
  refine lv_aload_n hx hb dX2_tail_7 rfl (lv_at hl 1 rfl) ?_
  refine lv_iload_n hx hb dX2_tail_8 rfl (lv_at hl 4 rfl) ?_
  refine xR_V (A := A) (A1 := A) (b := (SA 0)) (As := [.int y]) (rest := []) ⟨hx, hb, hml, hown, hts⟩ (mX2_textOf (A := A) hst ) (cwV 1 hts (gV tw_3_4 tw_3_6 sel_X2_textOf tw_1_1 tw_3_7) rfl rfl rfl (by decide +kernel) ⟨Nat.le_of_ble_eq_true rfl, Nat.le_of_ble_eq_true rfl⟩) hC hS (fun _ h => h) (fun q h => hA q (Nat.le_trans hS.1 h)) (hW.recv hK) hW rfl rfl hl.1 (Nat.le_of_ble_eq_true rfl) ⟨Nat.le_trans (show (0 + 1) + 1 ≤ 3 by omega) (Nat.le_of_ble_eq_true rfl), Nat.le_trans (show (0 + 6) + 6 ≤ 18 by omega) (Nat.le_of_ble_eq_true rfl)⟩ dX2_tail_9 hnx hlocks (by omega) (by omega) (fun E H9 q _ => ⟨⟨q.1, Or.inr (Or.inl q.2.1)⟩, _, _, q.2.2, hF⟩) (fun rv14 H14 L14 hP14 hk14 hS => ?_)
  have hZ14 := hS.1
  obtain ⟨⟨j, hj, hxj, hrv⟩, hW⟩ := hP14
  subst hrv
  have hO := hW.2.1
  have hR1 := hW.2.2.1
  have hR2 := hW.2.2.2.1
  have ej := hF j (Or.inl hj)
  refine lv_astore (lv' := [(5, .ref (SA (7 + 2 * j))), (4, .ref (SA (7 + 2 * i))), (0, .ref (SA 0)), (1, .int x), (2, .int f9), (3, .int y)]) hx hb dX2_tail_12 hl (by decide) rfl (fun ls hl => ?_)
  refine lv_aload hx hb dX2_tail_14 (lv_at hl 1 rfl) ?_
  refine lv_iload_n hx hb dX2_tail_16 rfl (lv_at hl 4 rfl) ?_
  refine xV_S (A := A) (A1 := A)  (As := [.ref (SA (7 + 2 * i)), .int f9]) (rest := []) ⟨hx, hb, hml, hown, hts⟩ (mX2_needPlaceOrEnd (A := A) hst (q := i) (by omega)) (va_cwS 2 hts (gS tw_3_87 tw_3_88 tw_1_1 tw_3_89) rfl rfl rfl (by decide +kernel) ⟨Nat.le_of_ble_eq_true rfl, Nat.le_of_ble_eq_true rfl⟩) hC hS (fun _ h => h) (fun q h => hA q (Nat.le_trans hS.1 h))  hW rfl rfl hl.1 (Nat.le_of_ble_eq_true rfl) ⟨Nat.le_trans (show ((0 + 1) + 1) + 1 ≤ 3 by omega) (Nat.le_of_ble_eq_true rfl), Nat.le_trans (show ((0 + 6) + 6) + 6 ≤ 18 by omega) (Nat.le_of_ble_eq_true rfl)⟩ dX2_tail_17 hnx hlocks (by omega) (by omega) (fun E H9 q _ => ⟨⟨q.1, Or.inr (Or.inr (fun ⟨i9, a0, w1, w2, w3, w4⟩ => q.2.1 ⟨a0, by have w7 : i9 = i := (nI_eq (by omega) (by omega)).mp (w2.symm.trans hxi); rw [w7, ← ei] at w4; exact w4, w3⟩))⟩, _, _, q.2.2, hF⟩) (fun H15 L15 hP15 hk15 hS => ?_)
  have hZ15 := hS.1
  obtain ⟨⟨a9, ha9, rfl⟩, hW⟩ := hP15
  refine lv_aload_n hx hb dX2_tail_20 rfl (lv_at hl 2 rfl) ?_
  refine lv_aload hx hb dX2_tail_21 (lv_at hl 1 rfl) ?_
  refine lv_iload_n hx hb dX2_tail_23 rfl (lv_at hl 4 rfl) ?_
  refine lv_aload hx hb dX2_tail_24 (lv_at hl 1 rfl) ?_
  refine kV_i (A := A) (b := (SA (7 + 2 * i))) (As := []) (rest := .int (nI a9) :: .ref (SA (7 + 2 * i)) :: .ref (SA 0) :: []) ⟨hx, hb, hml, hown, hts⟩ (mX0_size (A := A) (ca := SA (8 + 2 * i))) (cwV 0 hts (gV tw_2_30 tw_2_12 tw_2_13 tw_1_2 tw_2_14) rfl rfl rfl (by decide +kernel) ⟨Nat.le_of_ble_eq_true rfl, Nat.le_of_ble_eq_true rfl⟩) hC hS hA ((hW.line (i := i) (by omega)).recv hK) (hW.line (i := i) (by omega)) rfl rfl hl.1 (Nat.le_of_ble_eq_true rfl) ⟨Nat.le_trans (show (((0 + 1) + 1) + 1) ≤ 3 by omega) (Nat.le_of_ble_eq_true rfl), Nat.le_trans (show (((0 + 6) + 6) + 6) ≤ 18 by omega) (Nat.le_of_ble_eq_true rfl)⟩ dX2_tail_26 (fun r9 h9 => lv_cv h9 ?_)
  refine lv_aload hx hb dX2_tail_29 (lv_at hl 0 rfl) ?_
  refine qI_V (A := A) (A1 := A) (b := (SA 0)) (As := [.ref (SA (7 + 2 * i)), .int (nI a9), .int (nI ((T i).length)), .ref (SA (7 + 2 * j))]) (rest := []) ⟨hx, hb, hml, hown, hts⟩ (mX2_partInto (A := A) (i := i) (q := j) (a9 := a9) (b9 := (T i).length) hAS (by omega) (by omega) (by omega) ha9 (Nat.le_refl _)) (cwV 4 hts (gV tw_2_55 tw_2_57 sel_X2_partInto tw_1_1 tw_2_58) rfl rfl rfl (by decide +kernel) ⟨Nat.le_of_ble_eq_true rfl, Nat.le_of_ble_eq_true rfl⟩) hC hS (fun _ h => h) (fun q h => hA q (Nat.le_trans hS.1 h)) (hW.recv hK) hW rfl rfl hl.1 (Nat.le_of_ble_eq_true rfl) ⟨Nat.le_trans (show (((0 + 1) + 1) + 1) ≤ 3 by omega) (Nat.le_of_ble_eq_true rfl), Nat.le_trans (show (((0 + 6) + 6) + 6) ≤ 18 by omega) (Nat.le_of_ble_eq_true rfl)⟩ dX2_tail_31 (fun rv16 H16 L16 hP16 hk16 hS => ?_)
  have hZ16 := hS.1
  rw [ei] at hP16 ha9
  exact vx_ret (q_i hx hb hr hlocks dX2_tail_34 hS (by omega) (by omega) ⟨i, j, a9, hi, hxi, hj, hxj, rfl, ha9, hP16.1, _, _, hP16.2, (FR.up (FR.s13 hF))⟩)

abbrev rmX2_join : Room := { frames := 8, cells := 4, slots := 24, locals := 132 }
theorem mX2_join {l : Launch} {G : Cx} {A : Nat → Prop} (hst : l.stackTraces = false) {SA : Nat → Nat} {X : Nat → List Nat} {es : List Nat} {k : Int32} {x y z : Int32} (hAS : ∀ i : Nat, i < 39 → A (SA i)) : vx_Met l yX2_join (.code yX2_join cX2_join 4 (some .int) :: GW) rmX2_join (PC G A [.ref (SA 0), .int x, .int y, .int z] (SS G SA X es k)) (qI A (fun r H => ∃ i j q : Nat, i < 4 ∧ x = nI i ∧ j < 4 ∧ y = nI j ∧ q < 4 ∧ z = nI q ∧ (X i ++ X j).length ≤ 60 ∧ r = nI (X i ++ X j).length ∧ SS G SA (updT X q (X i ++ X j)) es k H)) (xE A (fun E H => ((E = "java/lang/IndexOutOfBoundsException" ∧ (NT x ∨ NT y ∨ NT z)) ∨ (E = "java/lang/IllegalStateException" ∧ ∃ i j q : Nat, i < 4 ∧ x = nI i ∧ j < 4 ∧ y = nI j ∧ q < 4 ∧ z = nI q ∧ 60 < (X i ++ X j).length)) ∧ SS G SA X es k H)) 4 24 A := by
  refine mstartX "Signtext" (by decide +kernel) rfl (Nat.le_of_ble_eq_true rfl) ?_
  intro p e s m below meth c ls hx hb hr hts hown hml hlocks hnx hC hA hW hl
  have hl : lv_has ls 4 [(0, .ref (SA 0)), (1, .int x), (2, .int y), (3, .int z)] := hl
  have hK := hC.1
  have hS : va_S A s.heap s.heap [] := va_S.rf
  obtain ⟨T, es2, hW, hF⟩ := hW
  have hO := hW.2.1
  have hR1 := hW.2.2.1
  have hR2 := hW.2.2.2.1
  refine lv_aload_n hx hb dX2_join_0 rfl (lv_at hl 0 rfl) ?_
  refine lv_aload_n hx hb dX2_join_1 rfl (lv_at hl 0 rfl) ?_
  refine lv_iload_n hx hb dX2_join_2 rfl (lv_at hl 1 rfl) ?_
  refine xR_V (A := A) (A1 := A) (b := (SA 0)) (As := [.int x]) (rest := .ref (SA 0) :: []) ⟨hx, hb, hml, hown, hts⟩ (mX2_textOf (A := A) hst ) (cwV 1 hts (gV tw_3_4 tw_3_6 sel_X2_textOf tw_1_1 tw_3_7) rfl rfl rfl (by decide +kernel) ⟨Nat.le_of_ble_eq_true rfl, Nat.le_of_ble_eq_true rfl⟩) hC hS (fun _ h => h) (fun q h => hA q (Nat.le_trans hS.1 h)) (hW.recv hK) hW rfl rfl hl.1 (Nat.le_of_ble_eq_true rfl) ⟨Nat.le_trans (show 0 + 1 ≤ 4 by omega) (Nat.le_of_ble_eq_true rfl), Nat.le_trans (show 0 + 6 ≤ 24 by omega) (Nat.le_of_ble_eq_true rfl)⟩ dX2_join_3 hnx hlocks (by omega) (by omega) (fun E H9 q _ => ⟨Or.inl ⟨q.1, Or.inl q.2.1⟩, _, _, q.2.2, hF⟩) (fun rv17 H17 L17 hP17 hk17 hS => ?_)
  have hZ17 := hS.1
  obtain ⟨⟨i, hi, hxi, hrv⟩, hW⟩ := hP17
  subst hrv
  have hO := hW.2.1
  have hR1 := hW.2.2.1
  have hR2 := hW.2.2.2.1
  have ei := hF i (Or.inl hi)
  refine lv_aload_n hx hb dX2_join_6 rfl (lv_at hl 0 rfl) ?_
  refine lv_iload_n hx hb dX2_join_7 rfl (lv_at hl 2 rfl) ?_
  refine xR_V (A := A) (A1 := A) (b := (SA 0)) (As := [.int y]) (rest := .ref (SA (7 + 2 * i)) :: .ref (SA 0) :: []) ⟨hx, hb, hml, hown, hts⟩ (mX2_textOf (A := A) hst ) (cwV 1 hts (gV tw_3_4 tw_3_6 sel_X2_textOf tw_1_1 tw_3_7) rfl rfl rfl (by decide +kernel) ⟨Nat.le_of_ble_eq_true rfl, Nat.le_of_ble_eq_true rfl⟩) hC hS (fun _ h => h) (fun q h => hA q (Nat.le_trans hS.1 h)) (hW.recv hK) hW rfl rfl hl.1 (Nat.le_of_ble_eq_true rfl) ⟨Nat.le_trans (show (0 + 1) + 1 ≤ 4 by omega) (Nat.le_of_ble_eq_true rfl), Nat.le_trans (show (0 + 6) + 6 ≤ 24 by omega) (Nat.le_of_ble_eq_true rfl)⟩ dX2_join_8 hnx hlocks (by omega) (by omega) (fun E H9 q _ => ⟨Or.inl ⟨q.1, Or.inr (Or.inl q.2.1)⟩, _, _, q.2.2, hF⟩) (fun rv18 H18 L18 hP18 hk18 hS => ?_)
  have hZ18 := hS.1
  obtain ⟨⟨j, hj, hxj, hrv⟩, hW⟩ := hP18
  subst hrv
  have hO := hW.2.1
  have hR1 := hW.2.2.1
  have hR2 := hW.2.2.2.1
  have ej := hF j (Or.inl hj)
  refine lv_aload_n hx hb dX2_join_11 rfl (lv_at hl 0 rfl) ?_
  refine lv_iload_n hx hb dX2_join_12 rfl (lv_at hl 3 rfl) ?_
  refine xR_V (A := A) (A1 := A) (b := (SA 0)) (As := [.int z]) (rest := .ref (SA (7 + 2 * j)) :: .ref (SA (7 + 2 * i)) :: .ref (SA 0) :: []) ⟨hx, hb, hml, hown, hts⟩ (mX2_textOf (A := A) hst ) (cwV 1 hts (gV tw_3_4 tw_3_6 sel_X2_textOf tw_1_1 tw_3_7) rfl rfl rfl (by decide +kernel) ⟨Nat.le_of_ble_eq_true rfl, Nat.le_of_ble_eq_true rfl⟩) hC hS (fun _ h => h) (fun q h => hA q (Nat.le_trans hS.1 h)) (hW.recv hK) hW rfl rfl hl.1 (Nat.le_of_ble_eq_true rfl) ⟨Nat.le_trans (show ((0 + 1) + 1) + 1 ≤ 4 by omega) (Nat.le_of_ble_eq_true rfl), Nat.le_trans (show ((0 + 6) + 6) + 6 ≤ 24 by omega) (Nat.le_of_ble_eq_true rfl)⟩ dX2_join_13 hnx hlocks (by omega) (by omega) (fun E H9 q _ => ⟨Or.inl ⟨q.1, Or.inr (Or.inr q.2.1)⟩, _, _, q.2.2, hF⟩) (fun rv19 H19 L19 hP19 hk19 hS => ?_)
  have hZ19 := hS.1
  obtain ⟨⟨q, hq, hxq, hrv⟩, hW⟩ := hP19
  subst hrv
  have hO := hW.2.1
  have hR1 := hW.2.2.1
  have hR2 := hW.2.2.2.1
  have eq := hF q (Or.inl hq)
  refine xI_V (A := A) (A1 := A) (b := (SA 0)) (As := [.ref (SA (7 + 2 * i)), .ref (SA (7 + 2 * j)), .ref (SA (7 + 2 * q))]) (rest := []) ⟨hx, hb, hml, hown, hts⟩ (mX2_joinInto (A := A) hst (i := i) (j := j) (q := q) hAS (by omega) (by omega) (by omega) (by omega) (by omega)) (cwV 3 hts (gV tw_3_32 tw_3_34 sel_X2_joinInto tw_1_1 tw_3_35) rfl rfl rfl (by decide +kernel) ⟨Nat.le_of_ble_eq_true rfl, Nat.le_of_ble_eq_true rfl⟩) hC hS (fun _ h => h) (fun q h => hA q (Nat.le_trans hS.1 h)) (hW.recv hK) hW rfl rfl hl.1 (Nat.le_of_ble_eq_true rfl) ⟨Nat.le_trans (show (((0 + 1) + 1) + 1) + 1 ≤ 4 by omega) (Nat.le_of_ble_eq_true rfl), Nat.le_trans (show (((0 + 6) + 6) + 6) + 6 ≤ 24 by omega) (Nat.le_of_ble_eq_true rfl)⟩ dX2_join_16 hnx hlocks (by omega) (by omega) (fun E H9 w _ => ⟨Or.inr ⟨w.1, i, j, q, hi, hxi, hj, hxj, hq, hxq, by rw [← ei, ← ej]; exact w.2.1⟩, _, _, w.2.2, hF⟩) (fun rv20 H20 L20 hP20 hk20 hS => ?_)
  have hZ20 := hS.1
  rw [ei, ej] at hP20
  exact vx_ret (q_i hx hb hr hlocks dX2_join_19 hS (by omega) (by omega) ⟨i, j, q, hi, hxi, hj, hxj, hq, hxq, hP20.2.1, hP20.1, _, _, hP20.2.2, (FR.up (FR.s13 hF))⟩)

abbrev rmX2_trim : Room := { frames := 7, cells := 2, slots := 12, locals := 110 }
theorem mX2_trim {l : Launch} {G : Cx} {A : Nat → Prop} (hst : l.stackTraces = false) {SA : Nat → Nat} {X : Nat → List Nat} {es : List Nat} {k : Int32} {x y : Int32} {b : Bool} (hAS : ∀ i : Nat, i < 39 → A (SA i)) : vx_Met l yX2_trim (.code yX2_trim cX2_trim 5 (some .int) :: GW) rmX2_trim (PC G A [.ref (SA 0), .int x, .int (bI b), .int y] (SS G SA X es k)) (qI A (fun r H => ∃ i j e9 : Nat, i < 4 ∧ x = nI i ∧ j < 4 ∧ y = nI j ∧ isTe b (X i) e9 ∧ r = nI (cutL (X i) (tbL b (X i)) e9).length ∧ SS G SA (updT X j (cutL (X i) (tbL b (X i)) e9)) es k H)) (xE A (fun E H => (E = "java/lang/IndexOutOfBoundsException" ∧ (NT x ∨ NT y)) ∧ SS G SA X es k H)) 2 12 A := by
  refine mstartX "Signtext" (by decide +kernel) rfl (Nat.le_of_ble_eq_true rfl) ?_
  intro p e s m below meth c ls hx hb hr hts hown hml hlocks hnx hC hA hW hl
  have hl : lv_has ls 5 [(0, .ref (SA 0)), (1, .int x), (2, .int (bI b)), (3, .int y)] := hl
  have hK := hC.1
  have hS : va_S A s.heap s.heap [] := va_S.rf
  obtain ⟨T, es2, hW, hF⟩ := hW
  have hO := hW.2.1
  have hR1 := hW.2.2.1
  have hR2 := hW.2.2.2.1
  refine lv_aload_n hx hb dX2_trim_0 rfl (lv_at hl 0 rfl) ?_
  refine lv_iload_n hx hb dX2_trim_1 rfl (lv_at hl 1 rfl) ?_
  refine xR_V (A := A) (A1 := A) (b := (SA 0)) (As := [.int x]) (rest := []) ⟨hx, hb, hml, hown, hts⟩ (mX2_textOf (A := A) hst ) (cwV 1 hts (gV tw_3_4 tw_3_6 sel_X2_textOf tw_1_1 tw_3_7) rfl rfl rfl (by decide +kernel) ⟨Nat.le_of_ble_eq_true rfl, Nat.le_of_ble_eq_true rfl⟩) hC hS (fun _ h => h) (fun q h => hA q (Nat.le_trans hS.1 h)) (hW.recv hK) hW rfl rfl hl.1 (Nat.le_of_ble_eq_true rfl) ⟨Nat.le_trans (show 0 + 1 ≤ 2 by omega) (Nat.le_of_ble_eq_true rfl), Nat.le_trans (show 0 + 6 ≤ 12 by omega) (Nat.le_of_ble_eq_true rfl)⟩ dX2_trim_2 hnx hlocks (by omega) (by omega) (fun E H9 q _ => ⟨⟨q.1, Or.inl q.2.1⟩, _, _, q.2.2, hF⟩) (fun rv21 H21 L21 hP21 hk21 hS => ?_)
  have hZ21 := hS.1
  obtain ⟨⟨i, hi, hxi, hrv⟩, hW⟩ := hP21
  subst hrv
  have hO := hW.2.1
  have hR1 := hW.2.2.1
  have hR2 := hW.2.2.2.1
  have ei := hF i (Or.inl hi)
  refine lv_astore (lv' := [(4, .ref (SA (7 + 2 * i))), (0, .ref (SA 0)), (1, .int x), (2, .int (bI b)), (3, .int y)]) hx hb dX2_trim_5 hl (by decide) rfl (fun ls hl => ?_)
  refine lv_aload_n hx hb dX2_trim_7 rfl (lv_at hl 1 rfl) ?_
  refine lv_aload hx hb dX2_trim_8 (lv_at hl 0 rfl) ?_
  refine lv_aload hx hb dX2_trim_10 (lv_at hl 0 rfl) ?_
  refine lv_iload_n hx hb dX2_trim_12 rfl (lv_at hl 3 rfl) ?_
  have i60 := (hW.line (i := i) (by omega)).1
  have tb9 := tbL_le b (T i)
  refine kV_i (A := A) (b := (SA (7 + 2 * i))) (As := [.int (bI b)]) (rest := .ref (SA (7 + 2 * i)) :: .ref (SA 0) :: []) ⟨hx, hb, hml, hown, hts⟩ (mX0_trimmedBegin (A := A) (ca := SA (8 + 2 * i)) (b := b)) (cwV 1 hts (gV tw_2_43 tw_2_44 tw_2_45 tw_1_2 tw_2_46) rfl rfl rfl (by decide +kernel) ⟨Nat.le_of_ble_eq_true rfl, Nat.le_of_ble_eq_true rfl⟩) hC hS hA ((hW.line (i := i) (by omega)).recv hK) (hW.line (i := i) (by omega)) rfl rfl hl.1 (Nat.le_of_ble_eq_true rfl) ⟨Nat.le_trans (show (0 + 1) ≤ 2 by omega) (Nat.le_of_ble_eq_true rfl), Nat.le_trans (show (0 + 6) ≤ 12 by omega) (Nat.le_of_ble_eq_true rfl)⟩ dX2_trim_13 (fun r9 h9 => lv_cv h9 ?_)
  refine lv_aload hx hb dX2_trim_16 (lv_at hl 0 rfl) ?_
  refine lv_iload_n hx hb dX2_trim_18 rfl (lv_at hl 3 rfl) ?_
  refine kV_i (A := A) (b := (SA (7 + 2 * i))) (As := [.int (bI b)]) (rest := .int (nI (tbL b (T i))) :: .ref (SA (7 + 2 * i)) :: .ref (SA 0) :: []) ⟨hx, hb, hml, hown, hts⟩ (mX0_trimmedEnd (A := A) (ca := SA (8 + 2 * i)) (b := b)) (cwV 1 hts (gV tw_2_50 tw_2_51 tw_2_52 tw_1_2 tw_2_53) rfl rfl rfl (by decide +kernel) ⟨Nat.le_of_ble_eq_true rfl, Nat.le_of_ble_eq_true rfl⟩) hC hS hA ((hW.line (i := i) (by omega)).recv hK) (hW.line (i := i) (by omega)) rfl rfl hl.1 (Nat.le_of_ble_eq_true rfl) ⟨Nat.le_trans (show (0 + 1) ≤ 2 by omega) (Nat.le_of_ble_eq_true rfl), Nat.le_trans (show (0 + 6) ≤ 12 by omega) (Nat.le_of_ble_eq_true rfl)⟩ dX2_trim_19 (fun r_22 hr_22 => ?_)
  obtain ⟨e9, he9, rfl⟩ := hr_22
  refine lv_aload_n hx hb dX2_trim_22 rfl (lv_at hl 1 rfl) ?_
  refine lv_iload_n hx hb dX2_trim_23 rfl (lv_at hl 4 rfl) ?_
  refine xR_V (A := A) (A1 := A) (b := (SA 0)) (As := [.int y]) (rest := .int (nI e9) :: .int (nI (tbL b (T i))) :: .ref (SA (7 + 2 * i)) :: .ref (SA 0) :: []) ⟨hx, hb, hml, hown, hts⟩ (mX2_textOf (A := A) hst ) (cwV 1 hts (gV tw_3_4 tw_3_6 sel_X2_textOf tw_1_1 tw_3_7) rfl rfl rfl (by decide +kernel) ⟨Nat.le_of_ble_eq_true rfl, Nat.le_of_ble_eq_true rfl⟩) hC hS (fun _ h => h) (fun q h => hA q (Nat.le_trans hS.1 h)) (hW.recv hK) hW rfl rfl hl.1 (Nat.le_of_ble_eq_true rfl) ⟨Nat.le_trans (show (0 + 1) + 1 ≤ 2 by omega) (Nat.le_of_ble_eq_true rfl), Nat.le_trans (show (0 + 6) + 6 ≤ 12 by omega) (Nat.le_of_ble_eq_true rfl)⟩ dX2_trim_24 hnx hlocks (by omega) (by omega) (fun E H9 q _ => ⟨⟨q.1, Or.inr q.2.1⟩, _, _, q.2.2, hF⟩) (fun rv23 H23 L23 hP23 hk23 hS => ?_)
  have hZ23 := hS.1
  obtain ⟨⟨j, hj, hxj, hrv⟩, hW⟩ := hP23
  subst hrv
  have hO := hW.2.1
  have hR1 := hW.2.2.1
  have hR2 := hW.2.2.2.1
  have ej := hF j (Or.inl hj)
  refine qI_V (A := A) (A1 := A) (b := (SA 0)) (As := [.ref (SA (7 + 2 * i)), .int (nI (tbL b (T i))), .int (nI e9), .ref (SA (7 + 2 * j))]) (rest := []) ⟨hx, hb, hml, hown, hts⟩ (mX2_partInto (A := A) (i := i) (q := j) (a9 := tbL b (T i)) (b9 := e9) hAS (by omega) (by omega) (by omega) he9.1 he9.2.1) (cwV 4 hts (gV tw_2_55 tw_2_57 sel_X2_partInto tw_1_1 tw_2_58) rfl rfl rfl (by decide +kernel) ⟨Nat.le_of_ble_eq_true rfl, Nat.le_of_ble_eq_true rfl⟩) hC hS (fun _ h => h) (fun q h => hA q (Nat.le_trans hS.1 h)) (hW.recv hK) hW rfl rfl hl.1 (Nat.le_of_ble_eq_true rfl) ⟨Nat.le_trans (show ((0 + 1) + 1) ≤ 2 by omega) (Nat.le_of_ble_eq_true rfl), Nat.le_trans (show ((0 + 6) + 6) ≤ 12 by omega) (Nat.le_of_ble_eq_true rfl)⟩ dX2_trim_27 (fun rv24 H24 L24 hP24 hk24 hS => ?_)
  have hZ24 := hS.1
  rw [ei] at hP24 he9
  exact vx_ret (q_i hx hb hr hlocks dX2_trim_30 hS (by omega) (by omega) ⟨i, j, e9, hi, hxi, hj, hxj, he9, hP24.1, _, _, hP24.2, (FR.up (FR.s13 hF))⟩)

abbrev rmX2_lay : Room := { frames := 7, cells := 1, slots := 6, locals := 110 }
theorem mX2_lay {l : Launch} {G : Cx} {A : Nat → Prop} (hst : l.stackTraces = false) {SA : Nat → Nat} {X : Nat → List Nat} {es : List Nat} {k : Int32} {x : Int32} (hAS : ∀ i : Nat, i < 39 → A (SA i)) : vx_Met l yX2_lay (.code yX2_lay cX2_lay 2 (some .int) :: GW) rmX2_lay (PC G A [.ref (SA 0), .int x] (SS G SA X es k)) (qI A (fun r H => ∃ i : Nat, i < 4 ∧ x = nI i ∧ r = nI (X i).length ∧ SS G SA (updT X 11 (X i)) es k H)) (xE A (fun E H => (E = "java/lang/IndexOutOfBoundsException" ∧ NT x) ∧ SS G SA X es k H)) 1 6 A := by
  refine mstartX "Signtext" (by decide +kernel) rfl (Nat.le_of_ble_eq_true rfl) ?_
  intro p e s m below meth c ls hx hb hr hts hown hml hlocks hnx hC hA hW hl
  have hl : lv_has ls 2 [(0, .ref (SA 0)), (1, .int x)] := hl
  have hK := hC.1
  have hS : va_S A s.heap s.heap [] := va_S.rf
  obtain ⟨T, es2, hW, hF⟩ := hW
  have hO := hW.2.1
  have hR1 := hW.2.2.1
  have hR2 := hW.2.2.2.1
  refine lv_aload_n hx hb dX2_lay_0 rfl (lv_at hl 0 rfl) ?_
  refine va_get (D := G.1) (ci := 6) (C := RX2) (T := TX2) (N := 8) hx hb hts inX2 hown hK (at_P hO) 0 rfl rfl 2 (by decide) (hts _ tw_1_139) (fun _ h9 => h9) rfl dX2_lay_1 ?_
  refine lv_aload_n hx hb dX2_lay_4 rfl (lv_at hl 0 rfl) ?_
  refine lv_iload_n hx hb dX2_lay_5 rfl (lv_at hl 1 rfl) ?_
  refine xR_V (A := A) (A1 := A) (b := (SA 0)) (As := [.int x]) (rest := .ref (SA 29) :: []) ⟨hx, hb, hml, hown, hts⟩ (mX2_textOf (A := A) hst ) (cwV 1 hts (gV tw_3_4 tw_3_6 sel_X2_textOf tw_1_1 tw_3_7) rfl rfl rfl (by decide +kernel) ⟨Nat.le_of_ble_eq_true rfl, Nat.le_of_ble_eq_true rfl⟩) hC hS (fun _ h => h) (fun q h => hA q (Nat.le_trans hS.1 h)) (hW.recv hK) hW rfl rfl hl.1 (Nat.le_of_ble_eq_true rfl) ⟨Nat.le_trans (show 0 + 1 ≤ 1 by omega) (Nat.le_of_ble_eq_true rfl), Nat.le_trans (show 0 + 6 ≤ 6 by omega) (Nat.le_of_ble_eq_true rfl)⟩ dX2_lay_6 hnx hlocks (by omega) (by omega) (fun E H9 q _ => ⟨⟨q.1, q.2.1⟩, _, _, q.2.2, hF⟩) (fun rv25 H25 L25 hP25 hk25 hS => ?_)
  have hZ25 := hS.1
  obtain ⟨⟨i, hi, hxi, hrv⟩, hW⟩ := hP25
  subst hrv
  have hO := hW.2.1
  have hR1 := hW.2.2.1
  have hR2 := hW.2.2.2.1
  have ei := hF i (Or.inl hi)
  refine qV_V (A := A) (A1 := ow (SA (7 + 2 * 11)) (SA (8 + 2 * 11)) H25.size) (b := (SA 29)) (As := [.ref (SA (7 + 2 * i))]) (rest := []) ⟨hx, hb, hml, hown, hts⟩ (mX0_become (A := ow (SA (7 + 2 * 11)) (SA (8 + 2 * 11)) H25.size) (ca := SA (8 + 2 * 11)) (cb := SA (8 + 2 * i)) (t := T 11) (u := T i) (Or.inl rfl) (Or.inr (Or.inl rfl)) ⟨hW.ne (i := 7 + 2 * i) (j := 7 + 2 * 11) (by omega) (by omega) (by omega), hW.ne (i := 7 + 2 * i) (j := 8 + 2 * 11) (by omega) (by omega) (by omega), hW.ne (i := 8 + 2 * i) (j := 7 + 2 * 11) (by omega) (by omega) (by omega), hW.ne (i := 8 + 2 * i) (j := 8 + 2 * 11) (by omega) (by omega) (by omega)⟩) (cwV 1 hts (gV tw_2_3 tw_2_4 tw_2_5 tw_1_2 tw_2_6) rfl rfl rfl (by decide +kernel) ⟨Nat.le_of_ble_eq_true rfl, Nat.le_of_ble_eq_true rfl⟩) hC hS (ow_in (hAS _ (by omega)) (hAS _ (by omega)) hA hS.1) ow_n ((hW.line (i := 11) (by omega)).recv hK) ⟨hW.line (i := 11) (by omega), hW.line (i := i) (by omega)⟩ rfl rfl hl.1 (Nat.le_of_ble_eq_true rfl) ⟨Nat.le_trans (show (0 + 1) ≤ 1 by omega) (Nat.le_of_ble_eq_true rfl), Nat.le_trans (show (0 + 6) ≤ 6 by omega) (Nat.le_of_ble_eq_true rfl)⟩ dX2_lay_9 (fun H26 L26 hP26 hk26 hS => ?_)
  have hZ26 := hS.1
  have hW := hW.put (q := 11) (t := T i) (by omega) hk26 hP26.1
  have hO := hW.2.1
  have hR1 := hW.2.2.1
  have hR2 := hW.2.2.2.1
  refine lv_aload_n hx hb dX2_lay_12 rfl (lv_at hl 0 rfl) ?_
  refine va_get (D := G.1) (ci := 6) (C := RX2) (T := TX2) (N := 8) hx hb hts inX2 hown hK (at_P hO) 0 rfl rfl 2 (by decide) (hts _ tw_1_139) (fun _ h9 => h9) rfl dX2_lay_13 ?_
  have hLq := hW.line (i := 11) (by omega)
  rw [updT_s] at hLq
  refine kV_i (A := A) (b := (SA 29)) (As := []) (rest := []) ⟨hx, hb, hml, hown, hts⟩ (mX0_size (A := A) (ca := SA (8 + 2 * 11))) (cwV 0 hts (gV tw_2_30 tw_2_12 tw_2_13 tw_1_2 tw_2_14) rfl rfl rfl (by decide +kernel) ⟨Nat.le_of_ble_eq_true rfl, Nat.le_of_ble_eq_true rfl⟩) hC hS hA (hLq.recv hK) hLq rfl rfl hl.1 (Nat.le_of_ble_eq_true rfl) ⟨Nat.le_trans (show (0 + 1) ≤ 1 by omega) (Nat.le_of_ble_eq_true rfl), Nat.le_trans (show (0 + 6) ≤ 6 by omega) (Nat.le_of_ble_eq_true rfl)⟩ dX2_lay_16 (fun r9 h9 => lv_cv h9 ?_)
  rw [ei] at hW ⊢
  exact vx_ret (q_i hx hb hr hlocks dX2_lay_19 hS (by omega) (by omega) ⟨i, hi, hxi, rfl, _, _, hW, (FR.up hF)⟩)

abbrev rmX2_take : Room := { frames := 7, cells := 1, slots := 6, locals := 110 }
theorem mX2_take {l : Launch} {G : Cx} {A : Nat → Prop} (hst : l.stackTraces = false) {SA : Nat → Nat} {X : Nat → List Nat} {es : List Nat} {k : Int32} {x : Int32} (hAS : ∀ i : Nat, i < 39 → A (SA i)) : vx_Met l yX2_take (.code yX2_take cX2_take 2 (some .int) :: GW) rmX2_take (PC G A [.ref (SA 0), .int x] (SS G SA X es k)) (qI A (fun r H => ∃ i : Nat, i < 4 ∧ x = nI i ∧ r = nI (X 11).length ∧ SS G SA (updT X i (X 11)) es k H)) (xE A (fun E H => (E = "java/lang/IndexOutOfBoundsException" ∧ NT x) ∧ SS G SA X es k H)) 1 6 A := by
  refine mstartX "Signtext" (by decide +kernel) rfl (Nat.le_of_ble_eq_true rfl) ?_
  intro p e s m below meth c ls hx hb hr hts hown hml hlocks hnx hC hA hW hl
  have hl : lv_has ls 2 [(0, .ref (SA 0)), (1, .int x)] := hl
  have hK := hC.1
  have hS : va_S A s.heap s.heap [] := va_S.rf
  obtain ⟨T, es2, hW, hF⟩ := hW
  have hO := hW.2.1
  have hR1 := hW.2.2.1
  have hR2 := hW.2.2.2.1
  have e11 := hF 11 (Or.inr (Or.inl rfl))
  refine lv_aload_n hx hb dX2_take_0 rfl (lv_at hl 0 rfl) ?_
  refine lv_aload_n hx hb dX2_take_1 rfl (lv_at hl 0 rfl) ?_
  refine va_get (D := G.1) (ci := 6) (C := RX2) (T := TX2) (N := 8) hx hb hts inX2 hown hK (at_P hO) 0 rfl rfl 2 (by decide) (hts _ tw_1_139) (fun _ h9 => h9) rfl dX2_take_2 ?_
  refine lv_iconst (v := nI 0) hx hb dX2_take_5 (by decide) ?_
  refine lv_aload_n hx hb dX2_take_6 rfl (lv_at hl 0 rfl) ?_
  refine va_get (D := G.1) (ci := 6) (C := RX2) (T := TX2) (N := 8) hx hb hts inX2 hown hK (at_P hO) 0 rfl rfl 2 (by decide) (hts _ tw_1_139) (fun _ h9 => h9) rfl dX2_take_7 ?_
  refine kV_i (A := A) (b := (SA 29)) (As := []) (rest := .int (nI 0) :: .ref (SA 29) :: .ref (SA 0) :: []) ⟨hx, hb, hml, hown, hts⟩ (mX0_size (A := A) (ca := SA (8 + 2 * 11))) (cwV 0 hts (gV tw_2_30 tw_2_12 tw_2_13 tw_1_2 tw_2_14) rfl rfl rfl (by decide +kernel) ⟨Nat.le_of_ble_eq_true rfl, Nat.le_of_ble_eq_true rfl⟩) hC hS hA ((hW.line (i := 11) (by omega)).recv hK) (hW.line (i := 11) (by omega)) rfl rfl hl.1 (Nat.le_of_ble_eq_true rfl) ⟨Nat.zero_le _, Nat.zero_le _⟩ dX2_take_10 (fun r9 h9 => lv_cv h9 ?_)
  refine lv_aload_n hx hb dX2_take_13 rfl (lv_at hl 0 rfl) ?_
  refine lv_iload_n hx hb dX2_take_14 rfl (lv_at hl 1 rfl) ?_
  refine xR_V (A := A) (A1 := A) (b := (SA 0)) (As := [.int x]) (rest := .int (nI ((T 11).length)) :: .int (nI 0) :: .ref (SA 29) :: .ref (SA 0) :: []) ⟨hx, hb, hml, hown, hts⟩ (mX2_textOf (A := A) hst ) (cwV 1 hts (gV tw_3_4 tw_3_6 sel_X2_textOf tw_1_1 tw_3_7) rfl rfl rfl (by decide +kernel) ⟨Nat.le_of_ble_eq_true rfl, Nat.le_of_ble_eq_true rfl⟩) hC hS (fun _ h => h) (fun q h => hA q (Nat.le_trans hS.1 h)) (hW.recv hK) hW rfl rfl hl.1 (Nat.le_of_ble_eq_true rfl) ⟨Nat.le_trans (show 0 + 1 ≤ 1 by omega) (Nat.le_of_ble_eq_true rfl), Nat.le_trans (show 0 + 6 ≤ 6 by omega) (Nat.le_of_ble_eq_true rfl)⟩ dX2_take_15 hnx hlocks (by omega) (by omega) (fun E H9 q _ => ⟨⟨q.1, q.2.1⟩, _, _, q.2.2, hF⟩) (fun rv27 H27 L27 hP27 hk27 hS => ?_)
  have hZ27 := hS.1
  obtain ⟨⟨i, hi, hxi, hrv⟩, hW⟩ := hP27
  subst hrv
  have hO := hW.2.1
  have hR1 := hW.2.2.1
  have hR2 := hW.2.2.2.1
  have ei := hF i (Or.inl hi)
  refine qI_V (A := A) (A1 := A) (b := (SA 0)) (As := [.ref (SA 29), .int (nI 0), .int (nI ((T 11).length)), .ref (SA (7 + 2 * i))]) (rest := []) ⟨hx, hb, hml, hown, hts⟩ (mX2_partInto (A := A) (i := 11) (q := i) (a9 := 0) (b9 := (T 11).length) hAS (by omega) (by omega) (by omega) (Nat.zero_le _) (Nat.le_refl _)) (cwV 4 hts (gV tw_2_55 tw_2_57 sel_X2_partInto tw_1_1 tw_2_58) rfl rfl rfl (by decide +kernel) ⟨Nat.le_of_ble_eq_true rfl, Nat.le_of_ble_eq_true rfl⟩) hC hS (fun _ h => h) (fun q h => hA q (Nat.le_trans hS.1 h)) (hW.recv hK) hW rfl rfl hl.1 (Nat.le_of_ble_eq_true rfl) ⟨Nat.le_trans (show (0 + 1) ≤ 1 by omega) (Nat.le_of_ble_eq_true rfl), Nat.le_trans (show (0 + 6) ≤ 6 by omega) (Nat.le_of_ble_eq_true rfl)⟩ dX2_take_18 (fun rv28 H28 L28 hP28 hk28 hS => ?_)
  have hZ28 := hS.1
  rw [cutL_all, e11] at hP28
  exact vx_ret (q_i hx hb hr hlocks dX2_take_21 hS (by omega) (by omega) ⟨i, hi, hxi, hP28.1, _, _, hP28.2, (FR.up (FR.s13 hF))⟩)

abbrev rmX2_set : Room := { frames := 7, cells := 2, slots := 12, locals := 110 }
theorem mX2_set {l : Launch} {G : Cx} {A : Nat → Prop} (hst : l.stackTraces = false) {SA : Nat → Nat} {X : Nat → List Nat} {es : List Nat} {k : Int32} {x y : Int32} (hAS : ∀ i : Nat, i < 39 → A (SA i)) : vx_Met l yX2_set (.code yX2_set cX2_set 5 (some .int) :: GW) rmX2_set (PC G A [.ref (SA 0), .int x, .int y] (SS G SA X es k)) (qI A (fun r H => ∃ a9 j : Nat, a9 < (X 11).length ∧ x = nI a9 ∧ j < 24 ∧ y = nI j ∧ r = nI ((X 11).getD a9 0) ∧ SS G SA (updT X 11 ((X 11).set a9 (codeT.getD j 0))) es k H)) (xE A (fun E H => ((E = "java/lang/IndexOutOfBoundsException" ∧ ¬ ∃ a9 : Nat, a9 < (X 11).length ∧ x = nI a9) ∨ (E = "java/lang/IllegalArgumentException" ∧ (∃ a9 : Nat, a9 < (X 11).length ∧ x = nI a9) ∧ NS y)) ∧ SS G SA X es k H)) 2 12 A := by
  refine mstartX "Signtext" (by decide +kernel) rfl (Nat.le_of_ble_eq_true rfl) ?_
  intro p e s m below meth c ls hx hb hr hts hown hml hlocks hnx hC hA hW hl
  have hl : lv_has ls 5 [(0, .ref (SA 0)), (1, .int x), (2, .int y)] := hl
  have hK := hC.1
  have hS : va_S A s.heap s.heap [] := va_S.rf
  obtain ⟨T, es2, hW, hF⟩ := hW
  have hO := hW.2.1
  have hR1 := hW.2.2.1
  have hR2 := hW.2.2.2.1
  have e11 := hF 11 (Or.inr (Or.inl rfl))
  refine lv_aload_n hx hb dX2_set_0 rfl (lv_at hl 0 rfl) ?_
  refine va_get (D := G.1) (ci := 6) (C := RX2) (T := TX2) (N := 8) hx hb hts inX2 hown hK (at_P hO) 0 rfl rfl 2 (by decide) (hts _ tw_1_139) (fun _ h9 => h9) rfl dX2_set_1 ?_
  refine lv_iload_n hx hb dX2_set_4 rfl (lv_at hl 1 rfl) ?_
  refine xV_S (A := A) (A1 := A)  (As := [.ref (SA 29), .int x]) (rest := []) ⟨hx, hb, hml, hown, hts⟩ (mX2_needPlace (A := A) hst (q := 11) (by decide)) (va_cwS 2 hts (gS tw_3_180 tw_3_181 tw_1_1 tw_3_182) rfl rfl rfl (by decide +kernel) ⟨Nat.le_of_ble_eq_true rfl, Nat.le_of_ble_eq_true rfl⟩) hC hS (fun _ h => h) (fun q h => hA q (Nat.le_trans hS.1 h))  hW rfl rfl hl.1 (Nat.le_of_ble_eq_true rfl) ⟨Nat.le_trans (show 0 + 1 ≤ 2 by omega) (Nat.le_of_ble_eq_true rfl), Nat.le_trans (show 0 + 6 ≤ 12 by omega) (Nat.le_of_ble_eq_true rfl)⟩ dX2_set_5 hnx hlocks (by omega) (by omega) (fun E H9 q _ => ⟨Or.inl ⟨q.1, by rw [← e11]; exact q.2.1⟩, _, _, q.2.2, hF⟩) (fun H29 L29 hP29 hk29 hS => ?_)
  have hZ29 := hS.1
  obtain ⟨⟨a9, ha9, rfl⟩, hW⟩ := hP29
  have hO := hW.2.1
  have hR1 := hW.2.2.1
  have hR2 := hW.2.2.2.1
  refine lv_iload_n hx hb dX2_set_8 rfl (lv_at hl 2 rfl) ?_
  refine xI_S (A := A) (A1 := A)  (As := [.int y]) (rest := []) ⟨hx, hb, hml, hown, hts⟩ (mX2_codeOf (A := A) hst ) (va_cwS 1 hts (gS tw_3_27 tw_3_28 tw_1_1 tw_3_29) rfl rfl rfl (by decide +kernel) ⟨Nat.le_of_ble_eq_true rfl, Nat.le_of_ble_eq_true rfl⟩) hC hS (fun _ h => h) (fun q h => hA q (Nat.le_trans hS.1 h))  hW rfl rfl hl.1 (Nat.le_of_ble_eq_true rfl) ⟨Nat.le_trans (show (0 + 1) + 1 ≤ 2 by omega) (Nat.le_of_ble_eq_true rfl), Nat.le_trans (show (0 + 6) + 6 ≤ 12 by omega) (Nat.le_of_ble_eq_true rfl)⟩ dX2_set_9 hnx hlocks (by omega) (by omega) (fun E H9 q _ => ⟨Or.inr ⟨q.1, ⟨a9, by rw [← e11]; exact ha9, rfl⟩, q.2.1⟩, _, _, q.2.2, hF⟩) (fun rv30 H30 L30 hP30 hk30 hS => ?_)
  have hZ30 := hS.1
  obtain ⟨⟨j, hj, hyj, hrv⟩, hW⟩ := hP30
  subst hrv
  have hO := hW.2.1
  have hR1 := hW.2.2.1
  have hR2 := hW.2.2.2.1
  refine lv_istore_n (lv' := [(3, .int (nI (codeT.getD j 0))), (0, .ref (SA 0)), (1, .int (nI a9)), (2, .int y)]) hx hb dX2_set_12 rfl hl (by decide) rfl (fun ls hl => ?_)
  refine lv_aload_n hx hb dX2_set_13 rfl (lv_at hl 1 rfl) ?_
  refine va_get (D := G.1) (ci := 6) (C := RX2) (T := TX2) (N := 8) hx hb hts inX2 hown hK (at_P hO) 0 rfl rfl 2 (by decide) (hts _ tw_1_139) (fun _ h9 => h9) rfl dX2_set_14 ?_
  refine lv_iload_n hx hb dX2_set_17 rfl (lv_at hl 2 rfl) ?_
  have i60 := (hW.line (i := 11) (by omega)).1
  refine kV_i (A := A) (b := (SA 29)) (As := [.int (nI a9)]) (rest := []) ⟨hx, hb, hml, hown, hts⟩ (mX0_codeAt (A := A) (ca := SA (8 + 2 * 11)) (i := a9) ha9) (cwV 1 hts (gV tw_2_93 tw_2_20 tw_2_21 tw_1_2 tw_2_22) rfl rfl rfl (by decide +kernel) ⟨Nat.le_of_ble_eq_true rfl, Nat.le_of_ble_eq_true rfl⟩) hC hS hA ((hW.line (i := 11) (by omega)).recv hK) (hW.line (i := 11) (by omega)) rfl rfl hl.1 (Nat.le_of_ble_eq_true rfl) ⟨Nat.le_trans (show ((0 + 1) + 1) ≤ 2 by omega) (Nat.le_of_ble_eq_true rfl), Nat.le_trans (show ((0 + 6) + 6) ≤ 12 by omega) (Nat.le_of_ble_eq_true rfl)⟩ dX2_set_18 (fun r9 h9 => lv_cv h9 ?_)
  refine lv_istore (lv' := [(4, .int (nI ((T 11).getD a9 0))), (3, .int (nI (codeT.getD j 0))), (0, .ref (SA 0)), (1, .int (nI a9)), (2, .int y)]) hx hb dX2_set_21 hl (by decide) rfl (fun ls hl => ?_)
  refine lv_aload_n hx hb dX2_set_23 rfl (lv_at hl 2 rfl) ?_
  refine va_get (D := G.1) (ci := 6) (C := RX2) (T := TX2) (N := 8) hx hb hts inX2 hown hK (at_P hO) 0 rfl rfl 2 (by decide) (hts _ tw_1_139) (fun _ h9 => h9) rfl dX2_set_24 ?_
  refine lv_iload_n hx hb dX2_set_27 rfl (lv_at hl 3 rfl) ?_
  refine lv_iload_n hx hb dX2_set_28 rfl (lv_at hl 1 rfl) ?_
  refine qV_V (A := A) (A1 := ow (SA (7 + 2 * 11)) (SA (8 + 2 * 11)) H30.size) (b := (SA 29)) (As := [.int (nI a9), .int (nI (codeT.getD j 0))]) (rest := []) ⟨hx, hb, hml, hown, hts⟩ (mX0_change (A := ow (SA (7 + 2 * 11)) (SA (8 + 2 * 11)) H30.size) (ca := SA (8 + 2 * 11)) (i := a9) (k0 := codeT.getD j 0) (Or.inr (Or.inl rfl)) ha9 (codeT_lt j)) (cwV 2 hts (gV tw_3_183 tw_3_184 tw_3_185 tw_1_2 tw_3_186) rfl rfl rfl (by decide +kernel) ⟨Nat.le_of_ble_eq_true rfl, Nat.le_of_ble_eq_true rfl⟩) hC hS (ow_in (hAS _ (by omega)) (hAS _ (by omega)) hA hS.1) ow_n ((hW.line (i := 11) (by omega)).recv hK) (hW.line (i := 11) (by omega)) rfl rfl hl.1 (Nat.le_of_ble_eq_true rfl) ⟨Nat.le_trans (show ((0 + 1) + 1) ≤ 2 by omega) (Nat.le_of_ble_eq_true rfl), Nat.le_trans (show ((0 + 6) + 6) ≤ 12 by omega) (Nat.le_of_ble_eq_true rfl)⟩ dX2_set_29 (fun H31 L31 hP31 hk31 hS => ?_)
  have hZ31 := hS.1
  have hW := hW.put (q := 11) (t := (T 11).set a9 (codeT.getD j 0)) (by omega) hk31 hP31
  rw [e11] at hW ha9
  refine lv_iload hx hb dX2_set_32 (lv_at hl 0 rfl) ?_
  exact vx_ret (q_i hx hb hr hlocks dX2_set_34 hS (by omega) (by omega) ⟨a9, j, ha9, rfl, hj, hyj, by rw [e11], _, _, hW, (FR.up hF)⟩)

abbrev rmX2_known : Room := { frames := 8, cells := 3, slots := 18, locals := 132 }
theorem mX2_known {l : Launch} {G : Cx} {A : Nat → Prop} (hst : l.stackTraces = false) {SA : Nat → Nat} {X : Nat → List Nat} {es : List Nat} {k : Int32} {x y : Int32} (hAS : ∀ i : Nat, i < 39 → A (SA i)) : vx_Met l yX2_known (.code yX2_known cX2_known 4 (some .int) :: GW) rmX2_known (PC G A [.ref (SA 0), .int x, .int y] (SS G SA X es k)) (qI A (fun r H => ∃ i j : Nat, i < 4 ∧ x = nI i ∧ j < 7 ∧ y = nI j ∧ (X i ++ knT j).length ≤ 60 ∧ r = nI (X i ++ knT j).length ∧ SS G SA (updT X i (X i ++ knT j)) es k H)) (xE A (fun E H => ((E = "java/lang/IndexOutOfBoundsException" ∧ NT x) ∨ (E = "java/lang/IllegalArgumentException" ∧ (∃ i : Nat, i < 4 ∧ x = nI i) ∧ NK y) ∨ (E = "java/lang/IllegalStateException" ∧ ∃ i j : Nat, i < 4 ∧ x = nI i ∧ j < 7 ∧ y = nI j ∧ 60 < (X i ++ knT j).length)) ∧ SS G SA X es k H)) 3 18 A := by
  refine mstartX "Signtext" (by decide +kernel) rfl (Nat.le_of_ble_eq_true rfl) ?_
  intro p e s m below meth c ls hx hb hr hts hown hml hlocks hnx hC hA hW hl
  have hl : lv_has ls 4 [(0, .ref (SA 0)), (1, .int x), (2, .int y)] := hl
  have hK := hC.1
  have hS : va_S A s.heap s.heap [] := va_S.rf
  obtain ⟨T, es2, hW, hF⟩ := hW
  have hO := hW.2.1
  have hR1 := hW.2.2.1
  have hR2 := hW.2.2.2.1
  refine lv_aload_n hx hb dX2_known_0 rfl (lv_at hl 0 rfl) ?_
  refine lv_iload_n hx hb dX2_known_1 rfl (lv_at hl 1 rfl) ?_
  refine xR_V (A := A) (A1 := A) (b := (SA 0)) (As := [.int x]) (rest := []) ⟨hx, hb, hml, hown, hts⟩ (mX2_textOf (A := A) hst ) (cwV 1 hts (gV tw_3_4 tw_3_6 sel_X2_textOf tw_1_1 tw_3_7) rfl rfl rfl (by decide +kernel) ⟨Nat.le_of_ble_eq_true rfl, Nat.le_of_ble_eq_true rfl⟩) hC hS (fun _ h => h) (fun q h => hA q (Nat.le_trans hS.1 h)) (hW.recv hK) hW rfl rfl hl.1 (Nat.le_of_ble_eq_true rfl) ⟨Nat.le_trans (show 0 + 1 ≤ 3 by omega) (Nat.le_of_ble_eq_true rfl), Nat.le_trans (show 0 + 6 ≤ 18 by omega) (Nat.le_of_ble_eq_true rfl)⟩ dX2_known_2 hnx hlocks (by omega) (by omega) (fun E H9 q _ => ⟨Or.inl ⟨q.1, q.2.1⟩, _, _, q.2.2, hF⟩) (fun rv32 H32 L32 hP32 hk32 hS => ?_)
  have hZ32 := hS.1
  obtain ⟨⟨i, hi, hxi, hrv⟩, hW⟩ := hP32
  subst hrv
  have hO := hW.2.1
  have hR1 := hW.2.2.1
  have hR2 := hW.2.2.2.1
  have ei := hF i (Or.inl hi)
  refine lv_astore_n (lv' := [(3, .ref (SA (7 + 2 * i))), (0, .ref (SA 0)), (1, .int x), (2, .int y)]) hx hb dX2_known_5 rfl hl (by decide) rfl (fun ls hl => ?_)
  refine lv_aload_n hx hb dX2_known_6 rfl (lv_at hl 1 rfl) ?_
  refine lv_aload_n hx hb dX2_known_7 rfl (lv_at hl 0 rfl) ?_
  refine lv_aload_n hx hb dX2_known_8 rfl (lv_at hl 1 rfl) ?_
  refine lv_iload_n hx hb dX2_known_9 rfl (lv_at hl 3 rfl) ?_
  refine xR_V (A := A) (A1 := A) (b := (SA 0)) (As := [.int y]) (rest := .ref (SA (7 + 2 * i)) :: .ref (SA 0) :: []) ⟨hx, hb, hml, hown, hts⟩ (mX2_knownOf (A := A) hst ) (cwV 1 hts (gV tw_3_162 tw_3_164 sel_X2_knownOf tw_1_1 tw_3_165) rfl rfl rfl (by decide +kernel) ⟨Nat.le_of_ble_eq_true rfl, Nat.le_of_ble_eq_true rfl⟩) hC hS (fun _ h => h) (fun q h => hA q (Nat.le_trans hS.1 h)) (hW.recv hK) hW rfl rfl hl.1 (Nat.le_of_ble_eq_true rfl) ⟨Nat.le_trans (show (0 + 1) + 1 ≤ 3 by omega) (Nat.le_of_ble_eq_true rfl), Nat.le_trans (show (0 + 6) + 6 ≤ 18 by omega) (Nat.le_of_ble_eq_true rfl)⟩ dX2_known_10 hnx hlocks (by omega) (by omega) (fun E H9 q _ => ⟨Or.inr (Or.inl ⟨q.1, ⟨i, hi, hxi⟩, q.2.1⟩), _, _, q.2.2, hF⟩) (fun rv33 H33 L33 hP33 hk33 hS => ?_)
  have hZ33 := hS.1
  obtain ⟨⟨j, hj, hyj, hrv⟩, hW⟩ := hP33
  rw [show 15 + 2 * j = 7 + 2 * (4 + j) by omega] at hrv
  subst hrv
  have ek := hW.2.2.2.2.2.2.2.2.2 j hj
  refine lv_aload_n hx hb dX2_known_13 rfl (lv_at hl 0 rfl) ?_
  refine xI_V (A := A) (A1 := A) (b := (SA 0)) (As := [.ref (SA (7 + 2 * i)), .ref (SA (7 + 2 * (4 + j))), .ref (SA (7 + 2 * i))]) (rest := []) ⟨hx, hb, hml, hown, hts⟩ (mX2_joinInto (A := A) hst (i := i) (j := 4 + j) (q := i) hAS (by omega) (by omega) (by omega) (by omega) (by omega)) (cwV 3 hts (gV tw_3_32 tw_3_34 sel_X2_joinInto tw_1_1 tw_3_35) rfl rfl rfl (by decide +kernel) ⟨Nat.le_of_ble_eq_true rfl, Nat.le_of_ble_eq_true rfl⟩) hC hS (fun _ h => h) (fun q h => hA q (Nat.le_trans hS.1 h)) (hW.recv hK) hW rfl rfl hl.1 (Nat.le_of_ble_eq_true rfl) ⟨Nat.le_trans (show ((0 + 1) + 1) + 1 ≤ 3 by omega) (Nat.le_of_ble_eq_true rfl), Nat.le_trans (show ((0 + 6) + 6) + 6 ≤ 18 by omega) (Nat.le_of_ble_eq_true rfl)⟩ dX2_known_14 hnx hlocks (by omega) (by omega) (fun E H9 w _ => ⟨Or.inr (Or.inr ⟨w.1, i, j, hi, hxi, hj, hyj, by rw [← ei, ← ek]; exact w.2.1⟩), _, _, w.2.2, hF⟩) (fun rv34 H34 L34 hP34 hk34 hS => ?_)
  have hZ34 := hS.1
  rw [ei, ek] at hP34
  exact vx_ret (q_i hx hb hr hlocks dX2_known_17 hS (by omega) (by omega) ⟨i, j, hi, hxi, hj, hyj, hP34.2.1, hP34.1, _, _, hP34.2.2, (FR.up (FR.s13 hF))⟩)

abbrev rmX2_takePiece : Room := { frames := 7, cells := 2, slots := 12, locals := 111 }
theorem mX2_takePiece {l : Launch} {G : Cx} {A : Nat → Prop} (hst : l.stackTraces = false) {SA : Nat → Nat} {X : Nat → List Nat} {es : List Nat} {k : Int32} {x y : Int32} (hAS : ∀ i : Nat, i < 39 → A (SA i)) : vx_Met l yX2_takePiece (.code yX2_takePiece cX2_takePiece 3 (some .int) :: GW) rmX2_takePiece (PC G A [.ref (SA 0), .int x, .int y] (SS G SA X es k)) (qI A (fun r H => ∃ j i : Nat, j < es.length ∧ x = nI j ∧ i < 4 ∧ y = nI i ∧ r = nI (cutL (X 14) (bgE es j) (es.getD j 0)).length ∧ SS G SA (updT X i (cutL (X 14) (bgE es j) (es.getD j 0))) es k H)) (xE A (fun E H => (E = "java/lang/IndexOutOfBoundsException" ∧ ((¬ ∃ j : Nat, j < es.length ∧ x = nI j) ∨ NT y)) ∧ SS G SA X es k H)) 2 12 A := by
  refine mstartX "Signtext" (by decide +kernel) rfl (Nat.le_of_ble_eq_true rfl) ?_
  intro p e s m below meth c ls hx hb hr hts hown hml hlocks hnx hC hA hW hl
  have hl : lv_has ls 3 [(0, .ref (SA 0)), (1, .int x), (2, .int y)] := hl
  have hK := hC.1
  have hS : va_S A s.heap s.heap [] := va_S.rf
  obtain ⟨T, es2, hW, hF⟩ := hW
  have hO := hW.2.1
  have hR1 := hW.2.2.1
  have hR2 := hW.2.2.2.1
  have e14 := hF 14 (Or.inr (Or.inr rfl))
  refine lv_aload_n hx hb dX2_takePiece_0 rfl (lv_at hl 0 rfl) ?_
  refine lv_iload_n hx hb dX2_takePiece_1 rfl (lv_at hl 1 rfl) ?_
  refine xV_V (A := A) (A1 := A) (b := (SA 0)) (As := [.int x]) (rest := []) ⟨hx, hb, hml, hown, hts⟩ (mX2_needPiece (A := A) hst ) (cwV 1 hts (gV tw_3_215 tw_3_217 sel_X2_needPiece tw_1_1 tw_3_218) rfl rfl rfl (by decide +kernel) ⟨Nat.le_of_ble_eq_true rfl, Nat.le_of_ble_eq_true rfl⟩) hC hS (fun _ h => h) (fun q h => hA q (Nat.le_trans hS.1 h)) (hW.recv hK) hW rfl rfl hl.1 (Nat.le_of_ble_eq_true rfl) ⟨Nat.le_trans (show 0 + 1 ≤ 2 by omega) (Nat.le_of_ble_eq_true rfl), Nat.le_trans (show 0 + 6 ≤ 12 by omega) (Nat.le_of_ble_eq_true rfl)⟩ dX2_takePiece_2 hnx hlocks (by omega) (by omega) (fun E H9 q _ => ⟨⟨q.1, Or.inl q.2.1⟩, _, _, q.2.2, hF⟩) (fun H35 L35 hP35 hk35 hS => ?_)
  have hZ35 := hS.1
  obtain ⟨⟨j, hj, rfl⟩, hW⟩ := hP35
  have hO := hW.2.1
  have hR1 := hW.2.2.1
  have hR2 := hW.2.2.2.1
  refine lv_aload_n hx hb dX2_takePiece_5 rfl (lv_at hl 0 rfl) ?_
  refine lv_iload_n hx hb dX2_takePiece_6 rfl (lv_at hl 1 rfl) ?_
  refine lv_aload_n hx hb dX2_takePiece_7 rfl (lv_at hl 0 rfl) ?_
  refine lv_iload_n hx hb dX2_takePiece_8 rfl (lv_at hl 2 rfl) ?_
  refine xR_V (A := A) (A1 := A) (b := (SA 0)) (As := [.int y]) (rest := .int (nI j) :: .ref (SA 0) :: []) ⟨hx, hb, hml, hown, hts⟩ (mX2_textOf (A := A) hst ) (cwV 1 hts (gV tw_3_4 tw_3_6 sel_X2_textOf tw_1_1 tw_3_7) rfl rfl rfl (by decide +kernel) ⟨Nat.le_of_ble_eq_true rfl, Nat.le_of_ble_eq_true rfl⟩) hC hS (fun _ h => h) (fun q h => hA q (Nat.le_trans hS.1 h)) (hW.recv hK) hW rfl rfl hl.1 (Nat.le_of_ble_eq_true rfl) ⟨Nat.le_trans (show (0 + 1) + 1 ≤ 2 by omega) (Nat.le_of_ble_eq_true rfl), Nat.le_trans (show (0 + 6) + 6 ≤ 12 by omega) (Nat.le_of_ble_eq_true rfl)⟩ dX2_takePiece_9 hnx hlocks (by omega) (by omega) (fun E H9 q _ => ⟨⟨q.1, Or.inr q.2.1⟩, _, _, q.2.2, hF⟩) (fun rv36 H36 L36 hP36 hk36 hS => ?_)
  have hZ36 := hS.1
  obtain ⟨⟨i, hi, hxi, hrv⟩, hW⟩ := hP36
  subst hrv
  have hO := hW.2.1
  have hR1 := hW.2.2.1
  have hR2 := hW.2.2.2.1
  have ei := hF i (Or.inl hi)
  refine qI_V (A := A) (A1 := A) (b := (SA 0)) (As := [.int (nI j), .ref (SA (7 + 2 * i))]) (rest := []) ⟨hx, hb, hml, hown, hts⟩ (mX2_pieceInto (A := A) (q := i) (j := j) hAS (by omega) hj) (cwV 2 hts (gV tw_3_219 tw_3_221 sel_X2_pieceInto tw_1_1 tw_3_222) rfl rfl rfl (by decide +kernel) ⟨Nat.le_of_ble_eq_true rfl, Nat.le_of_ble_eq_true rfl⟩) hC hS (fun _ h => h) (fun q h => hA q (Nat.le_trans hS.1 h)) (hW.recv hK) hW rfl rfl hl.1 (Nat.le_of_ble_eq_true rfl) ⟨Nat.le_trans (show ((0 + 1) + 1) ≤ 2 by omega) (Nat.le_of_ble_eq_true rfl), Nat.le_trans (show ((0 + 6) + 6) ≤ 12 by omega) (Nat.le_of_ble_eq_true rfl)⟩ dX2_takePiece_12 (fun rv37 H37 L37 hP37 hk37 hS => ?_)
  have hZ37 := hS.1
  rw [e14] at hP37
  exact vx_ret (q_i hx hb hr hlocks dX2_takePiece_15 hS (by omega) (by omega) ⟨j, i, hj, rfl, hi, hxi, hP37.1, _, _, hP37.2, (FR.up (FR.s13 hF))⟩)
