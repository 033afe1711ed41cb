/-! The class, 4: more calls that change -/
def repL (t : List Nat) : Nat → List Nat
  | 0 => []
  | m + 1 => repL t m ++ t
theorem repL_len (t : List Nat) (m : Nat) : (repL t m).length = t.length * m := by
  induction m with
  | zero => rfl
  | succ m ih => show (repL t m ++ t).length = _; rw [List.length_append, ih, Nat.mul_succ]
def badS (x : Int32) : Prop := x ≠ -1 ∧ NS x
def comeS (a b c d e : Int32) (w : List Nat) : Prop := ∃ w1 w2 w3 w4, addS [] a w1 ∧ addS w1 b w2 ∧ addS w2 c w3 ∧ addS w3 d w4 ∧ addS w4 e w
def oP (SA : Nat → Nat) (a b c d n : Nat) : Nat → Prop := fun q => q = SA a ∨ q = SA b ∨ q = SA c ∨ q = SA d ∨ n ≤ q
theorem oP_n {SA : Nat → Nat} {a b c d n : Nat} : ∀ q : Nat, n ≤ q → oP SA a b c d n q := fun _ h => Or.inr (Or.inr (Or.inr (Or.inr h)))
theorem oP_in {A : Nat → Prop} {SA : Nat → Nat} {a b c d n n0 : Nat} (ha : A (SA a)) (hb : A (SA b)) (hc : A (SA c)) (hd : A (SA d)) (hA : ∀ q : Nat, n0 ≤ q → A q) (hn : n0 ≤ n) : ∀ q, oP SA a b c d n q → A q := fun q h => by
  rcases h with rfl | rfl | rfl | rfl | h
  · exact ha
  · exact hb
  · exact hc
  · exact hd
  · exact hA q (Nat.le_trans hn h)
theorem SW.oPn {G : Cx} {SA : Nat → Nat} {T : Nat → List Nat} {es es2 : List Nat} {k : Int32} {H : Heap} (h : SW G SA T es es2 k H) {a b c d i : Nat} (hi : i < 39) (ha : a < 39) (hb : b < 39) (hc : c < 39) (hd : d < 39) (h1 : i ≠ a) (h2 : i ≠ b) (h3 : i ≠ c) (h4 : i ≠ d) : ¬ oP SA a b c d H.size (SA i) := fun q => by
  rcases q with q | q | q | q | q
  · exact h.ne hi ha h1 q
  · exact h.ne hi hb h2 q
  · exact h.ne hi hc h3 q
  · exact h.ne hi hd h4 q
  · exact absurd (h.lt i hi) (Nat.not_lt_of_le q)
theorem SW.putP {G : Cx} {SA : Nat → Nat} {T : Nat → List Nat} {es es1 es2 : List Nat} {k : Int32} {H H1 : Heap} {u : List Nat} (h : SW G SA T es es2 k H) (hk : Pilot.CSigntextLaw_law_r7290_016d97.kp (oP SA 3 35 36 4 H.size) H H1) (hP : PA G (SA 3) (SA 35) (SA 36) (SA 4) u es1 H1) : SW G SA (updT T 14 u) es1 es2 k H1 := by
  have hX : ∀ i : Nat, i < 39 → i ≠ 3 → i ≠ 35 → i ≠ 36 → i ≠ 4 → ¬ oP SA 3 35 36 4 H.size (SA i) := fun i hi h1 h2 h3 h4 => h.oPn hi (by decide) (by decide) (by decide) (by decide) h1 h2 h3 h4
  refine ⟨h.1, at_kp h.2.1 hk (hX 0 (by decide) (by decide) (by decide) (by decide) (by decide)), at_kp h.2.2.1 hk (hX 1 (by decide) (by decide) (by decide) (by decide) (by decide)), at_kp h.2.2.2.1 hk (hX 2 (by decide) (by decide) (by decide) (by decide) (by decide)), fun i hi => ?_, hP.1, by rw [updT_s]; exact hP.2.2.1, h.trd.1.kp hk (hX 5 (by decide) (by decide) (by decide) (by decide) (by decide)) (hX 6 (by decide) (by decide) (by decide) (by decide) (by decide)), by rw [updT_n (by decide)]; exact h.trd.2.2.1, fun i hi => by rw [updT_n (by omega)]; exact h.2.2.2.2.2.2.2.2.2 i hi⟩
  by_cases e : i = 14
  · subst e; rw [updT_s]; exact hP.2.1
  · rw [updT_n e]; exact (h.line hi).kp hk (hX _ (by omega) (by omega) (by omega) (by omega) (by omega)) (hX _ (by omega) (by omega) (by omega) (by omega) (by omega))
theorem SW.putTr {G : Cx} {SA : Nat → Nat} {T : Nat → List Nat} {es es1 es2 : List Nat} {k : Int32} {H H1 : Heap} {u : List Nat} (h : SW G SA T es es2 k H) (hk : Pilot.CSigntextLaw_law_r7290_016d97.kp (oP SA 5 37 38 6 H.size) H H1) (hP : PA G (SA 5) (SA 37) (SA 38) (SA 6) u es1 H1) : SW G SA (updT T 15 u) es es1 k H1 := by
  have hX : ∀ i : Nat, i < 39 → i ≠ 5 → i ≠ 37 → i ≠ 38 → i ≠ 6 → ¬ oP SA 5 37 38 6 H.size (SA i) := fun i hi h1 h2 h3 h4 => h.oPn hi (by decide) (by decide) (by decide) (by decide) h1 h2 h3 h4
  refine ⟨h.1, at_kp h.2.1 hk (hX 0 (by decide) (by decide) (by decide) (by decide) (by decide)), at_kp h.2.2.1 hk (hX 1 (by decide) (by decide) (by decide) (by decide) (by decide)), at_kp h.2.2.2.1 hk (hX 2 (by decide) (by decide) (by decide) (by decide) (by decide)), fun i hi => ?_, h.pcs.1.kp hk (hX 3 (by decide) (by decide) (by decide) (by decide) (by decide)) (hX 4 (by decide) (by decide) (by decide) (by decide) (by decide)), by rw [updT_n (by decide)]; exact h.pcs.2.2.1, hP.1, by rw [updT_s]; exact hP.2.2.1, fun i hi => by rw [updT_n (by omega)]; exact h.2.2.2.2.2.2.2.2.2 i hi⟩
  by_cases e : i = 15
  · subst e; rw [updT_s]; exact hP.2.1
  · rw [updT_n e]; exact (h.line hi).kp hk (hX _ (by omega) (by omega) (by omega) (by omega) (by omega)) (hX _ (by omega) (by omega) (by omega) (by omega) (by omega))
theorem dX2_put_0 : decode cX2_put 0 = .ok (.aload_n 0, 1) := by decide +kernel
theorem dX2_put_1 : decode cX2_put 1 = .ok (.iload_n 1, 1) := by decide +kernel
theorem dX2_put_2 : decode cX2_put 2 = .ok (.invokevirtual 51, 3) := by decide +kernel
theorem dX2_put_5 : decode cX2_put 5 = .ok (.astore 7, 2) := by decide +kernel
theorem dX2_put_7 : decode cX2_put 7 = .ok (.aload_n 0, 1) := by decide +kernel
theorem dX2_put_8 : decode cX2_put 8 = .ok (.getfield 34, 3) := by decide +kernel
theorem dX2_put_11 : decode cX2_put 11 = .ok (.invokevirtual 55, 3) := by decide +kernel
theorem dX2_put_14 : decode cX2_put 14 = .ok (.aload_n 0, 1) := by decide +kernel
theorem dX2_put_15 : decode cX2_put 15 = .ok (.iload_n 2, 1) := by decide +kernel
theorem dX2_put_16 : decode cX2_put 16 = .ok (.invokevirtual 58, 3) := by decide +kernel
theorem dX2_put_19 : decode cX2_put 19 = .ok (.aload_n 0, 1) := by decide +kernel
theorem dX2_put_20 : decode cX2_put 20 = .ok (.iload_n 3, 1) := by decide +kernel
theorem dX2_put_21 : decode cX2_put 21 = .ok (.invokevirtual 58, 3) := by decide +kernel
theorem dX2_put_24 : decode cX2_put 24 = .ok (.aload_n 0, 1) := by decide +kernel
theorem dX2_put_25 : decode cX2_put 25 = .ok (.iload 4, 2) := by decide +kernel
theorem dX2_put_27 : decode cX2_put 27 = .ok (.invokevirtual 58, 3) := by decide +kernel
theorem dX2_put_30 : decode cX2_put 30 = .ok (.aload_n 0, 1) := by decide +kernel
theorem dX2_put_31 : decode cX2_put 31 = .ok (.iload 5, 2) := by decide +kernel
theorem dX2_put_33 : decode cX2_put 33 = .ok (.invokevirtual 58, 3) := by decide +kernel
theorem dX2_put_36 : decode cX2_put 36 = .ok (.aload_n 0, 1) := by decide +kernel
theorem dX2_put_37 : decode cX2_put 37 = .ok (.iload 6, 2) := by decide +kernel
theorem dX2_put_39 : decode cX2_put 39 = .ok (.invokevirtual 58, 3) := by decide +kernel
theorem dX2_put_42 : decode cX2_put 42 = .ok (.aload_n 0, 1) := by decide +kernel
theorem dX2_put_43 : decode cX2_put 43 = .ok (.aload 7, 2) := by decide +kernel
theorem dX2_put_45 : decode cX2_put 45 = .ok (.aload_n 0, 1) := by decide +kernel
theorem dX2_put_46 : decode cX2_put 46 = .ok (.getfield 34, 3) := by decide +kernel
theorem dX2_put_49 : decode cX2_put 49 = .ok (.aload 7, 2) := by decide +kernel
theorem dX2_put_51 : decode cX2_put 51 = .ok (.invokevirtual 62, 3) := by decide +kernel
theorem dX2_put_54 : decode cX2_put 54 = .ok (.ireturn, 1) := by decide +kernel
theorem dX2_times_0 : decode cX2_times 0 = .ok (.aload_n 0, 1) := by decide +kernel
theorem dX2_times_1 : decode cX2_times 1 = .ok (.iload_n 1, 1) := by decide +kernel
theorem dX2_times_2 : decode cX2_times 2 = .ok (.invokevirtual 51, 3) := by decide +kernel
theorem dX2_times_5 : decode cX2_times 5 = .ok (.astore 4, 2) := by decide +kernel
theorem dX2_times_7 : decode cX2_times 7 = .ok (.aload_n 0, 1) := by decide +kernel
theorem dX2_times_8 : decode cX2_times 8 = .ok (.iload_n 3, 1) := by decide +kernel
theorem dX2_times_9 : decode cX2_times 9 = .ok (.invokevirtual 51, 3) := by decide +kernel
theorem dX2_times_12 : decode cX2_times 12 = .ok (.astore 5, 2) := by decide +kernel
theorem dX2_times_14 : decode cX2_times 14 = .ok (.iload_n 2, 1) := by decide +kernel
theorem dX2_times_15 : decode cX2_times 15 = .ok (.ifCond .lt 9, 3) := by decide +kernel
theorem dX2_times_18 : decode cX2_times 18 = .ok (.iload_n 2, 1) := by decide +kernel
theorem dX2_times_19 : decode cX2_times 19 = .ok (.bipush 60, 2) := by decide +kernel
theorem dX2_times_21 : decode cX2_times 21 = .ok (.if_icmp .le 11, 3) := by decide +kernel
theorem dX2_times_24 : decode cX2_times 24 = .ok (.new 81, 3) := by decide +kernel
theorem dX2_times_27 : decode cX2_times 27 = .ok (.dup, 1) := by decide +kernel
theorem dX2_times_28 : decode cX2_times 28 = .ok (.invokespecial 83, 3) := by decide +kernel
theorem dX2_times_31 : decode cX2_times 31 = .ok (.athrow, 1) := by decide +kernel
theorem dX2_times_32 : decode cX2_times 32 = .ok (.aload 4, 2) := by decide +kernel
theorem dX2_times_34 : decode cX2_times 34 = .ok (.invokevirtual 66, 3) := by decide +kernel
theorem dX2_times_37 : decode cX2_times 37 = .ok (.iload_n 2, 1) := by decide +kernel
theorem dX2_times_38 : decode cX2_times 38 = .ok (.imul, 1) := by decide +kernel
theorem dX2_times_39 : decode cX2_times 39 = .ok (.invokestatic 84, 3) := by decide +kernel
theorem dX2_times_42 : decode cX2_times 42 = .ok (.aload_n 0, 1) := by decide +kernel
theorem dX2_times_43 : decode cX2_times 43 = .ok (.getfield 37, 3) := by decide +kernel
theorem dX2_times_46 : decode cX2_times 46 = .ok (.invokevirtual 55, 3) := by decide +kernel
theorem dX2_times_49 : decode cX2_times 49 = .ok (.iconst 0, 1) := by decide +kernel
theorem dX2_times_50 : decode cX2_times 50 = .ok (.istore 6, 2) := by decide +kernel
theorem dX2_times_52 : decode cX2_times 52 = .ok (.iload 6, 2) := by decide +kernel
theorem dX2_times_54 : decode cX2_times 54 = .ok (.iload_n 2, 1) := by decide +kernel
theorem dX2_times_55 : decode cX2_times 55 = .ok (.if_icmp .ge 18, 3) := by decide +kernel
theorem dX2_times_58 : decode cX2_times 58 = .ok (.aload_n 0, 1) := by decide +kernel
theorem dX2_times_59 : decode cX2_times 59 = .ok (.getfield 37, 3) := by decide +kernel
theorem dX2_times_62 : decode cX2_times 62 = .ok (.aload 4, 2) := by decide +kernel
theorem dX2_times_64 : decode cX2_times 64 = .ok (.invokevirtual 87, 3) := by decide +kernel
theorem dX2_times_67 : decode cX2_times 67 = .ok (.iinc 6 1, 3) := by decide +kernel
theorem dX2_times_70 : decode cX2_times 70 = .ok (.goto (-18), 3) := by decide +kernel
theorem dX2_times_73 : decode cX2_times 73 = .ok (.aload 5, 2) := by decide +kernel
theorem dX2_times_75 : decode cX2_times 75 = .ok (.aload_n 0, 1) := by decide +kernel
theorem dX2_times_76 : decode cX2_times 76 = .ok (.getfield 37, 3) := by decide +kernel
theorem dX2_times_79 : decode cX2_times 79 = .ok (.invokevirtual 91, 3) := by decide +kernel
theorem dX2_times_82 : decode cX2_times 82 = .ok (.aload 5, 2) := by decide +kernel
theorem dX2_times_84 : decode cX2_times 84 = .ok (.invokevirtual 66, 3) := by decide +kernel
theorem dX2_times_87 : decode cX2_times 87 = .ok (.ireturn, 1) := by decide +kernel
theorem dX2_number_0 : decode cX2_number 0 = .ok (.aload_n 0, 1) := by decide +kernel
theorem dX2_number_1 : decode cX2_number 1 = .ok (.iload_n 1, 1) := by decide +kernel
theorem dX2_number_2 : decode cX2_number 2 = .ok (.invokevirtual 51, 3) := by decide +kernel
theorem dX2_number_5 : decode cX2_number 5 = .ok (.astore 4, 2) := by decide +kernel
theorem dX2_number_7 : decode cX2_number 7 = .ok (.aload_n 0, 1) := by decide +kernel
theorem dX2_number_8 : decode cX2_number 8 = .ok (.getfield 34, 3) := by decide +kernel
theorem dX2_number_11 : decode cX2_number 11 = .ok (.invokevirtual 55, 3) := by decide +kernel
theorem dX2_number_14 : decode cX2_number 14 = .ok (.aload_n 0, 1) := by decide +kernel
theorem dX2_number_15 : decode cX2_number 15 = .ok (.getfield 34, 3) := by decide +kernel
theorem dX2_number_18 : decode cX2_number 18 = .ok (.iload_n 2, 1) := by decide +kernel
theorem dX2_number_19 : decode cX2_number 19 = .ok (.i2l, 1) := by decide +kernel
theorem dX2_number_20 : decode cX2_number 20 = .ok (.invokevirtual 101, 3) := by decide +kernel
theorem dX2_number_23 : decode cX2_number 23 = .ok (.aload_n 0, 1) := by decide +kernel
theorem dX2_number_24 : decode cX2_number 24 = .ok (.aload 4, 2) := by decide +kernel
theorem dX2_number_26 : decode cX2_number 26 = .ok (.iload_n 3, 1) := by decide +kernel
theorem dX2_number_27 : decode cX2_number 27 = .ok (.invokevirtual 105, 3) := by decide +kernel
theorem dX2_number_30 : decode cX2_number 30 = .ok (.ireturn, 1) := by decide +kernel
theorem dX2_great_0 : decode cX2_great 0 = .ok (.aload_n 0, 1) := by decide +kernel
theorem dX2_great_1 : decode cX2_great 1 = .ok (.iload_n 1, 1) := by decide +kernel
theorem dX2_great_2 : decode cX2_great 2 = .ok (.invokevirtual 51, 3) := by decide +kernel
theorem dX2_great_5 : decode cX2_great 5 = .ok (.astore 4, 2) := by decide +kernel
theorem dX2_great_7 : decode cX2_great 7 = .ok (.aload_n 0, 1) := by decide +kernel
theorem dX2_great_8 : decode cX2_great 8 = .ok (.getfield 34, 3) := by decide +kernel
theorem dX2_great_11 : decode cX2_great 11 = .ok (.invokevirtual 55, 3) := by decide +kernel
theorem dX2_great_14 : decode cX2_great 14 = .ok (.aload_n 0, 1) := by decide +kernel
theorem dX2_great_15 : decode cX2_great 15 = .ok (.getfield 34, 3) := by decide +kernel
theorem dX2_great_18 : decode cX2_great 18 = .ok (.iload_n 2, 1) := by decide +kernel
theorem dX2_great_19 : decode cX2_great 19 = .ok (.i2l, 1) := by decide +kernel
theorem dX2_great_20 : decode cX2_great 20 = .ok (.bipush 32, 2) := by decide +kernel
theorem dX2_great_22 : decode cX2_great 22 = .ok (.lshl, 1) := by decide +kernel
theorem dX2_great_23 : decode cX2_great 23 = .ok (.iload_n 3, 1) := by decide +kernel
theorem dX2_great_24 : decode cX2_great 24 = .ok (.i2l, 1) := by decide +kernel
theorem dX2_great_25 : decode cX2_great 25 = .ok (.ldc2_w 109, 3) := by decide +kernel
theorem dX2_great_28 : decode cX2_great 28 = .ok (.land, 1) := by decide +kernel
theorem dX2_great_29 : decode cX2_great 29 = .ok (.lor, 1) := by decide +kernel
theorem dX2_great_30 : decode cX2_great 30 = .ok (.invokevirtual 101, 3) := by decide +kernel
theorem dX2_great_33 : decode cX2_great 33 = .ok (.aload_n 0, 1) := by decide +kernel
theorem dX2_great_34 : decode cX2_great 34 = .ok (.aload 4, 2) := by decide +kernel
theorem dX2_great_36 : decode cX2_great 36 = .ok (.iconst 0, 1) := by decide +kernel
theorem dX2_great_37 : decode cX2_great 37 = .ok (.invokevirtual 105, 3) := by decide +kernel
theorem dX2_great_40 : decode cX2_great 40 = .ok (.ireturn, 1) := by decide +kernel
theorem dX2_truth_0 : decode cX2_truth 0 = .ok (.aload_n 0, 1) := by decide +kernel
theorem dX2_truth_1 : decode cX2_truth 1 = .ok (.iload_n 1, 1) := by decide +kernel
theorem dX2_truth_2 : decode cX2_truth 2 = .ok (.invokevirtual 51, 3) := by decide +kernel
theorem dX2_truth_5 : decode cX2_truth 5 = .ok (.astore 4, 2) := by decide +kernel
theorem dX2_truth_7 : decode cX2_truth 7 = .ok (.aload_n 0, 1) := by decide +kernel
theorem dX2_truth_8 : decode cX2_truth 8 = .ok (.getfield 34, 3) := by decide +kernel
theorem dX2_truth_11 : decode cX2_truth 11 = .ok (.invokevirtual 55, 3) := by decide +kernel
theorem dX2_truth_14 : decode cX2_truth 14 = .ok (.aload_n 0, 1) := by decide +kernel
theorem dX2_truth_15 : decode cX2_truth 15 = .ok (.getfield 34, 3) := by decide +kernel
theorem dX2_truth_18 : decode cX2_truth 18 = .ok (.iload_n 2, 1) := by decide +kernel
theorem dX2_truth_19 : decode cX2_truth 19 = .ok (.ifCond .eq 8, 3) := by decide +kernel
theorem dX2_truth_22 : decode cX2_truth 22 = .ok (.ldc 111, 2) := by decide +kernel
theorem dX2_truth_24 : decode cX2_truth 24 = .ok (.goto 5, 3) := by decide +kernel
theorem dX2_truth_27 : decode cX2_truth 27 = .ok (.ldc 113, 2) := by decide +kernel
theorem dX2_truth_29 : decode cX2_truth 29 = .ok (.invokevirtual 47, 3) := by decide +kernel
theorem dX2_truth_32 : decode cX2_truth 32 = .ok (.aload_n 0, 1) := by decide +kernel
theorem dX2_truth_33 : decode cX2_truth 33 = .ok (.aload 4, 2) := by decide +kernel
theorem dX2_truth_35 : decode cX2_truth 35 = .ok (.iload_n 3, 1) := by decide +kernel
theorem dX2_truth_36 : decode cX2_truth 36 = .ok (.invokevirtual 105, 3) := by decide +kernel
theorem dX2_truth_39 : decode cX2_truth 39 = .ok (.ireturn, 1) := by decide +kernel
theorem dX2_ahead_0 : decode cX2_ahead 0 = .ok (.aload_n 0, 1) := by decide +kernel
theorem dX2_ahead_1 : decode cX2_ahead 1 = .ok (.iload_n 1, 1) := by decide +kernel
theorem dX2_ahead_2 : decode cX2_ahead 2 = .ok (.invokevirtual 51, 3) := by decide +kernel
theorem dX2_ahead_5 : decode cX2_ahead 5 = .ok (.astore_n 3, 1) := by decide +kernel
theorem dX2_ahead_6 : decode cX2_ahead 6 = .ok (.aload_n 0, 1) := by decide +kernel
theorem dX2_ahead_7 : decode cX2_ahead 7 = .ok (.getfield 34, 3) := by decide +kernel
theorem dX2_ahead_10 : decode cX2_ahead 10 = .ok (.invokevirtual 55, 3) := by decide +kernel
theorem dX2_ahead_13 : decode cX2_ahead 13 = .ok (.aload_n 0, 1) := by decide +kernel
theorem dX2_ahead_14 : decode cX2_ahead 14 = .ok (.getfield 34, 3) := by decide +kernel
theorem dX2_ahead_17 : decode cX2_ahead 17 = .ok (.iload_n 2, 1) := by decide +kernel
theorem dX2_ahead_18 : decode cX2_ahead 18 = .ok (.invokestatic 115, 3) := by decide +kernel
theorem dX2_ahead_21 : decode cX2_ahead 21 = .ok (.invokevirtual 119, 3) := by decide +kernel
theorem dX2_ahead_24 : decode cX2_ahead 24 = .ok (.aload_n 0, 1) := by decide +kernel
theorem dX2_ahead_25 : decode cX2_ahead 25 = .ok (.aload_n 3, 1) := by decide +kernel
theorem dX2_ahead_26 : decode cX2_ahead 26 = .ok (.iconst 1, 1) := by decide +kernel
theorem dX2_ahead_27 : decode cX2_ahead 27 = .ok (.invokevirtual 105, 3) := by decide +kernel
theorem dX2_ahead_30 : decode cX2_ahead 30 = .ok (.ireturn, 1) := by decide +kernel
theorem dX2_takePart_0 : decode cX2_takePart 0 = .ok (.aload_n 0, 1) := by decide +kernel
theorem dX2_takePart_1 : decode cX2_takePart 1 = .ok (.iload_n 1, 1) := by decide +kernel
theorem dX2_takePart_2 : decode cX2_takePart 2 = .ok (.invokevirtual 51, 3) := by decide +kernel
theorem dX2_takePart_5 : decode cX2_takePart 5 = .ok (.astore 4, 2) := by decide +kernel
theorem dX2_takePart_7 : decode cX2_takePart 7 = .ok (.aload_n 0, 1) := by decide +kernel
theorem dX2_takePart_8 : decode cX2_takePart 8 = .ok (.getfield 19, 3) := by decide +kernel
theorem dX2_takePart_11 : decode cX2_takePart 11 = .ok (.iload_n 2, 1) := by decide +kernel
theorem dX2_takePart_12 : decode cX2_takePart 12 = .ok (.invokestatic 77, 3) := by decide +kernel
theorem dX2_takePart_15 : decode cX2_takePart 15 = .ok (.iload_n 3, 1) := by decide +kernel
theorem dX2_takePart_16 : decode cX2_takePart 16 = .ok (.ifCond .lt 16, 3) := by decide +kernel
theorem dX2_takePart_19 : decode cX2_takePart 19 = .ok (.iload_n 3, 1) := by decide +kernel
theorem dX2_takePart_20 : decode cX2_takePart 20 = .ok (.aload_n 0, 1) := by decide +kernel
theorem dX2_takePart_21 : decode cX2_takePart 21 = .ok (.getfield 19, 3) := by decide +kernel
theorem dX2_takePart_24 : decode cX2_takePart 24 = .ok (.invokevirtual 66, 3) := by decide +kernel
theorem dX2_takePart_27 : decode cX2_takePart 27 = .ok (.iload_n 2, 1) := by decide +kernel
theorem dX2_takePart_28 : decode cX2_takePart 28 = .ok (.isub, 1) := by decide +kernel
theorem dX2_takePart_29 : decode cX2_takePart 29 = .ok (.if_icmp .le 11, 3) := by decide +kernel
theorem dX2_takePart_32 : decode cX2_takePart 32 = .ok (.new 74, 3) := by decide +kernel
theorem dX2_takePart_35 : decode cX2_takePart 35 = .ok (.dup, 1) := by decide +kernel
theorem dX2_takePart_36 : decode cX2_takePart 36 = .ok (.invokespecial 76, 3) := by decide +kernel
theorem dX2_takePart_39 : decode cX2_takePart 39 = .ok (.athrow, 1) := by decide +kernel
theorem dX2_takePart_40 : decode cX2_takePart 40 = .ok (.aload_n 0, 1) := by decide +kernel
theorem dX2_takePart_41 : decode cX2_takePart 41 = .ok (.aload_n 0, 1) := by decide +kernel
theorem dX2_takePart_42 : decode cX2_takePart 42 = .ok (.getfield 19, 3) := by decide +kernel
theorem dX2_takePart_45 : decode cX2_takePart 45 = .ok (.iload_n 2, 1) := by decide +kernel
theorem dX2_takePart_46 : decode cX2_takePart 46 = .ok (.iload_n 2, 1) := by decide +kernel
theorem dX2_takePart_47 : decode cX2_takePart 47 = .ok (.iload_n 3, 1) := by decide +kernel
theorem dX2_takePart_48 : decode cX2_takePart 48 = .ok (.iadd, 1) := by decide +kernel
theorem dX2_takePart_49 : decode cX2_takePart 49 = .ok (.aload 4, 2) := by decide +kernel
theorem dX2_takePart_51 : decode cX2_takePart 51 = .ok (.invokevirtual 70, 3) := by decide +kernel
theorem dX2_takePart_54 : decode cX2_takePart 54 = .ok (.ireturn, 1) := by decide +kernel
theorem dX2_cut_0 : decode cX2_cut 0 = .ok (.aload_n 0, 1) := by decide +kernel
theorem dX2_cut_1 : decode cX2_cut 1 = .ok (.getfield 26, 3) := by decide +kernel
theorem dX2_cut_4 : decode cX2_cut 4 = .ok (.aload_n 0, 1) := by decide +kernel
theorem dX2_cut_5 : decode cX2_cut 5 = .ok (.iload_n 1, 1) := by decide +kernel
theorem dX2_cut_6 : decode cX2_cut 6 = .ok (.invokevirtual 51, 3) := by decide +kernel
theorem dX2_cut_9 : decode cX2_cut 9 = .ok (.invokevirtual 135, 3) := by decide +kernel
theorem dX2_cut_12 : decode cX2_cut 12 = .ok (.aload_n 0, 1) := by decide +kernel
theorem dX2_cut_13 : decode cX2_cut 13 = .ok (.getfield 26, 3) := by decide +kernel
theorem dX2_cut_16 : decode cX2_cut 16 = .ok (.invokevirtual 138, 3) := by decide +kernel
theorem dX2_cut_19 : decode cX2_cut 19 = .ok (.ireturn, 1) := by decide +kernel
abbrev rmX2_takePart : Room := { frames := 7, cells := 3, slots := 18, locals := 110 }
theorem mX2_takePart {l : Launch} {G : Cx} {A : Nat → Prop} (hst : l.stackTraces = false) {SA : Nat → Nat} {X : Nat → List Nat} {es : List Nat} {k : Int32} {x f9 m9 : Int32} (hAS : ∀ i : Nat, i < 39 → A (SA i)) : vx_Met l yX2_takePart (.code yX2_takePart cX2_takePart 5 (some .int) :: GW) rmX2_takePart (PC G A [.ref (SA 0), .int x, .int f9, .int m9] (SS G SA X es k)) (qI A (fun r H => ∃ i a9 b9 : Nat, i < 4 ∧ x = nI i ∧ f9 = nI a9 ∧ m9 = nI b9 ∧ a9 + b9 ≤ (X 11).length ∧ r = nI (cutL (X 11) a9 (a9 + b9)).length ∧ SS G SA (updT X i (cutL (X 11) a9 (a9 + b9))) es k H)) (xE A (fun E H => (E = "java/lang/IndexOutOfBoundsException" ∧ (NT x ∨ ¬ ∃ a9 b9 : Nat, f9 = nI a9 ∧ m9 = nI b9 ∧ a9 + b9 ≤ (X 11).length)) ∧ SS G SA X es k H)) 3 18 A := by
  refine mstartX "Signtext" (by decide +kernel) rfl (Nat.le_of_ble_eq_true rfl) ?_
  intro p e s m below meth c ls hx hb hr hts hown hml hlocks hnx hC hA hW hl
  have hl : lv_has ls 5 [(0, .ref (SA 0)), (1, .int x), (2, .int f9), (3, .int m9)] := hl
  have hK := hC.1
  have hS : va_S A s.heap s.heap [] := va_S.rf
  obtain ⟨T, es2, hW, hF⟩ := hW
  have hO := hW.2.1
  have hR1 := hW.2.2.1
  have hR2 := hW.2.2.2.1
  have e11 := hF 11 (Or.inr (Or.inl rfl))
  have r60 := (hW.line (i := 11) (by omega)).1
  refine lv_aload_n hx hb dX2_takePart_0 rfl (lv_at hl 0 rfl) ?_
  refine lv_iload_n hx hb dX2_takePart_1 rfl (lv_at hl 1 rfl) ?_
  refine xR_V (A := A) (A1 := A) (b := (SA 0)) (As := [.int x]) (rest := []) ⟨hx, hb, hml, hown, hts⟩ (mX2_textOf (A := A) hst ) (cwV 1 hts (gV tw_3_4 tw_3_6 sel_X2_textOf tw_1_1 tw_3_7) rfl rfl rfl (by decide +kernel) ⟨Nat.le_of_ble_eq_true rfl, Nat.le_of_ble_eq_true rfl⟩) hC hS (fun _ h => h) (fun q h => hA q (Nat.le_trans hS.1 h)) (hW.recv hK) hW rfl rfl hl.1 (Nat.le_of_ble_eq_true rfl) ⟨Nat.le_trans (show 0 + 1 ≤ 3 by omega) (Nat.le_of_ble_eq_true rfl), Nat.le_trans (show 0 + 6 ≤ 18 by omega) (Nat.le_of_ble_eq_true rfl)⟩ dX2_takePart_2 hnx hlocks (by omega) (by omega) (fun E H9 q _ => ⟨⟨q.1, Or.inl q.2.1⟩, _, _, q.2.2, hF⟩) (fun rv1 H1 L1 hP1 hk1 hS => ?_)
  have hZ1 := hS.1
  obtain ⟨⟨i, hi, hxi, hrv⟩, hW⟩ := hP1
  subst hrv
  have hO := hW.2.1
  have hR1 := hW.2.2.1
  have hR2 := hW.2.2.2.1
  have ei := hF i (Or.inl hi)
  refine lv_astore (lv' := [(4, .ref (SA (7 + 2 * i))), (0, .ref (SA 0)), (1, .int x), (2, .int f9), (3, .int m9)]) hx hb dX2_takePart_5 hl (by decide) rfl (fun ls hl => ?_)
  refine lv_aload_n hx hb dX2_takePart_7 rfl (lv_at hl 1 rfl) ?_
  refine va_get (D := G.1) (ci := 6) (C := RX2) (T := TX2) (N := 8) hx hb hts inX2 hown hK (at_P hO) 0 rfl rfl 2 (by decide) (hts _ tw_1_139) (fun _ h9 => h9) rfl dX2_takePart_8 ?_
  refine lv_iload_n hx hb dX2_takePart_11 rfl (lv_at hl 3 rfl) ?_
  refine xV_S (A := A) (A1 := A)  (As := [.ref (SA 29), .int f9]) (rest := []) ⟨hx, hb, hml, hown, hts⟩ (mX2_needPlaceOrEnd (A := A) hst (q := 11) (by omega)) (va_cwS 2 hts (gS tw_3_87 tw_3_88 tw_1_1 tw_3_89) rfl rfl rfl (by decide +kernel) ⟨Nat.le_of_ble_eq_true rfl, Nat.le_of_ble_eq_true rfl⟩) hC hS (fun _ h => h) (fun q h => hA q (Nat.le_trans hS.1 h))  hW rfl rfl hl.1 (Nat.le_of_ble_eq_true rfl) ⟨Nat.le_trans (show (0 + 1) + 1 ≤ 3 by omega) (Nat.le_of_ble_eq_true rfl), Nat.le_trans (show (0 + 6) + 6 ≤ 18 by omega) (Nat.le_of_ble_eq_true rfl)⟩ dX2_takePart_12 hnx hlocks (by omega) (by omega) (fun E H9 q _ => ⟨⟨q.1, Or.inr (fun ⟨a0, b0, w1, w2, w3⟩ => q.2.1 ⟨a0, by rw [e11]; omega, w1⟩)⟩, _, _, q.2.2, hF⟩) (fun H2 L2 hP2 hk2 hS => ?_)
  have hZ2 := hS.1
  obtain ⟨⟨a9, ha9, rfl⟩, hW⟩ := hP2
  have hO := hW.2.1
  have hR1 := hW.2.2.1
  have hR2 := hW.2.2.2.1
  refine lv_iload_n hx hb dX2_takePart_15 rfl (lv_at hl 4 rfl) ?_
  refine lv_if_lt (tgt := 32) hx hb dX2_takePart_16 (by decide) (fun c_3 => ?_) (fun c_3 => ?_)
  · exact t_new (nL := 5) (cls := "java/lang/IndexOutOfBoundsException") (ik := 74) (ic := 76) hx hb hst hown hts hC hS hl.1 hml (by decide +kernel) tw_3_8 tw_1_16 tA76 tB76 tG76 hnx hlocks (Nat.le_of_ble_eq_true rfl) (Nat.le_of_ble_eq_true rfl) (Nat.le_trans (show ((0 + 1) + 1) + 1 ≤ 3 by omega) (Nat.le_of_ble_eq_true rfl)) (Nat.le_trans (show ((0 + 6) + 6) + 6 ≤ 18 by omega) (Nat.le_of_ble_eq_true rfl)) (by omega) (by omega) dX2_takePart_32 dX2_takePart_35 dX2_takePart_36 dX2_takePart_39 (fun H9 hk9 => ⟨⟨rfl, Or.inr (fun ⟨a0, b0, w1, w2, w3⟩ => by rw [w2] at c_3; rw [← e11] at w3; exact nI_pos (by omega) c_3)⟩, _, _, hW.nw hk9, hF⟩)
  · obtain ⟨b9, hb31, rfl⟩ := nI_of c_3
    refine lv_iload_n hx hb dX2_takePart_19 rfl (lv_at hl 4 rfl) ?_
    refine lv_aload_n hx hb dX2_takePart_20 rfl (lv_at hl 1 rfl) ?_
    refine va_get (D := G.1) (ci := 6) (C := RX2) (T := TX2) (N := 8) hx hb hts inX2 hown hK (at_P hO) 0 rfl rfl 2 (by decide) (hts _ tw_1_139) (fun _ h9 => h9) rfl dX2_takePart_21 ?_
    refine kV_i (A := A) (b := (SA 29)) (As := []) (rest := .int (nI b9) :: []) ⟨hx, hb, hml, hown, hts⟩ (mX0_size (A := A) (ca := SA (8 + 2 * 11))) (cwV 0 hts (gV tw_2_30 tw_2_12 tw_2_13 tw_1_2 tw_2_14) rfl rfl rfl (by decide +kernel) ⟨Nat.le_of_ble_eq_true rfl, Nat.le_of_ble_eq_true rfl⟩) hC hS hA ((hW.line (i := 11) (by omega)).recv hK) (hW.line (i := 11) (by omega)) rfl rfl hl.1 (Nat.le_of_ble_eq_true rfl) ⟨Nat.le_trans (show ((0 + 1) + 1) ≤ 3 by omega) (Nat.le_of_ble_eq_true rfl), Nat.le_trans (show ((0 + 6) + 6) ≤ 18 by omega) (Nat.le_of_ble_eq_true rfl)⟩ dX2_takePart_24 (fun r9 h9 => lv_cv h9 ?_)
    refine lv_iload_n hx hb dX2_takePart_27 rfl (lv_at hl 3 rfl) ?_
    refine lv_isub hx hb dX2_takePart_28 ?_
    refine lv_cv (pk_sub (a := (T 11).length) (b := a9) (by omega)) ?_
    refine b_le (tgt := 40) hx hb dX2_takePart_29 (by decide) (by omega) (by omega) (fun c_4 => ?_) (fun c_4 => ?_)
    · refine lv_aload_n hx hb dX2_takePart_40 rfl (lv_at hl 1 rfl) ?_
      refine lv_aload_n hx hb dX2_takePart_41 rfl (lv_at hl 1 rfl) ?_
      refine va_get (D := G.1) (ci := 6) (C := RX2) (T := TX2) (N := 8) hx hb hts inX2 hown hK (at_P hO) 0 rfl rfl 2 (by decide) (hts _ tw_1_139) (fun _ h9 => h9) rfl dX2_takePart_42 ?_
      refine lv_iload_n hx hb dX2_takePart_45 rfl (lv_at hl 3 rfl) ?_
      refine lv_iload_n hx hb dX2_takePart_46 rfl (lv_at hl 3 rfl) ?_
      refine lv_iload_n hx hb dX2_takePart_47 rfl (lv_at hl 4 rfl) ?_
      refine lv_iadd hx hb dX2_takePart_48 ?_
      refine lv_cv (nI_add a9 b9) ?_
      refine lv_aload hx hb dX2_takePart_49 (lv_at hl 0 rfl) ?_
      refine qI_V (A := A) (A1 := A) (b := (SA 0)) (As := [.ref (SA 29), .int (nI a9), .int (nI (a9 + b9)), .ref (SA (7 + 2 * i))]) (rest := []) ⟨hx, hb, hml, hown, hts⟩ (mX2_partInto (A := A) (i := 11) (q := i) (a9 := a9) (b9 := (a9 + b9)) hAS (by omega) (by omega) (by omega) (by omega) (by omega)) (cwV 4 hts (gV tw_2_55 tw_2_57 sel_X2_partInto tw_1_1 tw_2_58) rfl rfl rfl (by decide +kernel) ⟨Nat.le_of_ble_eq_true rfl, Nat.le_of_ble_eq_true rfl⟩) hC hS (fun _ h => h) (fun q h => hA q (Nat.le_trans hS.1 h)) (hW.recv hK) hW rfl rfl hl.1 (Nat.le_of_ble_eq_true rfl) ⟨Nat.le_trans (show ((0 + 1) + 1) ≤ 3 by omega) (Nat.le_of_ble_eq_true rfl), Nat.le_trans (show ((0 + 6) + 6) ≤ 18 by omega) (Nat.le_of_ble_eq_true rfl)⟩ dX2_takePart_51 (fun rv5 H5 L5 hP5 hk5 hS => ?_)
      have hZ5 := hS.1
      rw [e11] at hP5 c_4 ha9
      exact vx_ret (q_i hx hb hr hlocks dX2_takePart_54 hS (by omega) (by omega) ⟨i, a9, b9, hi, hxi, rfl, rfl, by omega, hP5.1, _, _, hP5.2, (FR.up (FR.s13 hF))⟩)
    · exact t_new (nL := 5) (cls := "java/lang/IndexOutOfBoundsException") (ik := 74) (ic := 76) hx hb hst hown hts hC hS hl.1 hml (by decide +kernel) tw_3_8 tw_1_16 tA76 tB76 tG76 hnx hlocks (Nat.le_of_ble_eq_true rfl) (Nat.le_of_ble_eq_true rfl) (Nat.le_trans (show ((0 + 1) + 1) + 1 ≤ 3 by omega) (Nat.le_of_ble_eq_true rfl)) (Nat.le_trans (show ((0 + 6) + 6) + 6 ≤ 18 by omega) (Nat.le_of_ble_eq_true rfl)) (by omega) (by omega) dX2_takePart_32 dX2_takePart_35 dX2_takePart_36 dX2_takePart_39 (fun H9 hk9 => ⟨⟨rfl, Or.inr (fun ⟨a0, b0, w1, w2, w3⟩ => by have w4 := (nI_eq (by omega) (by rw [← e11] at w3; omega)).mp w1; have w5 := (nI_eq (by omega) (by rw [← e11] at w3; omega)).mp w2; rw [← e11] at w3; omega)⟩, _, _, hW.nw hk9, hF⟩)

abbrev rmX2_cut : Room := { frames := 7, cells := 1, slots := 6, locals := 110 }
theorem mX2_cut {l : Launch} {G : Cx} {A : Nat → Prop} (hst : l.stackTraces = false) {SA : Nat → Nat} {X : Nat → List Nat} {es : List Nat} {k : Int32} {x : Int32} (hAS : ∀ i : Nat, i < 39 → A (SA i)) : vx_Met l yX2_cut (.code yX2_cut cX2_cut 2 (some .int) :: GW) rmX2_cut (PC G A [.ref (SA 0), .int x] (SS G SA X es k)) (qI A (fun r H => ∃ (i : Nat) (es1 : List Nat), i < 4 ∧ x = nI i ∧ isCut (X i) es1 ∧ r = nI es1.length ∧ SS G SA (updT X 14 (X i)) es1 k H)) (xE A (fun E H => (E = "java/lang/IndexOutOfBoundsException" ∧ NT x) ∧ SS G SA X es k H)) 1 6 A := by
  refine mstartX "Signtext" (by decide +kernel) rfl (Nat.le_of_ble_eq_true rfl) ?_
  intro p e s m below meth c ls hx hb hr hts hown hml hlocks hnx hC hA hW hl
  have hl : lv_has ls 2 [(0, .ref (SA 0)), (1, .int x)] := hl
  have hK := hC.1
  have hS : va_S A s.heap s.heap [] := va_S.rf
  obtain ⟨T, es2, hW, hF⟩ := hW
  have hO := hW.2.1
  have hR1 := hW.2.2.1
  have hR2 := hW.2.2.2.1
  refine lv_aload_n hx hb dX2_cut_0 rfl (lv_at hl 0 rfl) ?_
  refine va_get (D := G.1) (ci := 6) (C := RX2) (T := TX2) (N := 8) hx hb hts inX2 hown hK (at_P hO) 0 rfl rfl 3 (by decide) (hts _ tw_1_140) (fun _ h9 => h9) rfl dX2_cut_1 ?_
  refine lv_aload_n hx hb dX2_cut_4 rfl (lv_at hl 0 rfl) ?_
  refine lv_iload_n hx hb dX2_cut_5 rfl (lv_at hl 1 rfl) ?_
  refine xR_V (A := A) (A1 := A) (b := (SA 0)) (As := [.int x]) (rest := .ref (SA 3) :: []) ⟨hx, hb, hml, hown, hts⟩ (mX2_textOf (A := A) hst ) (cwV 1 hts (gV tw_3_4 tw_3_6 sel_X2_textOf tw_1_1 tw_3_7) rfl rfl rfl (by decide +kernel) ⟨Nat.le_of_ble_eq_true rfl, Nat.le_of_ble_eq_true rfl⟩) hC hS (fun _ h => h) (fun q h => hA q (Nat.le_trans hS.1 h)) (hW.recv hK) hW rfl rfl hl.1 (Nat.le_of_ble_eq_true rfl) ⟨Nat.le_trans (show 0 + 1 ≤ 1 by omega) (Nat.le_of_ble_eq_true rfl), Nat.le_trans (show 0 + 6 ≤ 6 by omega) (Nat.le_of_ble_eq_true rfl)⟩ dX2_cut_6 hnx hlocks (by omega) (by omega) (fun E H9 q _ => ⟨⟨q.1, q.2.1⟩, _, _, q.2.2, hF⟩) (fun rv6 H6 L6 hP6 hk6 hS => ?_)
  have hZ6 := hS.1
  obtain ⟨⟨i, hi, hxi, hrv⟩, hW⟩ := hP6
  subst hrv
  have hO := hW.2.1
  have hR1 := hW.2.2.1
  have hR2 := hW.2.2.2.1
  have ei := hF i (Or.inl hi)
  refine qV_V (A := A) (A1 := oP SA 3 35 36 4 H6.size) (b := (SA 3)) (As := [.ref (SA (7 + 2 * i))]) (rest := []) ⟨hx, hb, hml, hown, hts⟩ (mX1_cutOf (A := oP SA 3 35 36 4 H6.size) (la := SA 35) (lca := SA 36) (ea := SA 4) (cb := SA (8 + 2 * i)) (t := T 14) (u := T i) (es := es) (Or.inl rfl) (Or.inr (Or.inl rfl)) (Or.inr (Or.inr (Or.inl rfl))) (Or.inr (Or.inr (Or.inr (Or.inl rfl)))) ⟨hW.ne (i := 7 + 2 * i) (j := 3) (by omega) (by omega) (by omega), hW.ne (i := 7 + 2 * i) (j := 35) (by omega) (by omega) (by omega), hW.ne (i := 7 + 2 * i) (j := 36) (by omega) (by omega) (by omega), hW.ne (i := 7 + 2 * i) (j := 4) (by omega) (by omega) (by omega)⟩ ⟨hW.ne (i := 8 + 2 * i) (j := 3) (by omega) (by omega) (by omega), hW.ne (i := 8 + 2 * i) (j := 35) (by omega) (by omega) (by omega), hW.ne (i := 8 + 2 * i) (j := 36) (by omega) (by omega) (by omega), hW.ne (i := 8 + 2 * i) (j := 4) (by omega) (by omega) (by omega)⟩) (cwV 1 hts (gV tw_2_63 tw_2_64 tw_2_65 tw_1_3 tw_2_66) rfl rfl rfl (by decide +kernel) ⟨Nat.le_of_ble_eq_true rfl, Nat.le_of_ble_eq_true rfl⟩) hC hS (oP_in (hAS 3 (by decide)) (hAS 35 (by decide)) (hAS 36 (by decide)) (hAS 4 (by decide)) hA hS.1) oP_n (hW.pcs.1.recv hK) ⟨hW.pcs, hW.line (i := i) (by omega)⟩ rfl rfl hl.1 (Nat.le_of_ble_eq_true rfl) ⟨Nat.le_trans (show (0 + 1) ≤ 1 by omega) (Nat.le_of_ble_eq_true rfl), Nat.le_trans (show (0 + 6) ≤ 6 by omega) (Nat.le_of_ble_eq_true rfl)⟩ dX2_cut_9 (fun H7 L7 hP7 hk7 hS => ?_)
  have hZ7 := hS.1
  obtain ⟨⟨es1, hcut, hPA⟩, -⟩ := hP7
  have hW := hW.putP hk7 hPA
  rw [ei] at hcut hW
  have hO := hW.2.1
  have hR1 := hW.2.2.1
  have hR2 := hW.2.2.2.1
  refine lv_aload_n hx hb dX2_cut_12 rfl (lv_at hl 0 rfl) ?_
  refine va_get (D := G.1) (ci := 6) (C := RX2) (T := TX2) (N := 8) hx hb hts inX2 hown hK (at_P hO) 0 rfl rfl 3 (by decide) (hts _ tw_1_140) (fun _ h9 => h9) rfl dX2_cut_13 ?_
  refine kV_i (A := A) (b := (SA 3)) (As := []) (rest := []) ⟨hx, hb, hml, hown, hts⟩ (mX1_size (A := A) (la := SA 35) (ea := SA 4) (es := es1)) (cwV 0 hts (gV tw_2_82 tw_2_83 tw_2_84 tw_1_3 tw_2_85) rfl rfl rfl (by decide +kernel) ⟨Nat.le_of_ble_eq_true rfl, Nat.le_of_ble_eq_true rfl⟩) hC hS hA (hW.pcs.1.recv hK) hW.pcs.1 rfl rfl hl.1 (Nat.le_of_ble_eq_true rfl) ⟨Nat.le_trans (show (0 + 1) ≤ 1 by omega) (Nat.le_of_ble_eq_true rfl), Nat.le_trans (show (0 + 6) ≤ 6 by omega) (Nat.le_of_ble_eq_true rfl)⟩ dX2_cut_16 (fun r9 h9 => lv_cv h9 ?_)
  exact vx_ret (q_i hx hb hr hlocks dX2_cut_19 hS (by omega) (by omega) ⟨i, es1, hi, hxi, hcut, rfl, _, _, hW, (FR.up hF)⟩)

abbrev rmX2_ahead : Room := { frames := 9, cells := 3, slots := 18, locals := 154 }
theorem mX2_ahead {l : Launch} {G : Cx} {A : Nat → Prop} (hst : l.stackTraces = false) {SA : Nat → Nat} {X : Nat → List Nat} {es : List Nat} {k : Int32} {x y : Int32} (hAS : ∀ i : Nat, i < 39 → A (SA i)) : vx_Met l yX2_ahead (.code yX2_ahead cX2_ahead 4 (some .int) :: GW) rmX2_ahead (PC G A [.ref (SA 0), .int x, .int y] (SS G SA X es k)) (qI A (fun r H => ∃ i j : Nat, i < 4 ∧ x = nI i ∧ j < 24 ∧ y = nI j ∧ ([codeT.getD j 0] ++ X i).length ≤ 60 ∧ r = nI ([codeT.getD j 0] ++ X i).length ∧ SS G SA (updT X i ([codeT.getD j 0] ++ X i)) es k H)) (xE A (fun E H => ((E = "java/lang/IndexOutOfBoundsException" ∧ NT x) ∨ (E = "java/lang/IllegalArgumentException" ∧ (∃ i : Nat, i < 4 ∧ x = nI i) ∧ NS y) ∨ (E = "java/lang/IllegalStateException" ∧ ∃ i j : Nat, i < 4 ∧ x = nI i ∧ j < 24 ∧ y = nI j ∧ 60 < ([codeT.getD j 0] ++ X i).length)) ∧ SS G SA X es k H)) 3 18 A := by
  refine mstartX "Signtext" (by decide +kernel) rfl (Nat.le_of_ble_eq_true rfl) ?_
  intro p e s m below meth c ls hx hb hr hts hown hml hlocks hnx hC hA hW hl
  have hl : lv_has ls 4 [(0, .ref (SA 0)), (1, .int x), (2, .int y)] := hl
  have hK := hC.1
  have hS : va_S A s.heap s.heap [] := va_S.rf
  obtain ⟨T, es2, hW, hF⟩ := hW
  have hO := hW.2.1
  have hR1 := hW.2.2.1
  have hR2 := hW.2.2.2.1
  refine lv_aload_n hx hb dX2_ahead_0 rfl (lv_at hl 0 rfl) ?_
  refine lv_iload_n hx hb dX2_ahead_1 rfl (lv_at hl 1 rfl) ?_
  refine xR_V (A := A) (A1 := A) (b := (SA 0)) (As := [.int x]) (rest := []) ⟨hx, hb, hml, hown, hts⟩ (mX2_textOf (A := A) hst ) (cwV 1 hts (gV tw_3_4 tw_3_6 sel_X2_textOf tw_1_1 tw_3_7) rfl rfl rfl (by decide +kernel) ⟨Nat.le_of_ble_eq_true rfl, Nat.le_of_ble_eq_true rfl⟩) hC hS (fun _ h => h) (fun q h => hA q (Nat.le_trans hS.1 h)) (hW.recv hK) hW rfl rfl hl.1 (Nat.le_of_ble_eq_true rfl) ⟨Nat.le_trans (show 0 + 1 ≤ 3 by omega) (Nat.le_of_ble_eq_true rfl), Nat.le_trans (show 0 + 6 ≤ 18 by omega) (Nat.le_of_ble_eq_true rfl)⟩ dX2_ahead_2 hnx hlocks (by omega) (by omega) (fun E H9 q _ => ⟨Or.inl ⟨q.1, q.2.1⟩, _, _, q.2.2, hF⟩) (fun rv8 H8 L8 hP8 hk8 hS => ?_)
  have hZ8 := hS.1
  obtain ⟨⟨i, hi, hxi, hrv⟩, hW⟩ := hP8
  subst hrv
  have hO := hW.2.1
  have hR1 := hW.2.2.1
  have hR2 := hW.2.2.2.1
  have ei := hF i (Or.inl hi)
  refine lv_astore_n (lv' := [(3, .ref (SA (7 + 2 * i))), (0, .ref (SA 0)), (1, .int x), (2, .int y)]) hx hb dX2_ahead_5 rfl hl (by decide) rfl (fun ls hl => ?_)
  refine lv_aload_n hx hb dX2_ahead_6 rfl (lv_at hl 1 rfl) ?_
  refine va_get (D := G.1) (ci := 6) (C := RX2) (T := TX2) (N := 8) hx hb hts inX2 hown hK (at_P hO) 0 rfl rfl 5 (by decide) (hts _ tw_1_142) (fun _ h9 => h9) rfl dX2_ahead_7 ?_
  refine qV_V (A := A) (A1 := ow (SA (7 + 2 * 12)) (SA (8 + 2 * 12)) H8.size) (b := (SA 31)) (As := []) (rest := []) ⟨hx, hb, hml, hown, hts⟩ (mX0_empty (A := ow (SA (7 + 2 * 12)) (SA (8 + 2 * 12)) H8.size) (ca := SA (8 + 2 * 12)) (hAa := Or.inl rfl)) (cwV 0 hts (gV tw_2_31 tw_2_32 tw_2_33 tw_1_2 tw_2_34) rfl rfl rfl (by decide +kernel) ⟨Nat.le_of_ble_eq_true rfl, Nat.le_of_ble_eq_true rfl⟩) hC hS (ow_in (hAS _ (by omega)) (hAS _ (by omega)) hA hS.1) ow_n ((hW.line (i := 12) (by omega)).recv hK) (hW.line (i := 12) (by omega)) rfl rfl hl.1 (Nat.le_of_ble_eq_true rfl) ⟨Nat.le_trans (show (0 + 1) ≤ 3 by omega) (Nat.le_of_ble_eq_true rfl), Nat.le_trans (show (0 + 6) ≤ 18 by omega) (Nat.le_of_ble_eq_true rfl)⟩ dX2_ahead_10 (fun H9 L9 hP9 hk9 hS => ?_)
  have hZ9 := hS.1
  have hW := hW.put (q := 12) (t := []) (by omega) hk9 hP9
  have hO := hW.2.1
  have hR1 := hW.2.2.1
  have hR2 := hW.2.2.2.1
  refine lv_aload_n hx hb dX2_ahead_13 rfl (lv_at hl 1 rfl) ?_
  refine va_get (D := G.1) (ci := 6) (C := RX2) (T := TX2) (N := 8) hx hb hts inX2 hown hK (at_P hO) 0 rfl rfl 5 (by decide) (hts _ tw_1_142) (fun _ h9 => h9) rfl dX2_ahead_14 ?_
  refine lv_iload_n hx hb dX2_ahead_17 rfl (lv_at hl 3 rfl) ?_
  refine xI_S (A := A) (A1 := A)  (As := [.int y]) (rest := .ref (SA 31) :: []) ⟨hx, hb, hml, hown, hts⟩ (mX2_codeOf (A := A) hst ) (va_cwS 1 hts (gS tw_3_27 tw_3_28 tw_1_1 tw_3_29) rfl rfl rfl (by decide +kernel) ⟨Nat.le_of_ble_eq_true rfl, Nat.le_of_ble_eq_true rfl⟩) hC hS (fun _ h => h) (fun q h => hA q (Nat.le_trans hS.1 h))  hW rfl rfl hl.1 (Nat.le_of_ble_eq_true rfl) ⟨Nat.le_trans (show (0 + 1) + 1 ≤ 3 by omega) (Nat.le_of_ble_eq_true rfl), Nat.le_trans (show (0 + 6) + 6 ≤ 18 by omega) (Nat.le_of_ble_eq_true rfl)⟩ dX2_ahead_18 hnx hlocks (by omega) (by omega) (fun E H9 q _ => ⟨Or.inr (Or.inl ⟨q.1, ⟨i, hi, hxi⟩, q.2.1⟩), _, _, q.2.2, (FR.s12 hF)⟩) (fun rv10 H10 L10 hP10 hk10 hS => ?_)
  have hZ10 := hS.1
  obtain ⟨⟨j, hj, hyj, hrv⟩, hW⟩ := hP10
  subst hrv
  have hO := hW.2.1
  have hR1 := hW.2.2.1
  have hR2 := hW.2.2.2.1
  refine qV_V (A := A) (A1 := ow (SA (7 + 2 * 12)) (SA (8 + 2 * 12)) H10.size) (b := (SA 31)) (As := [.int (nI (codeT.getD j 0))]) (rest := []) ⟨hx, hb, hml, hown, hts⟩ (mX0_addCode (A := ow (SA (7 + 2 * 12)) (SA (8 + 2 * 12)) H10.size) (ca := SA (8 + 2 * 12)) (k0 := codeT.getD j 0) (t := []) (Or.inl rfl) (Or.inr (Or.inl rfl)) (codeT_lt j)) (cwV 1 hts (gV tw_2_86 tw_1_134 tw_1_135 tw_1_2 tw_1_136) rfl rfl rfl (by decide +kernel) ⟨Nat.le_of_ble_eq_true rfl, Nat.le_of_ble_eq_true rfl⟩) hC hS (ow_in (hAS _ (by omega)) (hAS _ (by omega)) hA hS.1) ow_n ((hW.line (i := 12) (by omega)).recv hK) (by have h := hW.line (i := 12) (by omega); rw [updT_s] at h; exact h) rfl rfl hl.1 (Nat.le_of_ble_eq_true rfl) ⟨Nat.le_trans (show ((0 + 1) + 1) ≤ 3 by omega) (Nat.le_of_ble_eq_true rfl), Nat.le_trans (show ((0 + 6) + 6) ≤ 18 by omega) (Nat.le_of_ble_eq_true rfl)⟩ dX2_ahead_21 (fun H11 L11 hP11 hk11 hS => ?_)
  have hZ11 := hS.1
  have hW := hW.put (q := 12) (t := [codeT.getD j 0]) (by omega) hk11 hP11
  rw [updT_2] at hW
  have hO := hW.2.1
  have hR1 := hW.2.2.1
  have hR2 := hW.2.2.2.1
  refine lv_aload_n hx hb dX2_ahead_24 rfl (lv_at hl 1 rfl) ?_
  refine lv_aload_n hx hb dX2_ahead_25 rfl (lv_at hl 0 rfl) ?_
  refine lv_iconst (v := nI 1) hx hb dX2_ahead_26 (by decide) ?_
  refine xI_V (A := A) (A1 := A) (b := (SA 0)) (As := [.ref (SA (7 + 2 * i)), .int (bI true)]) (rest := []) ⟨hx, hb, hml, hown, hts⟩ (mX2_addMade (A := A) hst (i := i) (b := true) hAS hi) (cwV 2 hts (gV tw_3_127 tw_3_129 sel_X2_addMade tw_1_1 tw_3_130) rfl rfl rfl (by decide +kernel) ⟨Nat.le_of_ble_eq_true rfl, Nat.le_of_ble_eq_true rfl⟩) hC hS (fun _ h => h) (fun q h => hA q (Nat.le_trans hS.1 h)) (hW.recv hK) hW rfl rfl hl.1 (Nat.le_of_ble_eq_true rfl) ⟨Nat.le_trans (show ((0 + 1) + 1) + 1 ≤ 3 by omega) (Nat.le_of_ble_eq_true rfl), Nat.le_trans (show ((0 + 6) + 6) + 6 ≤ 18 by omega) (Nat.le_of_ble_eq_true rfl)⟩ dX2_ahead_27 hnx hlocks (by omega) (by omega) (fun E H9 q _ => ⟨Or.inr (Or.inr ⟨q.1, i, j, hi, hxi, hj, hyj, by have h := q.2.1; rw [updT_s, updT_n (show i ≠ 12 by omega), ei] at h; exact h⟩), _, _, q.2.2, (FR.s12 hF)⟩) (fun rv12 H12 L12 hP12 hk12 hS => ?_)
  have hZ12 := hS.1
  rw [updT_s, updT_n (show i ≠ 12 by omega), ei] at hP12
  exact vx_ret (q_i hx hb hr hlocks dX2_ahead_30 hS (by omega) (by omega) ⟨i, j, hi, hxi, hj, hyj, hP12.2.1, hP12.1, _, _, hP12.2.2, (FR.up (FR.s13 (FR.s12 hF)))⟩)

abbrev rmX2_number : Room := { frames := 9, cells := 2, slots := 12, locals := 154 }
theorem mX2_number {l : Launch} {G : Cx} {A : Nat → Prop} (hst : l.stackTraces = false) {SA : Nat → Nat} {X : Nat → List Nat} {es : List Nat} {k : Int32} {x n9 : Int32} {b : Bool} (hAS : ∀ i : Nat, i < 39 → A (SA i)) : vx_Met l yX2_number (.code yX2_number cX2_number 5 (some .int) :: GW) rmX2_number (PC G A [.ref (SA 0), .int x, .int n9, .int (bI b)] (SS G SA X es k)) (qI A (fun r H => ∃ i : Nat, i < 4 ∧ x = nI i ∧ (if b then (numL (n9.toInt64)).take 60 ++ X i else X i ++ (numL (n9.toInt64)).take 60).length ≤ 60 ∧ r = nI (if b then (numL (n9.toInt64)).take 60 ++ X i else X i ++ (numL (n9.toInt64)).take 60).length ∧ SS G SA (updT X i (if b then (numL (n9.toInt64)).take 60 ++ X i else X i ++ (numL (n9.toInt64)).take 60)) es k H)) (xE A (fun E H => ((E = "java/lang/IndexOutOfBoundsException" ∧ NT x) ∨ (E = "java/lang/IllegalStateException" ∧ ∃ i : Nat, i < 4 ∧ x = nI i ∧ 60 < (if b then (numL (n9.toInt64)).take 60 ++ X i else X i ++ (numL (n9.toInt64)).take 60).length)) ∧ SS G SA X es k H)) 2 12 A := by
  refine mstartX "Signtext" (by decide +kernel) rfl (Nat.le_of_ble_eq_true rfl) ?_
  intro p e s m below meth c ls hx hb hr hts hown hml hlocks hnx hC hA hW hl
  have hl : lv_has ls 5 [(0, .ref (SA 0)), (1, .int x), (2, .int n9), (3, .int (bI b))] := hl
  have hK := hC.1
  have hS : va_S A s.heap s.heap [] := va_S.rf
  obtain ⟨T, es2, hW, hF⟩ := hW
  have hO := hW.2.1
  have hR1 := hW.2.2.1
  have hR2 := hW.2.2.2.1
  refine lv_aload_n hx hb dX2_number_0 rfl (lv_at hl 0 rfl) ?_
  refine lv_iload_n hx hb dX2_number_1 rfl (lv_at hl 1 rfl) ?_
  refine xR_V (A := A) (A1 := A) (b := (SA 0)) (As := [.int x]) (rest := []) ⟨hx, hb, hml, hown, hts⟩ (mX2_textOf (A := A) hst ) (cwV 1 hts (gV tw_3_4 tw_3_6 sel_X2_textOf tw_1_1 tw_3_7) rfl rfl rfl (by decide +kernel) ⟨Nat.le_of_ble_eq_true rfl, Nat.le_of_ble_eq_true rfl⟩) hC hS (fun _ h => h) (fun q h => hA q (Nat.le_trans hS.1 h)) (hW.recv hK) hW rfl rfl hl.1 (Nat.le_of_ble_eq_true rfl) ⟨Nat.le_trans (show 0 + 1 ≤ 2 by omega) (Nat.le_of_ble_eq_true rfl), Nat.le_trans (show 0 + 6 ≤ 12 by omega) (Nat.le_of_ble_eq_true rfl)⟩ dX2_number_2 hnx hlocks (by omega) (by omega) (fun E H9 q _ => ⟨Or.inl ⟨q.1, q.2.1⟩, _, _, q.2.2, hF⟩) (fun rv13 H13 L13 hP13 hk13 hS => ?_)
  have hZ13 := hS.1
  obtain ⟨⟨i, hi, hxi, hrv⟩, hW⟩ := hP13
  subst hrv
  have hO := hW.2.1
  have hR1 := hW.2.2.1
  have hR2 := hW.2.2.2.1
  have ei := hF i (Or.inl hi)
  refine lv_astore (lv' := [(4, .ref (SA (7 + 2 * i))), (0, .ref (SA 0)), (1, .int x), (2, .int n9), (3, .int (bI b))]) hx hb dX2_number_5 hl (by decide) rfl (fun ls hl => ?_)
  refine lv_aload_n hx hb dX2_number_7 rfl (lv_at hl 1 rfl) ?_
  refine va_get (D := G.1) (ci := 6) (C := RX2) (T := TX2) (N := 8) hx hb hts inX2 hown hK (at_P hO) 0 rfl rfl 5 (by decide) (hts _ tw_1_142) (fun _ h9 => h9) rfl dX2_number_8 ?_
  refine qV_V (A := A) (A1 := ow (SA (7 + 2 * 12)) (SA (8 + 2 * 12)) H13.size) (b := (SA 31)) (As := []) (rest := []) ⟨hx, hb, hml, hown, hts⟩ (mX0_empty (A := ow (SA (7 + 2 * 12)) (SA (8 + 2 * 12)) H13.size) (ca := SA (8 + 2 * 12)) (hAa := Or.inl rfl)) (cwV 0 hts (gV tw_2_31 tw_2_32 tw_2_33 tw_1_2 tw_2_34) rfl rfl rfl (by decide +kernel) ⟨Nat.le_of_ble_eq_true rfl, Nat.le_of_ble_eq_true rfl⟩) hC hS (ow_in (hAS _ (by omega)) (hAS _ (by omega)) hA hS.1) ow_n ((hW.line (i := 12) (by omega)).recv hK) (hW.line (i := 12) (by omega)) rfl rfl hl.1 (Nat.le_of_ble_eq_true rfl) ⟨Nat.le_trans (show (0 + 1) ≤ 2 by omega) (Nat.le_of_ble_eq_true rfl), Nat.le_trans (show (0 + 6) ≤ 12 by omega) (Nat.le_of_ble_eq_true rfl)⟩ dX2_number_11 (fun H14 L14 hP14 hk14 hS => ?_)
  have hZ14 := hS.1
  have hW := hW.put (q := 12) (t := []) (by omega) hk14 hP14
  have hO := hW.2.1
  have hR1 := hW.2.2.1
  have hR2 := hW.2.2.2.1
  refine lv_aload_n hx hb dX2_number_14 rfl (lv_at hl 1 rfl) ?_
  refine va_get (D := G.1) (ci := 6) (C := RX2) (T := TX2) (N := 8) hx hb hts inX2 hown hK (at_P hO) 0 rfl rfl 5 (by decide) (hts _ tw_1_142) (fun _ h9 => h9) rfl dX2_number_15 ?_
  refine lv_iload_n hx hb dX2_number_18 rfl (lv_at hl 3 rfl) ?_
  refine lv_i2l hx hb dX2_number_19 rfl ?_
  refine qV_V (A := A) (A1 := ow (SA (7 + 2 * 12)) (SA (8 + 2 * 12)) H14.size) (b := (SA 31)) (As := [.long n9.toInt64]) (rest := []) ⟨hx, hb, hml, hown, hts⟩ (mX0_addNumber (A := ow (SA (7 + 2 * 12)) (SA (8 + 2 * 12)) H14.size) (ca := SA (8 + 2 * 12)) (t := []) (x := n9.toInt64) (Or.inl rfl) (Or.inr (Or.inl rfl))) (cwV 1 hts (gV tw_3_118 tw_3_119 tw_3_120 tw_1_2 tw_3_121) rfl rfl rfl (by decide +kernel) ⟨Nat.le_of_ble_eq_true rfl, Nat.le_of_ble_eq_true rfl⟩) hC hS (ow_in (hAS _ (by omega)) (hAS _ (by omega)) hA hS.1) ow_n ((hW.line (i := 12) (by omega)).recv hK) (by have h := hW.line (i := 12) (by omega); rw [updT_s] at h; exact h) rfl rfl hl.1 (Nat.le_of_ble_eq_true rfl) ⟨Nat.le_trans (show (0 + 1) ≤ 2 by omega) (Nat.le_of_ble_eq_true rfl), Nat.le_trans (show (0 + 6) ≤ 12 by omega) (Nat.le_of_ble_eq_true rfl)⟩ dX2_number_20 (fun H15 L15 hP15 hk15 hS => ?_)
  have hZ15 := hS.1
  have hW := hW.put (q := 12) (t := (numL n9.toInt64).take 60) (by omega) hk15 hP15
  rw [updT_2] at hW
  have hO := hW.2.1
  have hR1 := hW.2.2.1
  have hR2 := hW.2.2.2.1
  refine lv_aload_n hx hb dX2_number_23 rfl (lv_at hl 1 rfl) ?_
  refine lv_aload hx hb dX2_number_24 (lv_at hl 0 rfl) ?_
  refine lv_iload_n hx hb dX2_number_26 rfl (lv_at hl 4 rfl) ?_
  refine xI_V (A := A) (A1 := A) (b := (SA 0)) (As := [.ref (SA (7 + 2 * i)), .int (bI b)]) (rest := []) ⟨hx, hb, hml, hown, hts⟩ (mX2_addMade (A := A) hst (i := i) (b := b) hAS hi) (cwV 2 hts (gV tw_3_127 tw_3_129 sel_X2_addMade tw_1_1 tw_3_130) rfl rfl rfl (by decide +kernel) ⟨Nat.le_of_ble_eq_true rfl, Nat.le_of_ble_eq_true rfl⟩) hC hS (fun _ h => h) (fun q h => hA q (Nat.le_trans hS.1 h)) (hW.recv hK) hW rfl rfl hl.1 (Nat.le_of_ble_eq_true rfl) ⟨Nat.le_trans (show (0 + 1) + 1 ≤ 2 by omega) (Nat.le_of_ble_eq_true rfl), Nat.le_trans (show (0 + 6) + 6 ≤ 12 by omega) (Nat.le_of_ble_eq_true rfl)⟩ dX2_number_27 hnx hlocks (by omega) (by omega) (fun E H9 q _ => ⟨Or.inr ⟨q.1, i, hi, hxi, by have h := q.2.1; rw [updT_s, updT_n (show i ≠ 12 by omega), ei] at h; exact h⟩, _, _, q.2.2, (FR.s12 hF)⟩) (fun rv16 H16 L16 hP16 hk16 hS => ?_)
  have hZ16 := hS.1
  rw [updT_s, updT_n (show i ≠ 12 by omega), ei] at hP16
  exact vx_ret (q_i hx hb hr hlocks dX2_number_30 hS (by omega) (by omega) ⟨i, hi, hxi, hP16.2.1, hP16.1, _, _, hP16.2.2, (FR.up (FR.s13 (FR.s12 hF)))⟩)

abbrev rmX2_great : Room := { frames := 9, cells := 2, slots := 12, locals := 154 }
theorem mX2_great {l : Launch} {G : Cx} {A : Nat → Prop} (hst : l.stackTraces = false) {SA : Nat → Nat} {X : Nat → List Nat} {es : List Nat} {k : Int32} {x h9 l9 : Int32} (hAS : ∀ i : Nat, i < 39 → A (SA i)) : vx_Met l yX2_great (.code yX2_great cX2_great 5 (some .int) :: GW) rmX2_great (PC G A [.ref (SA 0), .int x, .int h9, .int l9] (SS G SA X es k)) (qI A (fun r H => ∃ i : Nat, i < 4 ∧ x = nI i ∧ (if false then (numL ((h9.toInt64 <<< ((nI 32).toInt64 &&& 63)) ||| (l9.toInt64 &&& 4294967295))).take 60 ++ X i else X i ++ (numL ((h9.toInt64 <<< ((nI 32).toInt64 &&& 63)) ||| (l9.toInt64 &&& 4294967295))).take 60).length ≤ 60 ∧ r = nI (if false then (numL ((h9.toInt64 <<< ((nI 32).toInt64 &&& 63)) ||| (l9.toInt64 &&& 4294967295))).take 60 ++ X i else X i ++ (numL ((h9.toInt64 <<< ((nI 32).toInt64 &&& 63)) ||| (l9.toInt64 &&& 4294967295))).take 60).length ∧ SS G SA (updT X i (if false then (numL ((h9.toInt64 <<< ((nI 32).toInt64 &&& 63)) ||| (l9.toInt64 &&& 4294967295))).take 60 ++ X i else X i ++ (numL ((h9.toInt64 <<< ((nI 32).toInt64 &&& 63)) ||| (l9.toInt64 &&& 4294967295))).take 60)) es k H)) (xE A (fun E H => ((E = "java/lang/IndexOutOfBoundsException" ∧ NT x) ∨ (E = "java/lang/IllegalStateException" ∧ ∃ i : Nat, i < 4 ∧ x = nI i ∧ 60 < (if false then (numL ((h9.toInt64 <<< ((nI 32).toInt64 &&& 63)) ||| (l9.toInt64 &&& 4294967295))).take 60 ++ X i else X i ++ (numL ((h9.toInt64 <<< ((nI 32).toInt64 &&& 63)) ||| (l9.toInt64 &&& 4294967295))).take 60).length)) ∧ SS G SA X es k H)) 2 12 A := by
  refine mstartX "Signtext" (by decide +kernel) rfl (Nat.le_of_ble_eq_true rfl) ?_
  intro p e s m below meth c ls hx hb hr hts hown hml hlocks hnx hC hA hW hl
  have hl : lv_has ls 5 [(0, .ref (SA 0)), (1, .int x), (2, .int h9), (3, .int l9)] := hl
  have hK := hC.1
  have hS : va_S A s.heap s.heap [] := va_S.rf
  obtain ⟨T, es2, hW, hF⟩ := hW
  have hO := hW.2.1
  have hR1 := hW.2.2.1
  have hR2 := hW.2.2.2.1
  refine lv_aload_n hx hb dX2_great_0 rfl (lv_at hl 0 rfl) ?_
  refine lv_iload_n hx hb dX2_great_1 rfl (lv_at hl 1 rfl) ?_
  refine xR_V (A := A) (A1 := A) (b := (SA 0)) (As := [.int x]) (rest := []) ⟨hx, hb, hml, hown, hts⟩ (mX2_textOf (A := A) hst ) (cwV 1 hts (gV tw_3_4 tw_3_6 sel_X2_textOf tw_1_1 tw_3_7) rfl rfl rfl (by decide +kernel) ⟨Nat.le_of_ble_eq_true rfl, Nat.le_of_ble_eq_true rfl⟩) hC hS (fun _ h => h) (fun q h => hA q (Nat.le_trans hS.1 h)) (hW.recv hK) hW rfl rfl hl.1 (Nat.le_of_ble_eq_true rfl) ⟨Nat.le_trans (show 0 + 1 ≤ 2 by omega) (Nat.le_of_ble_eq_true rfl), Nat.le_trans (show 0 + 6 ≤ 12 by omega) (Nat.le_of_ble_eq_true rfl)⟩ dX2_great_2 hnx hlocks (by omega) (by omega) (fun E H9 q _ => ⟨Or.inl ⟨q.1, q.2.1⟩, _, _, q.2.2, hF⟩) (fun rv17 H17 L17 hP17 hk17 hS => ?_)
  have hZ17 := hS.1
  obtain ⟨⟨i, hi, hxi, hrv⟩, hW⟩ := hP17
  subst hrv
  have hO := hW.2.1
  have hR1 := hW.2.2.1
  have hR2 := hW.2.2.2.1
  have ei := hF i (Or.inl hi)
  refine lv_astore (lv' := [(4, .ref (SA (7 + 2 * i))), (0, .ref (SA 0)), (1, .int x), (2, .int h9), (3, .int l9)]) hx hb dX2_great_5 hl (by decide) rfl (fun ls hl => ?_)
  refine lv_aload_n hx hb dX2_great_7 rfl (lv_at hl 1 rfl) ?_
  refine va_get (D := G.1) (ci := 6) (C := RX2) (T := TX2) (N := 8) hx hb hts inX2 hown hK (at_P hO) 0 rfl rfl 5 (by decide) (hts _ tw_1_142) (fun _ h9 => h9) rfl dX2_great_8 ?_
  refine qV_V (A := A) (A1 := ow (SA (7 + 2 * 12)) (SA (8 + 2 * 12)) H17.size) (b := (SA 31)) (As := []) (rest := []) ⟨hx, hb, hml, hown, hts⟩ (mX0_empty (A := ow (SA (7 + 2 * 12)) (SA (8 + 2 * 12)) H17.size) (ca := SA (8 + 2 * 12)) (hAa := Or.inl rfl)) (cwV 0 hts (gV tw_2_31 tw_2_32 tw_2_33 tw_1_2 tw_2_34) rfl rfl rfl (by decide +kernel) ⟨Nat.le_of_ble_eq_true rfl, Nat.le_of_ble_eq_true rfl⟩) hC hS (ow_in (hAS _ (by omega)) (hAS _ (by omega)) hA hS.1) ow_n ((hW.line (i := 12) (by omega)).recv hK) (hW.line (i := 12) (by omega)) rfl rfl hl.1 (Nat.le_of_ble_eq_true rfl) ⟨Nat.le_trans (show (0 + 1) ≤ 2 by omega) (Nat.le_of_ble_eq_true rfl), Nat.le_trans (show (0 + 6) ≤ 12 by omega) (Nat.le_of_ble_eq_true rfl)⟩ dX2_great_11 (fun H18 L18 hP18 hk18 hS => ?_)
  have hZ18 := hS.1
  have hW := hW.put (q := 12) (t := []) (by omega) hk18 hP18
  have hO := hW.2.1
  have hR1 := hW.2.2.1
  have hR2 := hW.2.2.2.1
  refine lv_aload_n hx hb dX2_great_14 rfl (lv_at hl 1 rfl) ?_
  refine va_get (D := G.1) (ci := 6) (C := RX2) (T := TX2) (N := 8) hx hb hts inX2 hown hK (at_P hO) 0 rfl rfl 5 (by decide) (hts _ tw_1_142) (fun _ h9 => h9) rfl dX2_great_15 ?_
  refine lv_iload_n hx hb dX2_great_18 rfl (lv_at hl 3 rfl) ?_
  refine lv_i2l hx hb dX2_great_19 rfl ?_
  refine lv_bipush (v := nI 32) hx hb dX2_great_20 (by decide) ?_
  refine lv_lshl hx hb dX2_great_22 rfl ?_
  refine lv_iload_n hx hb dX2_great_23 rfl (lv_at hl 4 rfl) ?_
  refine lv_i2l hx hb dX2_great_24 rfl ?_
  refine lv_ldc2 (v := 4294967295) hx hb hown (hts _ tw_3_138) dX2_great_25 ?_
  refine lv_land hx hb dX2_great_28 ?_
  refine lv_lor hx hb dX2_great_29 ?_
  refine qV_V (A := A) (A1 := ow (SA (7 + 2 * 12)) (SA (8 + 2 * 12)) H18.size) (b := (SA 31)) (As := [.long ((h9.toInt64 <<< ((nI 32).toInt64 &&& 63)) ||| (l9.toInt64 &&& 4294967295))]) (rest := []) ⟨hx, hb, hml, hown, hts⟩ (mX0_addNumber (A := ow (SA (7 + 2 * 12)) (SA (8 + 2 * 12)) H18.size) (ca := SA (8 + 2 * 12)) (t := []) (x := (h9.toInt64 <<< ((nI 32).toInt64 &&& 63)) ||| (l9.toInt64 &&& 4294967295)) (Or.inl rfl) (Or.inr (Or.inl rfl))) (cwV 1 hts (gV tw_3_118 tw_3_119 tw_3_120 tw_1_2 tw_3_121) rfl rfl rfl (by decide +kernel) ⟨Nat.le_of_ble_eq_true rfl, Nat.le_of_ble_eq_true rfl⟩) hC hS (ow_in (hAS _ (by omega)) (hAS _ (by omega)) hA hS.1) ow_n ((hW.line (i := 12) (by omega)).recv hK) (by have h := hW.line (i := 12) (by omega); rw [updT_s] at h; exact h) rfl rfl hl.1 (Nat.le_of_ble_eq_true rfl) ⟨Nat.le_trans (show (0 + 1) ≤ 2 by omega) (Nat.le_of_ble_eq_true rfl), Nat.le_trans (show (0 + 6) ≤ 12 by omega) (Nat.le_of_ble_eq_true rfl)⟩ dX2_great_30 (fun H19 L19 hP19 hk19 hS => ?_)
  have hZ19 := hS.1
  have hW := hW.put (q := 12) (t := (numL ((h9.toInt64 <<< ((nI 32).toInt64 &&& 63)) ||| (l9.toInt64 &&& 4294967295))).take 60) (by omega) hk19 hP19
  rw [updT_2] at hW
  have hO := hW.2.1
  have hR1 := hW.2.2.1
  have hR2 := hW.2.2.2.1
  refine lv_aload_n hx hb dX2_great_33 rfl (lv_at hl 1 rfl) ?_
  refine lv_aload hx hb dX2_great_34 (lv_at hl 0 rfl) ?_
  refine lv_iconst (v := nI 0) hx hb dX2_great_36 (by decide) ?_
  refine xI_V (A := A) (A1 := A) (b := (SA 0)) (As := [.ref (SA (7 + 2 * i)), .int (bI false)]) (rest := []) ⟨hx, hb, hml, hown, hts⟩ (mX2_addMade (A := A) hst (i := i) (b := false) hAS hi) (cwV 2 hts (gV tw_3_127 tw_3_129 sel_X2_addMade tw_1_1 tw_3_130) rfl rfl rfl (by decide +kernel) ⟨Nat.le_of_ble_eq_true rfl, Nat.le_of_ble_eq_true rfl⟩) hC hS (fun _ h => h) (fun q h => hA q (Nat.le_trans hS.1 h)) (hW.recv hK) hW rfl rfl hl.1 (Nat.le_of_ble_eq_true rfl) ⟨Nat.le_trans (show (0 + 1) + 1 ≤ 2 by omega) (Nat.le_of_ble_eq_true rfl), Nat.le_trans (show (0 + 6) + 6 ≤ 12 by omega) (Nat.le_of_ble_eq_true rfl)⟩ dX2_great_37 hnx hlocks (by omega) (by omega) (fun E H9 q _ => ⟨Or.inr ⟨q.1, i, hi, hxi, by have h := q.2.1; rw [updT_s, updT_n (show i ≠ 12 by omega), ei] at h; exact h⟩, _, _, q.2.2, (FR.s12 hF)⟩) (fun rv20 H20 L20 hP20 hk20 hS => ?_)
  have hZ20 := hS.1
  rw [updT_s, updT_n (show i ≠ 12 by omega), ei] at hP20
  exact vx_ret (q_i hx hb hr hlocks dX2_great_40 hS (by omega) (by omega) ⟨i, hi, hxi, hP20.2.1, hP20.1, _, _, hP20.2.2, (FR.up (FR.s13 (FR.s12 hF)))⟩)

abbrev rmX2_truth : Room := { frames := 9, cells := 2, slots := 12, locals := 154 }
theorem mX2_truth {l : Launch} {G : Cx} {A : Nat → Prop} (hst : l.stackTraces = false) {SA : Nat → Nat} {X : Nat → List Nat} {es : List Nat} {k : Int32} {x : Int32} {b b2 : Bool} (hAS : ∀ i : Nat, i < 39 → A (SA i)) : vx_Met l yX2_truth (.code yX2_truth cX2_truth 5 (some .int) :: GW) rmX2_truth (PC G A [.ref (SA 0), .int x, .int (bI b), .int (bI b2)] (SS G SA X es k)) (qI A (fun r H => ∃ i : Nat, i < 4 ∧ x = nI i ∧ (if b2 then stx (if b then 7 else 8) ++ X i else X i ++ stx (if b then 7 else 8)).length ≤ 60 ∧ r = nI (if b2 then stx (if b then 7 else 8) ++ X i else X i ++ stx (if b then 7 else 8)).length ∧ SS G SA (updT X i (if b2 then stx (if b then 7 else 8) ++ X i else X i ++ stx (if b then 7 else 8))) es k H)) (xE A (fun E H => ((E = "java/lang/IndexOutOfBoundsException" ∧ NT x) ∨ (E = "java/lang/IllegalStateException" ∧ ∃ i : Nat, i < 4 ∧ x = nI i ∧ 60 < (if b2 then stx (if b then 7 else 8) ++ X i else X i ++ stx (if b then 7 else 8)).length)) ∧ SS G SA X es k H)) 2 12 A := by
  refine mstartX "Signtext" (by decide +kernel) rfl (Nat.le_of_ble_eq_true rfl) ?_
  intro p e s m below meth c ls hx hb hr hts hown hml hlocks hnx hC hA hW hl
  have hl : lv_has ls 5 [(0, .ref (SA 0)), (1, .int x), (2, .int (bI b)), (3, .int (bI b2))] := hl
  have hK := hC.1
  have hS : va_S A s.heap s.heap [] := va_S.rf
  obtain ⟨T, es2, hW, hF⟩ := hW
  have hO := hW.2.1
  have hR1 := hW.2.2.1
  have hR2 := hW.2.2.2.1
  refine lv_aload_n hx hb dX2_truth_0 rfl (lv_at hl 0 rfl) ?_
  refine lv_iload_n hx hb dX2_truth_1 rfl (lv_at hl 1 rfl) ?_
  refine xR_V (A := A) (A1 := A) (b := (SA 0)) (As := [.int x]) (rest := []) ⟨hx, hb, hml, hown, hts⟩ (mX2_textOf (A := A) hst ) (cwV 1 hts (gV tw_3_4 tw_3_6 sel_X2_textOf tw_1_1 tw_3_7) rfl rfl rfl (by decide +kernel) ⟨Nat.le_of_ble_eq_true rfl, Nat.le_of_ble_eq_true rfl⟩) hC hS (fun _ h => h) (fun q h => hA q (Nat.le_trans hS.1 h)) (hW.recv hK) hW rfl rfl hl.1 (Nat.le_of_ble_eq_true rfl) ⟨Nat.le_trans (show 0 + 1 ≤ 2 by omega) (Nat.le_of_ble_eq_true rfl), Nat.le_trans (show 0 + 6 ≤ 12 by omega) (Nat.le_of_ble_eq_true rfl)⟩ dX2_truth_2 hnx hlocks (by omega) (by omega) (fun E H9 q _ => ⟨Or.inl ⟨q.1, q.2.1⟩, _, _, q.2.2, hF⟩) (fun rv21 H21 L21 hP21 hk21 hS => ?_)
  have hZ21 := hS.1
  obtain ⟨⟨i, hi, hxi, hrv⟩, hW⟩ := hP21
  subst hrv
  have hO := hW.2.1
  have hR1 := hW.2.2.1
  have hR2 := hW.2.2.2.1
  have ei := hF i (Or.inl hi)
  refine lv_astore (lv' := [(4, .ref (SA (7 + 2 * i))), (0, .ref (SA 0)), (1, .int x), (2, .int (bI b)), (3, .int (bI b2))]) hx hb dX2_truth_5 hl (by decide) rfl (fun ls hl => ?_)
  refine lv_aload_n hx hb dX2_truth_7 rfl (lv_at hl 1 rfl) ?_
  refine va_get (D := G.1) (ci := 6) (C := RX2) (T := TX2) (N := 8) hx hb hts inX2 hown hK (at_P hO) 0 rfl rfl 5 (by decide) (hts _ tw_1_142) (fun _ h9 => h9) rfl dX2_truth_8 ?_
  refine qV_V (A := A) (A1 := ow (SA (7 + 2 * 12)) (SA (8 + 2 * 12)) H21.size) (b := (SA 31)) (As := []) (rest := []) ⟨hx, hb, hml, hown, hts⟩ (mX0_empty (A := ow (SA (7 + 2 * 12)) (SA (8 + 2 * 12)) H21.size) (ca := SA (8 + 2 * 12)) (hAa := Or.inl rfl)) (cwV 0 hts (gV tw_2_31 tw_2_32 tw_2_33 tw_1_2 tw_2_34) rfl rfl rfl (by decide +kernel) ⟨Nat.le_of_ble_eq_true rfl, Nat.le_of_ble_eq_true rfl⟩) hC hS (ow_in (hAS _ (by omega)) (hAS _ (by omega)) hA hS.1) ow_n ((hW.line (i := 12) (by omega)).recv hK) (hW.line (i := 12) (by omega)) rfl rfl hl.1 (Nat.le_of_ble_eq_true rfl) ⟨Nat.le_trans (show (0 + 1) ≤ 2 by omega) (Nat.le_of_ble_eq_true rfl), Nat.le_trans (show (0 + 6) ≤ 12 by omega) (Nat.le_of_ble_eq_true rfl)⟩ dX2_truth_11 (fun H22 L22 hP22 hk22 hS => ?_)
  have hZ22 := hS.1
  have hW := hW.put (q := 12) (t := []) (by omega) hk22 hP22
  have hO := hW.2.1
  have hR1 := hW.2.2.1
  have hR2 := hW.2.2.2.1
  refine lv_aload_n hx hb dX2_truth_14 rfl (lv_at hl 1 rfl) ?_
  refine va_get (D := G.1) (ci := 6) (C := RX2) (T := TX2) (N := 8) hx hb hts inX2 hown hK (at_P hO) 0 rfl rfl 5 (by decide) (hts _ tw_1_142) (fun _ h9 => h9) rfl dX2_truth_15 ?_
  refine lv_iload_n hx hb dX2_truth_18 rfl (lv_at hl 3 rfl) ?_
  refine f_eq (tgt := 27) hx hb dX2_truth_19 (by decide) (fun c_23 => ?_) (fun c_23 => ?_)
  · subst c_23
    refine va_ldcS hx hb hown (hC.2.2.2.2.1 ("Signtext", 113, "false", 8) (by unfold sRl; simp)) dX2_truth_27 ?_
    refine qV_V (A := A) (A1 := ow (SA (7 + 2 * 12)) (SA (8 + 2 * 12)) H22.size) (b := (SA 31)) (As := [.ref (G.2.2 (20 + 8))]) (rest := []) ⟨hx, hb, hml, hown, hts⟩ (mX0_addWord (A := ow (SA (7 + 2 * 12)) (SA (8 + 2 * 12)) H22.size) (ca := SA (8 + 2 * 12)) (t := []) (i := 8) (by decide) (Or.inl rfl) (Or.inr (Or.inl rfl))) (cwV 1 hts (gV tw_1_81 tw_1_82 tw_1_83 tw_1_2 tw_1_84) rfl rfl rfl (by decide +kernel) ⟨Nat.le_of_ble_eq_true rfl, Nat.le_of_ble_eq_true rfl⟩) hC hS (ow_in (hAS _ (by omega)) (hAS _ (by omega)) hA hS.1) ow_n ((hW.line (i := 12) (by omega)).recv hK) (by have h := hW.line (i := 12) (by omega); rw [updT_s] at h; exact h) rfl rfl hl.1 (Nat.le_of_ble_eq_true rfl) ⟨Nat.le_trans (show (0 + 1) ≤ 2 by omega) (Nat.le_of_ble_eq_true rfl), Nat.le_trans (show (0 + 6) ≤ 12 by omega) (Nat.le_of_ble_eq_true rfl)⟩ dX2_truth_29 (fun H24 L24 hP24 hk24 hS => ?_)
    have hZ24 := hS.1
    have hW := hW.put (q := 12) (t := stx 8) (by omega) hk24 hP24
    rw [updT_2] at hW
    have hO := hW.2.1
    have hR1 := hW.2.2.1
    have hR2 := hW.2.2.2.1
    refine lv_aload_n hx hb dX2_truth_32 rfl (lv_at hl 1 rfl) ?_
    refine lv_aload hx hb dX2_truth_33 (lv_at hl 0 rfl) ?_
    refine lv_iload_n hx hb dX2_truth_35 rfl (lv_at hl 4 rfl) ?_
    refine xI_V (A := A) (A1 := A) (b := (SA 0)) (As := [.ref (SA (7 + 2 * i)), .int (bI b2)]) (rest := []) ⟨hx, hb, hml, hown, hts⟩ (mX2_addMade (A := A) hst (i := i) (b := b2) hAS hi) (cwV 2 hts (gV tw_3_127 tw_3_129 sel_X2_addMade tw_1_1 tw_3_130) rfl rfl rfl (by decide +kernel) ⟨Nat.le_of_ble_eq_true rfl, Nat.le_of_ble_eq_true rfl⟩) hC hS (fun _ h => h) (fun q h => hA q (Nat.le_trans hS.1 h)) (hW.recv hK) hW rfl rfl hl.1 (Nat.le_of_ble_eq_true rfl) ⟨Nat.le_trans (show (0 + 1) + 1 ≤ 2 by omega) (Nat.le_of_ble_eq_true rfl), Nat.le_trans (show (0 + 6) + 6 ≤ 12 by omega) (Nat.le_of_ble_eq_true rfl)⟩ dX2_truth_36 hnx hlocks (by omega) (by omega) (fun E H9 q _ => ⟨Or.inr ⟨q.1, i, hi, hxi, by have h := q.2.1; rw [updT_s, updT_n (show i ≠ 12 by omega), ei] at h; exact h⟩, _, _, q.2.2, (FR.s12 hF)⟩) (fun rv25 H25 L25 hP25 hk25 hS => ?_)
    have hZ25 := hS.1
    rw [updT_s, updT_n (show i ≠ 12 by omega), ei] at hP25
    exact vx_ret (q_i hx hb hr hlocks dX2_truth_39 hS (by omega) (by omega) ⟨i, hi, hxi, hP25.2.1, hP25.1, _, _, hP25.2.2, (FR.up (FR.s13 (FR.s12 hF)))⟩)
  · subst c_23
    refine va_ldcS hx hb hown (hC.2.2.2.2.1 ("Signtext", 111, "true", 7) (by unfold sRl; simp)) dX2_truth_22 ?_
    refine lv_goto (tgt := 29) hx hb dX2_truth_24 (by decide) ?_
    refine qV_V (A := A) (A1 := ow (SA (7 + 2 * 12)) (SA (8 + 2 * 12)) H22.size) (b := (SA 31)) (As := [.ref (G.2.2 (20 + 7))]) (rest := []) ⟨hx, hb, hml, hown, hts⟩ (mX0_addWord (A := ow (SA (7 + 2 * 12)) (SA (8 + 2 * 12)) H22.size) (ca := SA (8 + 2 * 12)) (t := []) (i := 7) (by decide) (Or.inl rfl) (Or.inr (Or.inl rfl))) (cwV 1 hts (gV tw_1_81 tw_1_82 tw_1_83 tw_1_2 tw_1_84) rfl rfl rfl (by decide +kernel) ⟨Nat.le_of_ble_eq_true rfl, Nat.le_of_ble_eq_true rfl⟩) hC hS (ow_in (hAS _ (by omega)) (hAS _ (by omega)) hA hS.1) ow_n ((hW.line (i := 12) (by omega)).recv hK) (by have h := hW.line (i := 12) (by omega); rw [updT_s] at h; exact h) rfl rfl hl.1 (Nat.le_of_ble_eq_true rfl) ⟨Nat.le_trans (show (0 + 1) ≤ 2 by omega) (Nat.le_of_ble_eq_true rfl), Nat.le_trans (show (0 + 6) ≤ 12 by omega) (Nat.le_of_ble_eq_true rfl)⟩ dX2_truth_29 (fun H26 L26 hP26 hk26 hS => ?_)
    have hZ26 := hS.1
    have hW := hW.put (q := 12) (t := stx 7) (by omega) hk26 hP26
    rw [updT_2] at hW
    have hO := hW.2.1
    have hR1 := hW.2.2.1
    have hR2 := hW.2.2.2.1
    refine lv_aload_n hx hb dX2_truth_32 rfl (lv_at hl 1 rfl) ?_
    refine lv_aload hx hb dX2_truth_33 (lv_at hl 0 rfl) ?_
    refine lv_iload_n hx hb dX2_truth_35 rfl (lv_at hl 4 rfl) ?_
    refine xI_V (A := A) (A1 := A) (b := (SA 0)) (As := [.ref (SA (7 + 2 * i)), .int (bI b2)]) (rest := []) ⟨hx, hb, hml, hown, hts⟩ (mX2_addMade (A := A) hst (i := i) (b := b2) hAS hi) (cwV 2 hts (gV tw_3_127 tw_3_129 sel_X2_addMade tw_1_1 tw_3_130) rfl rfl rfl (by decide +kernel) ⟨Nat.le_of_ble_eq_true rfl, Nat.le_of_ble_eq_true rfl⟩) hC hS (fun _ h => h) (fun q h => hA q (Nat.le_trans hS.1 h)) (hW.recv hK) hW rfl rfl hl.1 (Nat.le_of_ble_eq_true rfl) ⟨Nat.le_trans (show (0 + 1) + 1 ≤ 2 by omega) (Nat.le_of_ble_eq_true rfl), Nat.le_trans (show (0 + 6) + 6 ≤ 12 by omega) (Nat.le_of_ble_eq_true rfl)⟩ dX2_truth_36 hnx hlocks (by omega) (by omega) (fun E H9 q _ => ⟨Or.inr ⟨q.1, i, hi, hxi, by have h := q.2.1; rw [updT_s, updT_n (show i ≠ 12 by omega), ei] at h; exact h⟩, _, _, q.2.2, (FR.s12 hF)⟩) (fun rv27 H27 L27 hP27 hk27 hS => ?_)
    have hZ27 := hS.1
    rw [updT_s, updT_n (show i ≠ 12 by omega), ei] at hP27
    exact vx_ret (q_i hx hb hr hlocks dX2_truth_39 hS (by omega) (by omega) ⟨i, hi, hxi, hP27.2.1, hP27.1, _, _, hP27.2.2, (FR.up (FR.s13 (FR.s12 hF)))⟩)

abbrev rmX2_put : Room := { frames := 8, cells := 7, slots := 42, locals := 132 }
theorem mX2_put {l : Launch} {G : Cx} {A : Nat → Prop} (hst : l.stackTraces = false) {SA : Nat → Nat} {X : Nat → List Nat} {es : List Nat} {k : Int32} {x a9 b9 c9 d9 e9 : Int32} (hAS : ∀ i : Nat, i < 39 → A (SA i)) : vx_Met l yX2_put (.code yX2_put cX2_put 8 (some .int) :: GW) rmX2_put (PC G A [.ref (SA 0), .int x, .int a9, .int b9, .int c9, .int d9, .int e9] (SS G SA X es k)) (qI A (fun r H => ∃ (i : Nat) (w : List Nat), i < 4 ∧ x = nI i ∧ comeS a9 b9 c9 d9 e9 w ∧ (X i ++ w).length ≤ 60 ∧ r = nI (X i ++ w).length ∧ SS G SA (updT X i (X i ++ w)) es k H)) (xE A (fun E H => ((E = "java/lang/IndexOutOfBoundsException" ∧ NT x) ∨ (E = "java/lang/IllegalArgumentException" ∧ (∃ i : Nat, i < 4 ∧ x = nI i) ∧ (badS a9 ∨ badS b9 ∨ badS c9 ∨ badS d9 ∨ badS e9)) ∨ (E = "java/lang/IllegalStateException" ∧ ∃ (i : Nat) (w : List Nat), i < 4 ∧ x = nI i ∧ comeS a9 b9 c9 d9 e9 w ∧ 60 < (X i ++ w).length)) ∧ SS G SA X es k H)) 7 42 A := by
  refine mstartX "Signtext" (by decide +kernel) rfl (Nat.le_of_ble_eq_true rfl) ?_
  intro p e s m below meth c ls hx hb hr hts hown hml hlocks hnx hC hA hW hl
  have hl : lv_has ls 8 [(0, .ref (SA 0)), (1, .int x), (2, .int a9), (3, .int b9), (4, .int c9), (5, .int d9), (6, .int e9)] := hl
  have hK := hC.1
  have hS : va_S A s.heap s.heap [] := va_S.rf
  obtain ⟨T, es2, hW, hF⟩ := hW
  have hO := hW.2.1
  have hR1 := hW.2.2.1
  have hR2 := hW.2.2.2.1
  refine lv_aload_n hx hb dX2_put_0 rfl (lv_at hl 0 rfl) ?_
  refine lv_iload_n hx hb dX2_put_1 rfl (lv_at hl 1 rfl) ?_
  refine xR_V (A := A) (A1 := A) (b := (SA 0)) (As := [.int x]) (rest := []) ⟨hx, hb, hml, hown, hts⟩ (mX2_textOf (A := A) hst ) (cwV 1 hts (gV tw_3_4 tw_3_6 sel_X2_textOf tw_1_1 tw_3_7) rfl rfl rfl (by decide +kernel) ⟨Nat.le_of_ble_eq_true rfl, Nat.le_of_ble_eq_true rfl⟩) hC hS (fun _ h => h) (fun q h => hA q (Nat.le_trans hS.1 h)) (hW.recv hK) hW rfl rfl hl.1 (Nat.le_of_ble_eq_true rfl) ⟨Nat.le_trans (show 0 + 1 ≤ 7 by omega) (Nat.le_of_ble_eq_true rfl), Nat.le_trans (show 0 + 6 ≤ 42 by omega) (Nat.le_of_ble_eq_true rfl)⟩ dX2_put_2 hnx hlocks (by omega) (by omega) (fun E H9 q _ => ⟨Or.inl ⟨q.1, q.2.1⟩, _, _, q.2.2, hF⟩) (fun rv28 H28 L28 hP28 hk28 hS => ?_)
  have hZ28 := hS.1
  obtain ⟨⟨i, hi, hxi, hrv⟩, hW⟩ := hP28
  subst hrv
  have hO := hW.2.1
  have hR1 := hW.2.2.1
  have hR2 := hW.2.2.2.1
  have ei := hF i (Or.inl hi)
  refine lv_astore (lv' := [(7, .ref (SA (7 + 2 * i))), (0, .ref (SA 0)), (1, .int x), (2, .int a9), (3, .int b9), (4, .int c9), (5, .int d9), (6, .int e9)]) hx hb dX2_put_5 hl (by decide) rfl (fun ls hl => ?_)
  refine lv_aload_n hx hb dX2_put_7 rfl (lv_at hl 1 rfl) ?_
  refine va_get (D := G.1) (ci := 6) (C := RX2) (T := TX2) (N := 8) hx hb hts inX2 hown hK (at_P hO) 0 rfl rfl 5 (by decide) (hts _ tw_1_142) (fun _ h9 => h9) rfl dX2_put_8 ?_
  refine qV_V (A := A) (A1 := ow (SA (7 + 2 * 12)) (SA (8 + 2 * 12)) H28.size) (b := (SA 31)) (As := []) (rest := []) ⟨hx, hb, hml, hown, hts⟩ (mX0_empty (A := ow (SA (7 + 2 * 12)) (SA (8 + 2 * 12)) H28.size) (ca := SA (8 + 2 * 12)) (hAa := Or.inl rfl)) (cwV 0 hts (gV tw_2_31 tw_2_32 tw_2_33 tw_1_2 tw_2_34) rfl rfl rfl (by decide +kernel) ⟨Nat.le_of_ble_eq_true rfl, Nat.le_of_ble_eq_true rfl⟩) hC hS (ow_in (hAS _ (by omega)) (hAS _ (by omega)) hA hS.1) ow_n ((hW.line (i := 12) (by omega)).recv hK) (hW.line (i := 12) (by omega)) rfl rfl hl.1 (Nat.le_of_ble_eq_true rfl) ⟨Nat.le_trans (show (0 + 1) ≤ 7 by omega) (Nat.le_of_ble_eq_true rfl), Nat.le_trans (show (0 + 6) ≤ 42 by omega) (Nat.le_of_ble_eq_true rfl)⟩ dX2_put_11 (fun H29 L29 hP29 hk29 hS => ?_)
  have hZ29 := hS.1
  have hW := hW.put (q := 12) (t := []) (by omega) hk29 hP29
  have hO := hW.2.1
  have hR1 := hW.2.2.1
  have hR2 := hW.2.2.2.1
  refine lv_aload_n hx hb dX2_put_14 rfl (lv_at hl 1 rfl) ?_
  refine lv_iload_n hx hb dX2_put_15 rfl (lv_at hl 3 rfl) ?_
  refine xV_V (A := A) (A1 := A) (b := (SA 0)) (As := [.int a9]) (rest := []) ⟨hx, hb, hml, hown, hts⟩ (mX2_addSignOrNone (A := A) hst hAS) (cwV 1 hts (gV tw_3_23 tw_3_25 sel_X2_addSignOrNone tw_1_1 tw_3_26) rfl rfl rfl (by decide +kernel) ⟨Nat.le_of_ble_eq_true rfl, Nat.le_of_ble_eq_true rfl⟩) hC hS (fun _ h => h) (fun q h => hA q (Nat.le_trans hS.1 h)) (hW.recv hK) hW rfl rfl hl.1 (Nat.le_of_ble_eq_true rfl) ⟨Nat.le_trans (show (0 + 1) + 1 ≤ 7 by omega) (Nat.le_of_ble_eq_true rfl), Nat.le_trans (show (0 + 6) + 6 ≤ 42 by omega) (Nat.le_of_ble_eq_true rfl)⟩ dX2_put_16 hnx hlocks (by omega) (by omega) (fun E H9 q _ => ⟨Or.inr (Or.inl ⟨q.1, ⟨i, hi, hxi⟩, Or.inl ⟨q.2.1, q.2.2.1⟩⟩), _, _, q.2.2.2, (FR.s12 hF)⟩) (fun H30 L30 hP30 hk30 hS => ?_)
  have hZ30 := hS.1
  obtain ⟨w1, q1, hW⟩ := hP30
  rw [updT_s] at q1
  rw [updT_2] at hW
  have hO := hW.2.1
  have hR1 := hW.2.2.1
  have hR2 := hW.2.2.2.1
  refine lv_aload_n hx hb dX2_put_19 rfl (lv_at hl 1 rfl) ?_
  refine lv_iload_n hx hb dX2_put_20 rfl (lv_at hl 4 rfl) ?_
  refine xV_V (A := A) (A1 := A) (b := (SA 0)) (As := [.int b9]) (rest := []) ⟨hx, hb, hml, hown, hts⟩ (mX2_addSignOrNone (A := A) hst hAS) (cwV 1 hts (gV tw_3_23 tw_3_25 sel_X2_addSignOrNone tw_1_1 tw_3_26) rfl rfl rfl (by decide +kernel) ⟨Nat.le_of_ble_eq_true rfl, Nat.le_of_ble_eq_true rfl⟩) hC hS (fun _ h => h) (fun q h => hA q (Nat.le_trans hS.1 h)) (hW.recv hK) hW rfl rfl hl.1 (Nat.le_of_ble_eq_true rfl) ⟨Nat.le_trans (show ((0 + 1) + 1) + 1 ≤ 7 by omega) (Nat.le_of_ble_eq_true rfl), Nat.le_trans (show ((0 + 6) + 6) + 6 ≤ 42 by omega) (Nat.le_of_ble_eq_true rfl)⟩ dX2_put_21 hnx hlocks (by omega) (by omega) (fun E H9 q _ => ⟨Or.inr (Or.inl ⟨q.1, ⟨i, hi, hxi⟩, Or.inr (Or.inl ⟨q.2.1, q.2.2.1⟩)⟩), _, _, q.2.2.2, (FR.s12 hF)⟩) (fun H31 L31 hP31 hk31 hS => ?_)
  have hZ31 := hS.1
  obtain ⟨w2, q2, hW⟩ := hP31
  rw [updT_s] at q2
  rw [updT_2] at hW
  have hO := hW.2.1
  have hR1 := hW.2.2.1
  have hR2 := hW.2.2.2.1
  refine lv_aload_n hx hb dX2_put_24 rfl (lv_at hl 1 rfl) ?_
  refine lv_iload hx hb dX2_put_25 (lv_at hl 5 rfl) ?_
  refine xV_V (A := A) (A1 := A) (b := (SA 0)) (As := [.int c9]) (rest := []) ⟨hx, hb, hml, hown, hts⟩ (mX2_addSignOrNone (A := A) hst hAS) (cwV 1 hts (gV tw_3_23 tw_3_25 sel_X2_addSignOrNone tw_1_1 tw_3_26) rfl rfl rfl (by decide +kernel) ⟨Nat.le_of_ble_eq_true rfl, Nat.le_of_ble_eq_true rfl⟩) hC hS (fun _ h => h) (fun q h => hA q (Nat.le_trans hS.1 h)) (hW.recv hK) hW rfl rfl hl.1 (Nat.le_of_ble_eq_true rfl) ⟨Nat.le_trans (show (((0 + 1) + 1) + 1) + 1 ≤ 7 by omega) (Nat.le_of_ble_eq_true rfl), Nat.le_trans (show (((0 + 6) + 6) + 6) + 6 ≤ 42 by omega) (Nat.le_of_ble_eq_true rfl)⟩ dX2_put_27 hnx hlocks (by omega) (by omega) (fun E H9 q _ => ⟨Or.inr (Or.inl ⟨q.1, ⟨i, hi, hxi⟩, Or.inr (Or.inr (Or.inl ⟨q.2.1, q.2.2.1⟩))⟩), _, _, q.2.2.2, (FR.s12 hF)⟩) (fun H32 L32 hP32 hk32 hS => ?_)
  have hZ32 := hS.1
  obtain ⟨w3, q3, hW⟩ := hP32
  rw [updT_s] at q3
  rw [updT_2] at hW
  have hO := hW.2.1
  have hR1 := hW.2.2.1
  have hR2 := hW.2.2.2.1
  refine lv_aload_n hx hb dX2_put_30 rfl (lv_at hl 1 rfl) ?_
  refine lv_iload hx hb dX2_put_31 (lv_at hl 6 rfl) ?_
  refine xV_V (A := A) (A1 := A) (b := (SA 0)) (As := [.int d9]) (rest := []) ⟨hx, hb, hml, hown, hts⟩ (mX2_addSignOrNone (A := A) hst hAS) (cwV 1 hts (gV tw_3_23 tw_3_25 sel_X2_addSignOrNone tw_1_1 tw_3_26) rfl rfl rfl (by decide +kernel) ⟨Nat.le_of_ble_eq_true rfl, Nat.le_of_ble_eq_true rfl⟩) hC hS (fun _ h => h) (fun q h => hA q (Nat.le_trans hS.1 h)) (hW.recv hK) hW rfl rfl hl.1 (Nat.le_of_ble_eq_true rfl) ⟨Nat.le_trans (show ((((0 + 1) + 1) + 1) + 1) + 1 ≤ 7 by omega) (Nat.le_of_ble_eq_true rfl), Nat.le_trans (show ((((0 + 6) + 6) + 6) + 6) + 6 ≤ 42 by omega) (Nat.le_of_ble_eq_true rfl)⟩ dX2_put_33 hnx hlocks (by omega) (by omega) (fun E H9 q _ => ⟨Or.inr (Or.inl ⟨q.1, ⟨i, hi, hxi⟩, Or.inr (Or.inr (Or.inr (Or.inl ⟨q.2.1, q.2.2.1⟩)))⟩), _, _, q.2.2.2, (FR.s12 hF)⟩) (fun H33 L33 hP33 hk33 hS => ?_)
  have hZ33 := hS.1
  obtain ⟨w4, q4, hW⟩ := hP33
  rw [updT_s] at q4
  rw [updT_2] at hW
  have hO := hW.2.1
  have hR1 := hW.2.2.1
  have hR2 := hW.2.2.2.1
  refine lv_aload_n hx hb dX2_put_36 rfl (lv_at hl 1 rfl) ?_
  refine lv_iload hx hb dX2_put_37 (lv_at hl 7 rfl) ?_
  refine xV_V (A := A) (A1 := A) (b := (SA 0)) (As := [.int e9]) (rest := []) ⟨hx, hb, hml, hown, hts⟩ (mX2_addSignOrNone (A := A) hst hAS) (cwV 1 hts (gV tw_3_23 tw_3_25 sel_X2_addSignOrNone tw_1_1 tw_3_26) rfl rfl rfl (by decide +kernel) ⟨Nat.le_of_ble_eq_true rfl, Nat.le_of_ble_eq_true rfl⟩) hC hS (fun _ h => h) (fun q h => hA q (Nat.le_trans hS.1 h)) (hW.recv hK) hW rfl rfl hl.1 (Nat.le_of_ble_eq_true rfl) ⟨Nat.le_trans (show (((((0 + 1) + 1) + 1) + 1) + 1) + 1 ≤ 7 by omega) (Nat.le_of_ble_eq_true rfl), Nat.le_trans (show (((((0 + 6) + 6) + 6) + 6) + 6) + 6 ≤ 42 by omega) (Nat.le_of_ble_eq_true rfl)⟩ dX2_put_39 hnx hlocks (by omega) (by omega) (fun E H9 q _ => ⟨Or.inr (Or.inl ⟨q.1, ⟨i, hi, hxi⟩, Or.inr (Or.inr (Or.inr (Or.inr (⟨q.2.1, q.2.2.1⟩))))⟩), _, _, q.2.2.2, (FR.s12 hF)⟩) (fun H34 L34 hP34 hk34 hS => ?_)
  have hZ34 := hS.1
  obtain ⟨w5, q5, hW⟩ := hP34
  rw [updT_s] at q5
  rw [updT_2] at hW
  have hO := hW.2.1
  have hR1 := hW.2.2.1
  have hR2 := hW.2.2.2.1
  refine lv_aload_n hx hb dX2_put_42 rfl (lv_at hl 1 rfl) ?_
  refine lv_aload hx hb dX2_put_43 (lv_at hl 0 rfl) ?_
  refine lv_aload_n hx hb dX2_put_45 rfl (lv_at hl 1 rfl) ?_
  refine va_get (D := G.1) (ci := 6) (C := RX2) (T := TX2) (N := 8) hx hb hts inX2 hown hK (at_P hO) 0 rfl rfl 5 (by decide) (hts _ tw_1_142) (fun _ h9 => h9) rfl dX2_put_46 ?_
  refine lv_aload hx hb dX2_put_49 (lv_at hl 0 rfl) ?_
  refine xI_V (A := A) (A1 := A) (b := (SA 0)) (As := [.ref (SA (7 + 2 * i)), .ref (SA 31), .ref (SA (7 + 2 * i))]) (rest := []) ⟨hx, hb, hml, hown, hts⟩ (mX2_joinInto (A := A) hst (i := i) (j := 12) (q := i) hAS (by omega) (by omega) (by omega) (by omega) (by omega)) (cwV 3 hts (gV tw_3_32 tw_3_34 sel_X2_joinInto tw_1_1 tw_3_35) rfl rfl rfl (by decide +kernel) ⟨Nat.le_of_ble_eq_true rfl, Nat.le_of_ble_eq_true rfl⟩) hC hS (fun _ h => h) (fun q h => hA q (Nat.le_trans hS.1 h)) (hW.recv hK) hW rfl rfl hl.1 (Nat.le_of_ble_eq_true rfl) ⟨Nat.le_trans (show ((((((0 + 1) + 1) + 1) + 1) + 1) + 1) + 1 ≤ 7 by omega) (Nat.le_of_ble_eq_true rfl), Nat.le_trans (show ((((((0 + 6) + 6) + 6) + 6) + 6) + 6) + 6 ≤ 42 by omega) (Nat.le_of_ble_eq_true rfl)⟩ dX2_put_51 hnx hlocks (by omega) (by omega) (fun E H9 q _ => ⟨Or.inr (Or.inr ⟨q.1, i, w5, hi, hxi, ⟨w1, w2, w3, w4, q1, q2, q3, q4, q5⟩, by have h := q.2.1; rw [updT_s, updT_n (show i ≠ 12 by omega), ei] at h; exact h⟩), _, _, q.2.2, (FR.s12 hF)⟩) (fun rv35 H35 L35 hP35 hk35 hS => ?_)
  have hZ35 := hS.1
  rw [updT_s, updT_n (show i ≠ 12 by omega), ei] at hP35
  exact vx_ret (q_i hx hb hr hlocks dX2_put_54 hS (by omega) (by omega) ⟨i, w5, hi, hxi, ⟨w1, w2, w3, w4, q1, q2, q3, q4, q5⟩, hP35.2.1, hP35.1, _, _, hP35.2.2, (FR.up (FR.s13 (FR.s12 hF)))⟩)

abbrev rmX2_times : Room := { frames := 7, cells := 4, slots := 24, locals := 110 }
theorem mX2_times {l : Launch} {G : Cx} {A : Nat → Prop} (hst : l.stackTraces = false) {SA : Nat → Nat} {X : Nat → List Nat} {es : List Nat} {k : Int32} {x m9 y : Int32} (hAS : ∀ i : Nat, i < 39 → A (SA i)) : vx_Met l yX2_times (.code yX2_times cX2_times 7 (some .int) :: GW) rmX2_times (PC G A [.ref (SA 0), .int x, .int m9, .int y] (SS G SA X es k)) (qI A (fun r H => ∃ i j b8 : Nat, i < 4 ∧ x = nI i ∧ j < 4 ∧ y = nI j ∧ b8 ≤ 60 ∧ m9 = nI b8 ∧ (repL (X i) b8).length ≤ 60 ∧ r = nI (repL (X i) b8).length ∧ SS G SA (updT X j (repL (X i) b8)) es k H)) (xE A (fun E H => ((E = "java/lang/IndexOutOfBoundsException" ∧ (NT x ∨ NT y)) ∨ (E = "java/lang/IllegalArgumentException" ∧ (∃ i : Nat, i < 4 ∧ x = nI i) ∧ (∃ j : Nat, j < 4 ∧ y = nI j) ∧ ¬ ∃ b8 : Nat, b8 ≤ 60 ∧ m9 = nI b8) ∨ (E = "java/lang/IllegalStateException" ∧ ∃ i j b8 : Nat, i < 4 ∧ x = nI i ∧ j < 4 ∧ y = nI j ∧ b8 ≤ 60 ∧ m9 = nI b8 ∧ 60 < (repL (X i) b8).length)) ∧ SS G SA X es k H)) 4 24 A := by
  refine mstartX "Signtext" (by decide +kernel) rfl (Nat.le_of_ble_eq_true rfl) ?_
  intro p e s m below meth c ls hx hb hr hts hown hml hlocks hnx hC hA hW hl
  have hl : lv_has ls 7 [(0, .ref (SA 0)), (1, .int x), (2, .int m9), (3, .int y)] := hl
  have hK := hC.1
  have hS : va_S A s.heap s.heap [] := va_S.rf
  obtain ⟨T, es2, hW, hF⟩ := hW
  have hO := hW.2.1
  have hR1 := hW.2.2.1
  have hR2 := hW.2.2.2.1
  refine lv_aload_n hx hb dX2_times_0 rfl (lv_at hl 0 rfl) ?_
  refine lv_iload_n hx hb dX2_times_1 rfl (lv_at hl 1 rfl) ?_
  refine xR_V (A := A) (A1 := A) (b := (SA 0)) (As := [.int x]) (rest := []) ⟨hx, hb, hml, hown, hts⟩ (mX2_textOf (A := A) hst ) (cwV 1 hts (gV tw_3_4 tw_3_6 sel_X2_textOf tw_1_1 tw_3_7) rfl rfl rfl (by decide +kernel) ⟨Nat.le_of_ble_eq_true rfl, Nat.le_of_ble_eq_true rfl⟩) hC hS (fun _ h => h) (fun q h => hA q (Nat.le_trans hS.1 h)) (hW.recv hK) hW rfl rfl hl.1 (Nat.le_of_ble_eq_true rfl) ⟨Nat.le_trans (show 0 + 1 ≤ 4 by omega) (Nat.le_of_ble_eq_true rfl), Nat.le_trans (show 0 + 6 ≤ 24 by omega) (Nat.le_of_ble_eq_true rfl)⟩ dX2_times_2 hnx hlocks (by omega) (by omega) (fun E H9 q _ => ⟨Or.inl ⟨q.1, Or.inl q.2.1⟩, _, _, q.2.2, hF⟩) (fun rv36 H36 L36 hP36 hk36 hS => ?_)
  have hZ36 := hS.1
  obtain ⟨⟨i, hi, hxi, hrv⟩, hW⟩ := hP36
  subst hrv
  have hO := hW.2.1
  have hR1 := hW.2.2.1
  have hR2 := hW.2.2.2.1
  have ei := hF i (Or.inl hi)
  refine lv_astore (lv' := [(4, .ref (SA (7 + 2 * i))), (0, .ref (SA 0)), (1, .int x), (2, .int m9), (3, .int y)]) hx hb dX2_times_5 hl (by decide) rfl (fun ls hl => ?_)
  refine lv_aload_n hx hb dX2_times_7 rfl (lv_at hl 1 rfl) ?_
  refine lv_iload_n hx hb dX2_times_8 rfl (lv_at hl 4 rfl) ?_
  refine xR_V (A := A) (A1 := A) (b := (SA 0)) (As := [.int y]) (rest := []) ⟨hx, hb, hml, hown, hts⟩ (mX2_textOf (A := A) hst ) (cwV 1 hts (gV tw_3_4 tw_3_6 sel_X2_textOf tw_1_1 tw_3_7) rfl rfl rfl (by decide +kernel) ⟨Nat.le_of_ble_eq_true rfl, Nat.le_of_ble_eq_true rfl⟩) hC hS (fun _ h => h) (fun q h => hA q (Nat.le_trans hS.1 h)) (hW.recv hK) hW rfl rfl hl.1 (Nat.le_of_ble_eq_true rfl) ⟨Nat.le_trans (show (0 + 1) + 1 ≤ 4 by omega) (Nat.le_of_ble_eq_true rfl), Nat.le_trans (show (0 + 6) + 6 ≤ 24 by omega) (Nat.le_of_ble_eq_true rfl)⟩ dX2_times_9 hnx hlocks (by omega) (by omega) (fun E H9 q _ => ⟨Or.inl ⟨q.1, Or.inr q.2.1⟩, _, _, q.2.2, hF⟩) (fun rv37 H37 L37 hP37 hk37 hS => ?_)
  have hZ37 := hS.1
  obtain ⟨⟨j, hj, hxj, hrv⟩, hW⟩ := hP37
  subst hrv
  have hO := hW.2.1
  have hR1 := hW.2.2.1
  have hR2 := hW.2.2.2.1
  have ej := hF j (Or.inl hj)
  refine lv_astore (lv' := [(5, .ref (SA (7 + 2 * j))), (4, .ref (SA (7 + 2 * i))), (0, .ref (SA 0)), (1, .int x), (2, .int m9), (3, .int y)]) hx hb dX2_times_12 hl (by decide) rfl (fun ls hl => ?_)
  refine lv_iload_n hx hb dX2_times_14 rfl (lv_at hl 4 rfl) ?_
  have i60 := (hW.line (i := i) (by omega)).1
  refine lv_if_lt (tgt := 24) hx hb dX2_times_15 (by decide) (fun c_38 => ?_) (fun c_38 => ?_)
  · exact t_new (nL := 7) (cls := "java/lang/IllegalArgumentException") (ik := 81) (ic := 83) hx hb hst hown hts hC hS hl.1 hml (by decide +kernel) tw_2_136 tw_1_17 tA83 tB83 tG83 hnx hlocks (Nat.le_of_ble_eq_true rfl) (Nat.le_of_ble_eq_true rfl) (Nat.le_trans (show ((0 + 1) + 1) + 1 ≤ 4 by omega) (Nat.le_of_ble_eq_true rfl)) (Nat.le_trans (show ((0 + 6) + 6) + 6 ≤ 24 by omega) (Nat.le_of_ble_eq_true rfl)) (by omega) (by omega) dX2_times_24 dX2_times_27 dX2_times_28 dX2_times_31 (fun H9 hk9 => ⟨Or.inr (Or.inl ⟨rfl, ⟨i, hi, hxi⟩, ⟨j, hj, hxj⟩, (fun ⟨b0, w1, w2⟩ => by rw [w2] at c_38; exact nI_pos (by omega) c_38)⟩), _, _, hW.nw hk9, hF⟩)
  · obtain ⟨b9, hb31, rfl⟩ := nI_of c_38
    refine lv_iload_n hx hb dX2_times_18 rfl (lv_at hl 4 rfl) ?_
    refine lv_bipush (v := nI 60) hx hb dX2_times_19 (by decide) ?_
    refine b_le (tgt := 32) hx hb dX2_times_21 (by decide) (by omega) (by omega) (fun c_39 => ?_) (fun c_39 => ?_)
    · refine lv_aload hx hb dX2_times_32 (lv_at hl 1 rfl) ?_
      refine kV_i (A := A) (b := (SA (7 + 2 * i))) (As := []) (rest := []) ⟨hx, hb, hml, hown, hts⟩ (mX0_size (A := A) (ca := SA (8 + 2 * i))) (cwV 0 hts (gV tw_2_30 tw_2_12 tw_2_13 tw_1_2 tw_2_14) rfl rfl rfl (by decide +kernel) ⟨Nat.le_of_ble_eq_true rfl, Nat.le_of_ble_eq_true rfl⟩) hC hS hA ((hW.line (i := i) (by omega)).recv hK) (hW.line (i := i) (by omega)) rfl rfl hl.1 (Nat.le_of_ble_eq_true rfl) ⟨Nat.le_trans (show ((0 + 1) + 1) ≤ 4 by omega) (Nat.le_of_ble_eq_true rfl), Nat.le_trans (show ((0 + 6) + 6) ≤ 24 by omega) (Nat.le_of_ble_eq_true rfl)⟩ dX2_times_34 (fun r9 h9 => lv_cv h9 ?_)
      refine lv_iload_n hx hb dX2_times_37 rfl (lv_at hl 4 rfl) ?_
      refine lv_imul hx hb dX2_times_38 ?_
      refine lv_cv (pk_mul ((T i).length) b9) ?_
      have hbd : (T i).length * b9 ≤ 60 * 60 := Nat.mul_le_mul i60 (by omega)
      have hrl0 := repL_len (T i) b9
      refine lv_cv (show _ = nI (repL (T i) b9).length by rw [repL_len]) ?_
      refine xV_S (A := A) (A1 := A)  (As := [.int (nI ((repL (T i) b9).length))]) (rest := []) ⟨hx, hb, hml, hown, hts⟩ (mX2_needRoom (A := A) hst (n := (repL (T i) b9).length) (by omega)) (va_cwS 1 hts (gS tw_3_36 tw_3_37 tw_1_1 tw_3_38) rfl rfl rfl (by decide +kernel) ⟨Nat.le_of_ble_eq_true rfl, Nat.le_of_ble_eq_true rfl⟩) hC hS (fun _ h => h) (fun q h => hA q (Nat.le_trans hS.1 h))  hW rfl rfl hl.1 (Nat.le_of_ble_eq_true rfl) ⟨Nat.le_trans (show ((0 + 1) + 1) + 1 ≤ 4 by omega) (Nat.le_of_ble_eq_true rfl), Nat.le_trans (show ((0 + 6) + 6) + 6 ≤ 24 by omega) (Nat.le_of_ble_eq_true rfl)⟩ dX2_times_39 hnx hlocks (by omega) (by omega) (fun E H9 q _ => ⟨Or.inr (Or.inr ⟨q.1, i, j, b9, hi, hxi, hj, hxj, by omega, rfl, by rw [← ei]; exact q.2.1⟩), _, _, q.2.2, hF⟩) (fun H40 L40 hP40 hk40 hS => ?_)
      have hZ40 := hS.1
      obtain ⟨h60, hW⟩ := hP40
      have hO := hW.2.1
      have hR1 := hW.2.2.1
      have hR2 := hW.2.2.2.1
      refine lv_aload_n hx hb dX2_times_42 rfl (lv_at hl 2 rfl) ?_
      refine va_get (D := G.1) (ci := 6) (C := RX2) (T := TX2) (N := 8) hx hb hts inX2 hown hK (at_P hO) 0 rfl rfl 6 (by decide) (hts _ tw_1_143) (fun _ h9 => h9) rfl dX2_times_43 ?_
      refine qV_V (A := A) (A1 := ow (SA (7 + 2 * 13)) (SA (8 + 2 * 13)) H40.size) (b := (SA 33)) (As := []) (rest := []) ⟨hx, hb, hml, hown, hts⟩ (mX0_empty (A := ow (SA (7 + 2 * 13)) (SA (8 + 2 * 13)) H40.size) (ca := SA (8 + 2 * 13)) (hAa := Or.inl rfl)) (cwV 0 hts (gV tw_2_31 tw_2_32 tw_2_33 tw_1_2 tw_2_34) rfl rfl rfl (by decide +kernel) ⟨Nat.le_of_ble_eq_true rfl, Nat.le_of_ble_eq_true rfl⟩) hC hS (ow_in (hAS _ (by omega)) (hAS _ (by omega)) hA hS.1) ow_n ((hW.line (i := 13) (by omega)).recv hK) (hW.line (i := 13) (by omega)) rfl rfl hl.1 (Nat.le_of_ble_eq_true rfl) ⟨Nat.le_trans (show (((0 + 1) + 1) + 1) ≤ 4 by omega) (Nat.le_of_ble_eq_true rfl), Nat.le_trans (show (((0 + 6) + 6) + 6) ≤ 24 by omega) (Nat.le_of_ble_eq_true rfl)⟩ dX2_times_46 (fun H41 L41 hP41 hk41 hS => ?_)
      have hZ41 := hS.1
      have hW := hW.put (q := 13) (t := []) (by omega) hk41 hP41
      have hO := hW.2.1
      have hR1 := hW.2.2.1
      have hR2 := hW.2.2.2.1
      refine lv_iconst (v := nI 0) hx hb dX2_times_49 (by decide) ?_
      refine lv_istore (lv' := [(6, .int (nI 0)), (5, .ref (SA (7 + 2 * j))), (4, .ref (SA (7 + 2 * i))), (0, .ref (SA 0)), (1, .int x), (2, .int (nI b9)), (3, .int y)]) hx hb dX2_times_50 hl (by decide) rfl (fun ls hl => ?_)
      refine nloop (P := fun j9 => ∀ (ls : Array Slot) (H : Heap) (L : List Loc), lv_has ls 7 [(6, .int (nI j9)), (5, .ref (SA (7 + 2 * j))), (4, .ref (SA (7 + 2 * i))), (0, .ref (SA 0)), (1, .int x), (2, .int (nI b9)), (3, .int y)] → va_S A s.heap H L → SW G SA (updT T 13 (repL (T i) j9)) es es2 k H → W p l e rmX2_times s m [.ref (SA 0), .int x, .int (nI b9), .int y].toArray below meth c H L (((0 + 1) + 1) + 1) (((0 + 6) + 6) + 6) (vx_MQ below (qI A (fun r H => ∃ i j b8 : Nat, i < 4 ∧ x = nI i ∧ j < 4 ∧ y = nI j ∧ b8 ≤ 60 ∧ (nI b9) = nI b8 ∧ (repL (X i) b8).length ≤ 60 ∧ r = nI (repL (X i) b8).length ∧ SS G SA (updT X j (repL (X i) b8)) es k H)) (xE A (fun E H => ((E = "java/lang/IndexOutOfBoundsException" ∧ (NT x ∨ NT y)) ∨ (E = "java/lang/IllegalArgumentException" ∧ (∃ i : Nat, i < 4 ∧ x = nI i) ∧ (∃ j : Nat, j < 4 ∧ y = nI j) ∧ ¬ ∃ b8 : Nat, b8 ≤ 60 ∧ (nI b9) = nI b8) ∨ (E = "java/lang/IllegalStateException" ∧ ∃ i j b8 : Nat, i < 4 ∧ x = nI i ∧ j < 4 ∧ y = nI j ∧ b8 ≤ 60 ∧ (nI b9) = nI b8 ∧ 60 < (repL (X i) b8).length)) ∧ SS G SA X es k H)) [.ref (SA 0), .int x, .int (nI b9), .int y].toArray s 4 24 A) (F0 m 52 ls [])) b9 ?_ 0 (Nat.zero_le _) ls H41 L41 hl hS hW
      clear hl
      intro j9 hj9 ih ls H L hl
      clear hS hW hO hR1 hR2
      intro hS hW
      have hO := hW.2.1
      have hR1 := hW.2.2.1
      have hR2 := hW.2.2.2.1
      refine lv_iload hx hb dX2_times_52 (lv_at hl 0 rfl) ?_
      refine lv_iload_n hx hb dX2_times_54 rfl (lv_at hl 5 rfl) ?_
      have e9 : updT T 13 (repL (T i) j9) i = T i := updT_n (by omega)
      refine b_ge (tgt := 73) hx hb dX2_times_55 (by decide) (by omega) (by omega) (fun c_42 => ?_) (fun c_42 => ?_)
      · obtain rfl : j9 = b9 := by omega
        refine lv_aload hx hb dX2_times_73 (lv_at hl 1 rfl) ?_
        refine lv_aload_n hx hb dX2_times_75 rfl (lv_at hl 3 rfl) ?_
        refine va_get (D := G.1) (ci := 6) (C := RX2) (T := TX2) (N := 8) hx hb hts inX2 hown hK (at_P hO) 0 rfl rfl 6 (by decide) (hts _ tw_1_143) (fun _ h9 => h9) rfl dX2_times_76 ?_
        have e3 : updT T 13 (repL (T i) j9) j = T j := updT_n (by omega)
        refine qV_V (A := A) (A1 := ow (SA (7 + 2 * j)) (SA (8 + 2 * j)) H.size) (b := (SA (7 + 2 * j))) (As := [.ref (SA 33)]) (rest := []) ⟨hx, hb, hml, hown, hts⟩ (mX0_become (A := ow (SA (7 + 2 * j)) (SA (8 + 2 * j)) H.size) (ca := SA (8 + 2 * j)) (cb := SA (8 + 2 * 13)) (t := T j) (u := repL (T i) j9) (Or.inl rfl) (Or.inr (Or.inl rfl)) ⟨hW.ne (i := 7 + 2 * 13) (j := 7 + 2 * j) (by omega) (by omega) (by omega), hW.ne (i := 7 + 2 * 13) (j := 8 + 2 * j) (by omega) (by omega) (by omega), hW.ne (i := 8 + 2 * 13) (j := 7 + 2 * j) (by omega) (by omega) (by omega), hW.ne (i := 8 + 2 * 13) (j := 8 + 2 * j) (by omega) (by omega) (by omega)⟩) (cwV 1 hts (gV tw_2_3 tw_2_4 tw_2_5 tw_1_2 tw_2_6) rfl rfl rfl (by decide +kernel) ⟨Nat.le_of_ble_eq_true rfl, Nat.le_of_ble_eq_true rfl⟩) hC hS (ow_in (hAS _ (by omega)) (hAS _ (by omega)) hA hS.1) ow_n ((hW.line (i := j) (by omega)).recv hK) ⟨by rw [← e3]; exact hW.line (i := j) (by omega), by have h := hW.line (i := 13) (by omega); rw [updT_s] at h; exact h⟩ rfl rfl hl.1 (Nat.le_of_ble_eq_true rfl) ⟨Nat.le_trans (show (((0 + 1) + 1) + 1) ≤ 4 by omega) (Nat.le_of_ble_eq_true rfl), Nat.le_trans (show (((0 + 6) + 6) + 6) ≤ 24 by omega) (Nat.le_of_ble_eq_true rfl)⟩ dX2_times_79 (fun H43 L43 hP43 hk43 hS => ?_)
        have hZ43 := hS.1
        have hW := hW.put (q := j) (t := repL (T i) j9) (by omega) hk43 hP43.1
        refine lv_aload hx hb dX2_times_82 (lv_at hl 1 rfl) ?_
        have hLq := hW.line (i := j) (by omega)
        rw [updT_s] at hLq
        refine kV_i (A := A) (b := (SA (7 + 2 * j))) (As := []) (rest := []) ⟨hx, hb, hml, hown, hts⟩ (mX0_size (A := A) (ca := SA (8 + 2 * j))) (cwV 0 hts (gV tw_2_30 tw_2_12 tw_2_13 tw_1_2 tw_2_14) rfl rfl rfl (by decide +kernel) ⟨Nat.le_of_ble_eq_true rfl, Nat.le_of_ble_eq_true rfl⟩) hC hS hA (hLq.recv hK) hLq rfl rfl hl.1 (Nat.le_of_ble_eq_true rfl) ⟨Nat.le_trans (show (((0 + 1) + 1) + 1) ≤ 4 by omega) (Nat.le_of_ble_eq_true rfl), Nat.le_trans (show (((0 + 6) + 6) + 6) ≤ 24 by omega) (Nat.le_of_ble_eq_true rfl)⟩ dX2_times_84 (fun r9 h9 => lv_cv h9 ?_)
        rw [ei] at hW h60 ⊢
        exact vx_ret (q_i hx hb hr hlocks dX2_times_87 hS (by omega) (by omega) ⟨i, j, j9, hi, hxi, hj, hxj, by omega, rfl, h60, rfl, _, _, hW, (FR.up (FR.s13 hF))⟩)
      · refine lv_aload_n hx hb dX2_times_58 rfl (lv_at hl 3 rfl) ?_
        refine va_get (D := G.1) (ci := 6) (C := RX2) (T := TX2) (N := 8) hx hb hts inX2 hown hK (at_P hO) 0 rfl rfl 6 (by decide) (hts _ tw_1_143) (fun _ h9 => h9) rfl dX2_times_59 ?_
        refine lv_aload hx hb dX2_times_62 (lv_at hl 2 rfl) ?_
        have hrl : (repL (T i) (j9 + 1)).length ≤ 60 := by rw [repL_len]; rw [repL_len] at h60; exact Nat.le_trans (Nat.mul_le_mul (Nat.le_refl _) (by omega)) h60
        refine qV_V (A := A) (A1 := ow (SA (7 + 2 * 13)) (SA (8 + 2 * 13)) H.size) (b := (SA 33)) (As := [.ref (SA (7 + 2 * i))]) (rest := []) ⟨hx, hb, hml, hown, hts⟩ (mX0_addAll (A := ow (SA (7 + 2 * 13)) (SA (8 + 2 * 13)) H.size) (ca := SA (8 + 2 * 13)) (cb := SA (8 + 2 * i)) (t := repL (T i) j9) (u := T i) (Or.inl rfl) (Or.inr (Or.inl rfl)) ⟨hW.ne (i := 7 + 2 * i) (j := 7 + 2 * 13) (by omega) (by omega) (by omega), hW.ne (i := 7 + 2 * i) (j := 8 + 2 * 13) (by omega) (by omega) (by omega), hW.ne (i := 8 + 2 * i) (j := 7 + 2 * 13) (by omega) (by omega) (by omega), hW.ne (i := 8 + 2 * i) (j := 8 + 2 * 13) (by omega) (by omega) (by omega)⟩) (cwV 1 hts (gV tw_3_54 tw_3_55 tw_3_56 tw_1_2 tw_3_57) rfl rfl rfl (by decide +kernel) ⟨Nat.le_of_ble_eq_true rfl, Nat.le_of_ble_eq_true rfl⟩) hC hS (ow_in (hAS _ (by omega)) (hAS _ (by omega)) hA hS.1) ow_n ((hW.line (i := 13) (by omega)).recv hK) ⟨by have h := hW.line (i := 13) (by omega); rw [updT_s] at h; exact h, by rw [← e9]; exact hW.line (i := i) (by omega)⟩ rfl rfl hl.1 (Nat.le_of_ble_eq_true rfl) ⟨Nat.le_trans (show (((0 + 1) + 1) + 1) ≤ 4 by omega) (Nat.le_of_ble_eq_true rfl), Nat.le_trans (show (((0 + 6) + 6) + 6) ≤ 24 by omega) (Nat.le_of_ble_eq_true rfl)⟩ dX2_times_64 (fun H44 L44 hP44 hk44 hS => ?_)
        have hZ44 := hS.1
        have hW := hW.put (q := 13) (t := repL (T i) (j9 + 1)) (by omega) hk44 (by have h := hP44.1; rw [List.take_of_length_le (show (repL (T i) j9 ++ T i).length ≤ 60 from hrl)] at h; exact h)
        rw [updT_2] at hW
        refine lv_iinc (v := nI (j9 + 1)) (lv' := [(6, .int (nI (j9 + 1))), (5, .ref (SA (7 + 2 * j))), (4, .ref (SA (7 + 2 * i))), (0, .ref (SA 0)), (1, .int x), (2, .int (nI b9)), (3, .int y)]) hx hb dX2_times_67 hl (k := 0) rfl (nI_add j9 1) (by decide) rfl (fun ls hl => ?_)
        refine lv_goto (tgt := 52) hx hb dX2_times_70 (by decide) ?_
        exact ih (j9 + 1) (by omega) (by omega) ls H44 L44 (lv_sub hl [0, 1, 2, 3, 4, 5, 6] rfl) hS hW
    · exact t_new (nL := 7) (cls := "java/lang/IllegalArgumentException") (ik := 81) (ic := 83) hx hb hst hown hts hC hS hl.1 hml (by decide +kernel) tw_2_136 tw_1_17 tA83 tB83 tG83 hnx hlocks (Nat.le_of_ble_eq_true rfl) (Nat.le_of_ble_eq_true rfl) (Nat.le_trans (show ((0 + 1) + 1) + 1 ≤ 4 by omega) (Nat.le_of_ble_eq_true rfl)) (Nat.le_trans (show ((0 + 6) + 6) + 6 ≤ 24 by omega) (Nat.le_of_ble_eq_true rfl)) (by omega) (by omega) dX2_times_24 dX2_times_27 dX2_times_28 dX2_times_31 (fun H9 hk9 => ⟨Or.inr (Or.inl ⟨rfl, ⟨i, hi, hxi⟩, ⟨j, hj, hxj⟩, (fun ⟨b0, w1, w2⟩ => by have := (nI_eq (by omega) (by omega)).mp w2; omega)⟩), _, _, hW.nw hk9, hF⟩)
