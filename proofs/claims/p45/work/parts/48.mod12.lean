/-! The model, 12: parts of the row, texts so many times, a sign asked for -/
theorem okc_rep {t : List Nat} (h : okc t) (m : Nat) : okc (repL t m) := by
  induction m with
  | zero => exact okc_nil
  | succ m ih => exact okc_app ih h
theorem tbL_ge {b : Bool} {t : List Nat} (h : tbL b t < t.length) : goesN b (t.getD (tbL b t) 0) = false := by
  induction t with
  | nil => exact absurd h (Nat.not_lt_zero _)
  | cons c t ih =>
    unfold tbL at h ⊢
    split
    · next q =>
      rw [if_pos q] at h
      rw [List.getD_cons_succ]; exact ih (by simpa using h)
    · next q => rw [List.getD_cons_zero]; cases e : goesN b c with
      | false => rfl
      | true => exact absurd e q
theorem tbL_all {b : Bool} {t : List Nat} {e9 : Nat} (h : isTe b t e9) (he : e9 = tbL b t) : tbL b t = t.length := by
  have h1 := tbL_le b t
  rcases Nat.lt_or_ge (tbL b t) t.length with q | q
  · have h2 := h.2.2.1 (tbL b t) (by omega) q
    rw [tbL_ge q] at h2; cases h2
  · omega
theorem dX4_times_0 : decode cX4_times 0 = .ok (.aload_n 0, 1) := by decide +kernel
theorem dX4_times_1 : decode cX4_times 1 = .ok (.iload_n 1, 1) := by decide +kernel
theorem dX4_times_2 : decode cX4_times 2 = .ok (.invokestatic 107, 3) := by decide +kernel
theorem dX4_times_5 : decode cX4_times 5 = .ok (.ifCond .ne 10, 3) := by decide +kernel
theorem dX4_times_8 : decode cX4_times 8 = .ok (.iload_n 3, 1) := by decide +kernel
theorem dX4_times_9 : decode cX4_times 9 = .ok (.invokestatic 107, 3) := by decide +kernel
theorem dX4_times_12 : decode cX4_times 12 = .ok (.ifCond .eq 7, 3) := by decide +kernel
theorem dX4_times_15 : decode cX4_times 15 = .ok (.iconst 1, 1) := by decide +kernel
theorem dX4_times_16 : decode cX4_times 16 = .ok (.goto 4, 3) := by decide +kernel
theorem dX4_times_19 : decode cX4_times 19 = .ok (.iconst 0, 1) := by decide +kernel
theorem dX4_times_20 : decode cX4_times 20 = .ok (.iconst 1, 1) := by decide +kernel
theorem dX4_times_21 : decode cX4_times 21 = .ok (.invokevirtual 110, 3) := by decide +kernel
theorem dX4_times_24 : decode cX4_times 24 = .ok (.ifCond .ne 53, 3) := by decide +kernel
theorem dX4_times_27 : decode cX4_times 27 = .ok (.aload_n 0, 1) := by decide +kernel
theorem dX4_times_28 : decode cX4_times 28 = .ok (.iload_n 2, 1) := by decide +kernel
theorem dX4_times_29 : decode cX4_times 29 = .ok (.iconst 0, 1) := by decide +kernel
theorem dX4_times_30 : decode cX4_times 30 = .ok (.bipush 60, 2) := by decide +kernel
theorem dX4_times_32 : decode cX4_times 32 = .ok (.invokestatic 90, 3) := by decide +kernel
theorem dX4_times_35 : decode cX4_times 35 = .ok (.ifCond .ne 7, 3) := by decide +kernel
theorem dX4_times_38 : decode cX4_times 38 = .ok (.iconst 1, 1) := by decide +kernel
theorem dX4_times_39 : decode cX4_times 39 = .ok (.goto 4, 3) := by decide +kernel
theorem dX4_times_42 : decode cX4_times 42 = .ok (.iconst 0, 1) := by decide +kernel
theorem dX4_times_43 : decode cX4_times 43 = .ok (.iconst 2, 1) := by decide +kernel
theorem dX4_times_44 : decode cX4_times 44 = .ok (.invokevirtual 86, 3) := by decide +kernel
theorem dX4_times_47 : decode cX4_times 47 = .ok (.ifCond .ne 30, 3) := by decide +kernel
theorem dX4_times_50 : decode cX4_times 50 = .ok (.aload_n 0, 1) := by decide +kernel
theorem dX4_times_51 : decode cX4_times 51 = .ok (.aload_n 0, 1) := by decide +kernel
theorem dX4_times_52 : decode cX4_times 52 = .ok (.getfield 72, 3) := by decide +kernel
theorem dX4_times_55 : decode cX4_times 55 = .ok (.iload_n 1, 1) := by decide +kernel
theorem dX4_times_56 : decode cX4_times 56 = .ok (.aaload, 1) := by decide +kernel
theorem dX4_times_57 : decode cX4_times 57 = .ok (.arraylength, 1) := by decide +kernel
theorem dX4_times_58 : decode cX4_times 58 = .ok (.iload_n 2, 1) := by decide +kernel
theorem dX4_times_59 : decode cX4_times 59 = .ok (.imul, 1) := by decide +kernel
theorem dX4_times_60 : decode cX4_times 60 = .ok (.bipush 60, 2) := by decide +kernel
theorem dX4_times_62 : decode cX4_times 62 = .ok (.if_icmp .le 7, 3) := by decide +kernel
theorem dX4_times_65 : decode cX4_times 65 = .ok (.iconst 1, 1) := by decide +kernel
theorem dX4_times_66 : decode cX4_times 66 = .ok (.goto 4, 3) := by decide +kernel
theorem dX4_times_69 : decode cX4_times 69 = .ok (.iconst 0, 1) := by decide +kernel
theorem dX4_times_70 : decode cX4_times 70 = .ok (.iconst 3, 1) := by decide +kernel
theorem dX4_times_71 : decode cX4_times 71 = .ok (.invokevirtual 86, 3) := by decide +kernel
theorem dX4_times_74 : decode cX4_times 74 = .ok (.ifCond .eq 5, 3) := by decide +kernel
theorem dX4_times_77 : decode cX4_times 77 = .ok (.iconst 0, 1) := by decide +kernel
theorem dX4_times_78 : decode cX4_times 78 = .ok (.ireturn, 1) := by decide +kernel
theorem dX4_times_79 : decode cX4_times 79 = .ok (.iconst 0, 1) := by decide +kernel
theorem dX4_times_80 : decode cX4_times 80 = .ok (.newarray .int, 2) := by decide +kernel
theorem dX4_times_82 : decode cX4_times 82 = .ok (.astore 4, 2) := by decide +kernel
theorem dX4_times_84 : decode cX4_times 84 = .ok (.iconst 0, 1) := by decide +kernel
theorem dX4_times_85 : decode cX4_times 85 = .ok (.istore 5, 2) := by decide +kernel
theorem dX4_times_87 : decode cX4_times 87 = .ok (.iload 5, 2) := by decide +kernel
theorem dX4_times_89 : decode cX4_times 89 = .ok (.iload_n 2, 1) := by decide +kernel
theorem dX4_times_90 : decode cX4_times 90 = .ok (.if_icmp .ge 22, 3) := by decide +kernel
theorem dX4_times_93 : decode cX4_times 93 = .ok (.aload 4, 2) := by decide +kernel
theorem dX4_times_95 : decode cX4_times 95 = .ok (.aload_n 0, 1) := by decide +kernel
theorem dX4_times_96 : decode cX4_times 96 = .ok (.getfield 72, 3) := by decide +kernel
theorem dX4_times_99 : decode cX4_times 99 = .ok (.iload_n 1, 1) := by decide +kernel
theorem dX4_times_100 : decode cX4_times 100 = .ok (.aaload, 1) := by decide +kernel
theorem dX4_times_101 : decode cX4_times 101 = .ok (.invokestatic 103, 3) := by decide +kernel
theorem dX4_times_104 : decode cX4_times 104 = .ok (.astore 4, 2) := by decide +kernel
theorem dX4_times_106 : decode cX4_times 106 = .ok (.iinc 5 1, 3) := by decide +kernel
theorem dX4_times_109 : decode cX4_times 109 = .ok (.goto (-22), 3) := by decide +kernel
theorem dX4_times_112 : decode cX4_times 112 = .ok (.aload_n 0, 1) := by decide +kernel
theorem dX4_times_113 : decode cX4_times 113 = .ok (.iload_n 3, 1) := by decide +kernel
theorem dX4_times_114 : decode cX4_times 114 = .ok (.aload 4, 2) := by decide +kernel
theorem dX4_times_116 : decode cX4_times 116 = .ok (.invokevirtual 113, 3) := by decide +kernel
theorem dX4_times_119 : decode cX4_times 119 = .ok (.ireturn, 1) := by decide +kernel
theorem dX4_takePart_0 : decode cX4_takePart 0 = .ok (.aload_n 0, 1) := by decide +kernel
theorem dX4_takePart_1 : decode cX4_takePart 1 = .ok (.iload_n 1, 1) := by decide +kernel
theorem dX4_takePart_2 : decode cX4_takePart 2 = .ok (.invokestatic 107, 3) := by decide +kernel
theorem dX4_takePart_5 : decode cX4_takePart 5 = .ok (.ifCond .ne 26, 3) := by decide +kernel
theorem dX4_takePart_8 : decode cX4_takePart 8 = .ok (.iload_n 2, 1) := by decide +kernel
theorem dX4_takePart_9 : decode cX4_takePart 9 = .ok (.ifCond .lt 22, 3) := by decide +kernel
theorem dX4_takePart_12 : decode cX4_takePart 12 = .ok (.iload_n 3, 1) := by decide +kernel
theorem dX4_takePart_13 : decode cX4_takePart 13 = .ok (.ifCond .lt 18, 3) := by decide +kernel
theorem dX4_takePart_16 : decode cX4_takePart 16 = .ok (.iload_n 2, 1) := by decide +kernel
theorem dX4_takePart_17 : decode cX4_takePart 17 = .ok (.i2l, 1) := by decide +kernel
theorem dX4_takePart_18 : decode cX4_takePart 18 = .ok (.iload_n 3, 1) := by decide +kernel
theorem dX4_takePart_19 : decode cX4_takePart 19 = .ok (.i2l, 1) := by decide +kernel
theorem dX4_takePart_20 : decode cX4_takePart 20 = .ok (.ladd, 1) := by decide +kernel
theorem dX4_takePart_21 : decode cX4_takePart 21 = .ok (.aload_n 0, 1) := by decide +kernel
theorem dX4_takePart_22 : decode cX4_takePart 22 = .ok (.getfield 75, 3) := by decide +kernel
theorem dX4_takePart_25 : decode cX4_takePart 25 = .ok (.arraylength, 1) := by decide +kernel
theorem dX4_takePart_26 : decode cX4_takePart 26 = .ok (.i2l, 1) := by decide +kernel
theorem dX4_takePart_27 : decode cX4_takePart 27 = .ok (.lcmp, 1) := by decide +kernel
theorem dX4_takePart_28 : decode cX4_takePart 28 = .ok (.ifCond .le 7, 3) := by decide +kernel
theorem dX4_takePart_31 : decode cX4_takePart 31 = .ok (.iconst 1, 1) := by decide +kernel
theorem dX4_takePart_32 : decode cX4_takePart 32 = .ok (.goto 4, 3) := by decide +kernel
theorem dX4_takePart_35 : decode cX4_takePart 35 = .ok (.iconst 0, 1) := by decide +kernel
theorem dX4_takePart_36 : decode cX4_takePart 36 = .ok (.iconst 1, 1) := by decide +kernel
theorem dX4_takePart_37 : decode cX4_takePart 37 = .ok (.invokevirtual 110, 3) := by decide +kernel
theorem dX4_takePart_40 : decode cX4_takePart 40 = .ok (.ifCond .eq 7, 3) := by decide +kernel
theorem dX4_takePart_43 : decode cX4_takePart 43 = .ok (.iconst 0, 1) := by decide +kernel
theorem dX4_takePart_44 : decode cX4_takePart 44 = .ok (.goto 19, 3) := by decide +kernel
theorem dX4_takePart_47 : decode cX4_takePart 47 = .ok (.aload_n 0, 1) := by decide +kernel
theorem dX4_takePart_48 : decode cX4_takePart 48 = .ok (.iload_n 1, 1) := by decide +kernel
theorem dX4_takePart_49 : decode cX4_takePart 49 = .ok (.aload_n 0, 1) := by decide +kernel
theorem dX4_takePart_50 : decode cX4_takePart 50 = .ok (.getfield 75, 3) := by decide +kernel
theorem dX4_takePart_53 : decode cX4_takePart 53 = .ok (.iload_n 2, 1) := by decide +kernel
theorem dX4_takePart_54 : decode cX4_takePart 54 = .ok (.iload_n 2, 1) := by decide +kernel
theorem dX4_takePart_55 : decode cX4_takePart 55 = .ok (.iload_n 3, 1) := by decide +kernel
theorem dX4_takePart_56 : decode cX4_takePart 56 = .ok (.iadd, 1) := by decide +kernel
theorem dX4_takePart_57 : decode cX4_takePart 57 = .ok (.invokestatic 31, 3) := by decide +kernel
theorem dX4_takePart_60 : decode cX4_takePart 60 = .ok (.invokevirtual 113, 3) := by decide +kernel
theorem dX4_takePart_63 : decode cX4_takePart 63 = .ok (.ireturn, 1) := by decide +kernel
theorem dX4_at_0 : decode cX4_at 0 = .ok (.aload_n 0, 1) := by decide +kernel
theorem dX4_at_1 : decode cX4_at 1 = .ok (.iload_n 1, 1) := by decide +kernel
theorem dX4_at_2 : decode cX4_at 2 = .ok (.invokestatic 107, 3) := by decide +kernel
theorem dX4_at_5 : decode cX4_at 5 = .ok (.iconst 1, 1) := by decide +kernel
theorem dX4_at_6 : decode cX4_at 6 = .ok (.invokevirtual 110, 3) := by decide +kernel
theorem dX4_at_9 : decode cX4_at 9 = .ok (.ifCond .ne 33, 3) := by decide +kernel
theorem dX4_at_12 : decode cX4_at 12 = .ok (.aload_n 0, 1) := by decide +kernel
theorem dX4_at_13 : decode cX4_at 13 = .ok (.iload_n 2, 1) := by decide +kernel
theorem dX4_at_14 : decode cX4_at 14 = .ok (.iconst 0, 1) := by decide +kernel
theorem dX4_at_15 : decode cX4_at 15 = .ok (.aload_n 0, 1) := by decide +kernel
theorem dX4_at_16 : decode cX4_at 16 = .ok (.getfield 72, 3) := by decide +kernel
theorem dX4_at_19 : decode cX4_at 19 = .ok (.iload_n 1, 1) := by decide +kernel
theorem dX4_at_20 : decode cX4_at 20 = .ok (.aaload, 1) := by decide +kernel
theorem dX4_at_21 : decode cX4_at 21 = .ok (.arraylength, 1) := by decide +kernel
theorem dX4_at_22 : decode cX4_at 22 = .ok (.iconst 1, 1) := by decide +kernel
theorem dX4_at_23 : decode cX4_at 23 = .ok (.isub, 1) := by decide +kernel
theorem dX4_at_24 : decode cX4_at 24 = .ok (.invokestatic 90, 3) := by decide +kernel
theorem dX4_at_27 : decode cX4_at 27 = .ok (.ifCond .ne 7, 3) := by decide +kernel
theorem dX4_at_30 : decode cX4_at 30 = .ok (.iconst 1, 1) := by decide +kernel
theorem dX4_at_31 : decode cX4_at 31 = .ok (.goto 4, 3) := by decide +kernel
theorem dX4_at_34 : decode cX4_at 34 = .ok (.iconst 0, 1) := by decide +kernel
theorem dX4_at_35 : decode cX4_at 35 = .ok (.iconst 1, 1) := by decide +kernel
theorem dX4_at_36 : decode cX4_at 36 = .ok (.invokevirtual 86, 3) := by decide +kernel
theorem dX4_at_39 : decode cX4_at 39 = .ok (.ifCond .eq 7, 3) := by decide +kernel
theorem dX4_at_42 : decode cX4_at 42 = .ok (.iconst 0, 1) := by decide +kernel
theorem dX4_at_43 : decode cX4_at 43 = .ok (.goto 11, 3) := by decide +kernel
theorem dX4_at_46 : decode cX4_at 46 = .ok (.aload_n 0, 1) := by decide +kernel
theorem dX4_at_47 : decode cX4_at 47 = .ok (.getfield 72, 3) := by decide +kernel
theorem dX4_at_50 : decode cX4_at 50 = .ok (.iload_n 1, 1) := by decide +kernel
theorem dX4_at_51 : decode cX4_at 51 = .ok (.aaload, 1) := by decide +kernel
theorem dX4_at_52 : decode cX4_at 52 = .ok (.iload_n 2, 1) := by decide +kernel
theorem dX4_at_53 : decode cX4_at 53 = .ok (.iaload, 1) := by decide +kernel
theorem dX4_at_54 : decode cX4_at 54 = .ok (.ireturn, 1) := by decide +kernel
theorem dX4_isBlank_0 : decode cX4_isBlank 0 = .ok (.aload_n 0, 1) := by decide +kernel
theorem dX4_isBlank_1 : decode cX4_isBlank 1 = .ok (.iload_n 1, 1) := by decide +kernel
theorem dX4_isBlank_2 : decode cX4_isBlank 2 = .ok (.invokestatic 107, 3) := by decide +kernel
theorem dX4_isBlank_5 : decode cX4_isBlank 5 = .ok (.iconst 1, 1) := by decide +kernel
theorem dX4_isBlank_6 : decode cX4_isBlank 6 = .ok (.invokevirtual 110, 3) := by decide +kernel
theorem dX4_isBlank_9 : decode cX4_isBlank 9 = .ok (.ifCond .ne 21, 3) := by decide +kernel
theorem dX4_isBlank_12 : decode cX4_isBlank 12 = .ok (.aload_n 0, 1) := by decide +kernel
theorem dX4_isBlank_13 : decode cX4_isBlank 13 = .ok (.getfield 72, 3) := by decide +kernel
theorem dX4_isBlank_16 : decode cX4_isBlank 16 = .ok (.iload_n 1, 1) := by decide +kernel
theorem dX4_isBlank_17 : decode cX4_isBlank 17 = .ok (.aaload, 1) := by decide +kernel
theorem dX4_isBlank_18 : decode cX4_isBlank 18 = .ok (.iconst 1, 1) := by decide +kernel
theorem dX4_isBlank_19 : decode cX4_isBlank 19 = .ok (.invokestatic 117, 3) := by decide +kernel
theorem dX4_isBlank_22 : decode cX4_isBlank 22 = .ok (.arraylength, 1) := by decide +kernel
theorem dX4_isBlank_23 : decode cX4_isBlank 23 = .ok (.ifCond .ne 7, 3) := by decide +kernel
theorem dX4_isBlank_26 : decode cX4_isBlank 26 = .ok (.iconst 1, 1) := by decide +kernel
theorem dX4_isBlank_27 : decode cX4_isBlank 27 = .ok (.goto 4, 3) := by decide +kernel
theorem dX4_isBlank_30 : decode cX4_isBlank 30 = .ok (.iconst 0, 1) := by decide +kernel
theorem dX4_isBlank_31 : decode cX4_isBlank 31 = .ok (.ireturn, 1) := by decide +kernel
abbrev rmX4_takePart : Room := { frames := 3, cells := 1, slots := 61, locals := 64 }
theorem mX4_takePart {l : Launch} {G : Cx} {A : Nat → Prop} {am xa : Nat} {X : Nat → List Nat} {P : List (List Nat)} {k : Int32} {x f9 m9 th : Int32} : Met l yX4_takePart (.code yX4_takePart cX4_takePart 4 (some .int) :: GW) rmX4_takePart (PC G A [.ref am, .int x, .int f9, .int m9] (MW G A am xa X P k th)) (qI A (fun r H => ((NT x ∨ ¬ (∃ a9 b9 : Nat, f9 = nI a9 ∧ m9 = nI b9 ∧ a9 + b9 ≤ (X 11).length)) ∧ r = 0 ∧ MW G A am xa X P k 1 H) ∨ ∃ i a9 b9 : Nat, i < 4 ∧ x = nI i ∧ f9 = nI a9 ∧ m9 = nI b9 ∧ a9 + b9 ≤ (X 11).length ∧ r = nI (cutL (X 11) a9 (a9 + b9)).length ∧ MW G A am xa (updT X i (cutL (X 11) a9 (a9 + b9))) P k 0 H)) 1 61 (A) := by
  refine mstart "SigntextModel" (by decide +kernel) rfl (Nat.le_of_ble_eq_true rfl) ?_
  intro p e s m below meth c ls hx hb hr hts hown hml hlocks hname hC hA hW hl
  have hl : lv_has ls 4 [(0, .ref am), (1, .int x), (2, .int f9), (3, .int m9)] := hl
  have hK := hC.1
  have hS : va_S A s.heap s.heap [] := va_S.rf
  obtain ⟨ra, pa, tx, hW⟩ := hW
  have hO := hW.obj
  have hAm := hW.1
  refine lv_aload_n hx hb dX4_takePart_0 rfl (lv_at hl 0 rfl) ?_
  refine lv_iload_n hx hb dX4_takePart_1 rfl (lv_at hl 1 rfl) ?_
  refine kS_i (A := A) (As := [.int x]) (rest := .ref am :: []) ⟨hx, hb, hml, hown, hts⟩ (mX4_isNone (A := A) ) (va_cwS 1 hts (gS tw_4_203 tw_4_204 tw_1_8 tw_4_205) rfl rfl rfl (by decide +kernel) ⟨Nat.le_of_ble_eq_true rfl, Nat.le_of_ble_eq_true rfl⟩) hC hS hA  trivial rfl rfl hl.1 (Nat.le_of_ble_eq_true rfl) ⟨Nat.zero_le _, Nat.zero_le _⟩ dX4_takePart_2 (fun r_1 hr_1 => ?_)
  obtain ⟨r_1v, hr_1v, rfl⟩ := hr_1
  refine f_ne (tgt := 31) hx hb dX4_takePart_5 (by decide) (fun c_2 => ?_) (fun c_2 => ?_)
  · refine lv_iconst (v := nI 1) hx hb dX4_takePart_31 (by decide) ?_
    refine lv_goto (tgt := 36) hx hb dX4_takePart_32 (by decide) ?_
    refine lv_iconst (v := nI 1) hx hb dX4_takePart_36 (by decide) ?_
    refine qI_V (A := A) (A1 := A) (b := am) (As := [.int (bI true), .int (nI 1)]) (rest := []) ⟨hx, hb, hml, hown, hts⟩ (mX4_start (A := A) (X := X) (P := P) (k := k) (xa := xa) (b := true) (w9 := 1) (by decide)) (cwV 2 hts (gV tw_4_206 tw_4_208 sel_X4_start tw_1_8 tw_4_209) rfl rfl rfl (by decide +kernel) ⟨Nat.le_of_ble_eq_true rfl, Nat.le_of_ble_eq_true rfl⟩) hC hS (fun _ h => h) (fun q h => hA q (Nat.le_trans hS.1 h)) (hW.recv hK) ⟨ra, pa, tx, hW⟩ rfl rfl hl.1 (Nat.le_of_ble_eq_true rfl) ⟨Nat.zero_le _, Nat.zero_le _⟩ dX4_takePart_37 (fun rv3 H3 L3 hP3 hk3 hS => ?_)
    have hZ3 := hS.1
    obtain ⟨hr3, hM3⟩ := hP3
    subst hr3
    obtain ⟨ra, pa, tx, hW⟩ := hM3
    have hW : MWx G A am xa ra pa tx X P k (nI 1) H3 := hW
    have hO := hW.obj
    have hAm := hW.1
    refine f_eq (tgt := 47) hx hb dX4_takePart_40 (by decide) (fun c_4 => ?_) (fun c_4 => ?_)
    · exact absurd c_4 (by decide)
    · refine lv_iconst (v := nI 0) hx hb dX4_takePart_43 (by decide) ?_
      refine lv_goto (tgt := 63) hx hb dX4_takePart_44 (by decide) ?_
      exact q_i hx hb hr hlocks dX4_takePart_63 hS (by omega) (by omega) (Or.inl ⟨(Or.inl (hr_1v.mp c_2)), rfl, ra, pa, tx, hW⟩)
  · obtain ⟨i, hi, rfl⟩ : ∃ i : Nat, i < 4 ∧ x = nI i := Classical.byContradiction (fun q => absurd (hr_1v.mpr q) (by rw [c_2]; decide))
    have x11 := hW.2.2.1 11 (Or.inr rfl)
    have r60 := x11.2
    refine lv_iload_n hx hb dX4_takePart_8 rfl (lv_at hl 2 rfl) ?_
    refine lv_if_lt (tgt := 31) hx hb dX4_takePart_9 (by decide) (fun c_5 => ?_) (fun c_5 => ?_)
    · refine lv_iconst (v := nI 1) hx hb dX4_takePart_31 (by decide) ?_
      refine lv_goto (tgt := 36) hx hb dX4_takePart_32 (by decide) ?_
      refine lv_iconst (v := nI 1) hx hb dX4_takePart_36 (by decide) ?_
      refine qI_V (A := A) (A1 := A) (b := am) (As := [.int (bI true), .int (nI 1)]) (rest := []) ⟨hx, hb, hml, hown, hts⟩ (mX4_start (A := A) (X := X) (P := P) (k := k) (xa := xa) (b := true) (w9 := 1) (by decide)) (cwV 2 hts (gV tw_4_206 tw_4_208 sel_X4_start tw_1_8 tw_4_209) rfl rfl rfl (by decide +kernel) ⟨Nat.le_of_ble_eq_true rfl, Nat.le_of_ble_eq_true rfl⟩) hC hS (fun _ h => h) (fun q h => hA q (Nat.le_trans hS.1 h)) (hW.recv hK) ⟨ra, pa, tx, hW⟩ rfl rfl hl.1 (Nat.le_of_ble_eq_true rfl) ⟨Nat.zero_le _, Nat.zero_le _⟩ dX4_takePart_37 (fun rv6 H6 L6 hP6 hk6 hS => ?_)
      have hZ6 := hS.1
      obtain ⟨hr6, hM6⟩ := hP6
      subst hr6
      obtain ⟨ra, pa, tx, hW⟩ := hM6
      have hW : MWx G A am xa ra pa tx X P k (nI 1) H6 := hW
      have hO := hW.obj
      have hAm := hW.1
      refine f_eq (tgt := 47) hx hb dX4_takePart_40 (by decide) (fun c_7 => ?_) (fun c_7 => ?_)
      · exact absurd c_7 (by decide)
      · refine lv_iconst (v := nI 0) hx hb dX4_takePart_43 (by decide) ?_
        refine lv_goto (tgt := 63) hx hb dX4_takePart_44 (by decide) ?_
        exact q_i hx hb hr hlocks dX4_takePart_63 hS (by omega) (by omega) (Or.inl ⟨(Or.inr (fun ⟨a0, b0, w3, w4, w6⟩ => by rw [w3] at c_5; exact nI_pos (by omega) c_5)), rfl, ra, pa, tx, hW⟩)
    · obtain ⟨a9, ha31, rfl⟩ := nI_of c_5
      refine lv_iload_n hx hb dX4_takePart_12 rfl (lv_at hl 3 rfl) ?_
      refine lv_if_lt (tgt := 31) hx hb dX4_takePart_13 (by decide) (fun c_8 => ?_) (fun c_8 => ?_)
      · refine lv_iconst (v := nI 1) hx hb dX4_takePart_31 (by decide) ?_
        refine lv_goto (tgt := 36) hx hb dX4_takePart_32 (by decide) ?_
        refine lv_iconst (v := nI 1) hx hb dX4_takePart_36 (by decide) ?_
        refine qI_V (A := A) (A1 := A) (b := am) (As := [.int (bI true), .int (nI 1)]) (rest := []) ⟨hx, hb, hml, hown, hts⟩ (mX4_start (A := A) (X := X) (P := P) (k := k) (xa := xa) (b := true) (w9 := 1) (by decide)) (cwV 2 hts (gV tw_4_206 tw_4_208 sel_X4_start tw_1_8 tw_4_209) rfl rfl rfl (by decide +kernel) ⟨Nat.le_of_ble_eq_true rfl, Nat.le_of_ble_eq_true rfl⟩) hC hS (fun _ h => h) (fun q h => hA q (Nat.le_trans hS.1 h)) (hW.recv hK) ⟨ra, pa, tx, hW⟩ rfl rfl hl.1 (Nat.le_of_ble_eq_true rfl) ⟨Nat.zero_le _, Nat.zero_le _⟩ dX4_takePart_37 (fun rv9 H9 L9 hP9 hk9 hS => ?_)
        have hZ9 := hS.1
        obtain ⟨hr9, hM9⟩ := hP9
        subst hr9
        obtain ⟨ra, pa, tx, hW⟩ := hM9
        have hW : MWx G A am xa ra pa tx X P k (nI 1) H9 := hW
        have hO := hW.obj
        have hAm := hW.1
        refine f_eq (tgt := 47) hx hb dX4_takePart_40 (by decide) (fun c_10 => ?_) (fun c_10 => ?_)
        · exact absurd c_10 (by decide)
        · refine lv_iconst (v := nI 0) hx hb dX4_takePart_43 (by decide) ?_
          refine lv_goto (tgt := 63) hx hb dX4_takePart_44 (by decide) ?_
          exact q_i hx hb hr hlocks dX4_takePart_63 hS (by omega) (by omega) (Or.inl ⟨(Or.inr (fun ⟨a0, b0, w3, w4, w6⟩ => by rw [w4] at c_8; exact nI_pos (by omega) c_8)), rfl, ra, pa, tx, hW⟩)
      · obtain ⟨b9, hb31, rfl⟩ := nI_of c_8
        have hR1 := hW.row.ia hC.2.1.2
        have x11 := hW.2.2.1 11 (Or.inr rfl)
        refine lv_iload_n hx hb dX4_takePart_16 rfl (lv_at hl 2 rfl) ?_
        refine lv_i2l hx hb dX4_takePart_17 (nI_l (n := a9) (by omega)) ?_
        refine lv_iload_n hx hb dX4_takePart_18 rfl (lv_at hl 3 rfl) ?_
        refine lv_i2l hx hb dX4_takePart_19 (nI_l (n := b9) (by omega)) ?_
        refine lv_ladd hx hb dX4_takePart_20 ?_
        refine lv_cvl (lN_add a9 b9) ?_
        refine lv_aload_n hx hb dX4_takePart_21 rfl (lv_at hl 0 rfl) ?_
        refine va_get (D := G.1) (ci := 8) (C := RX4) (T := TX4) (N := 5) hx hb hts inX4 hown hK (at_P hO) 0 rfl rfl 2 (by decide) (hts _ tw_4_174) (fun _ h9 => h9) rfl dX4_takePart_22 ?_
        refine h_ilen hx hb hC.2.1 hR1 dX4_takePart_25 ?_
        refine lv_i2l hx hb dX4_takePart_26 (nI_l (n := (X 11).length) (by omega)) ?_
        refine W.lcmp hx hb dX4_takePart_27 ?_
        refine lv_if_le (tgt := 35) hx hb dX4_takePart_28 (by decide) (fun c_11 => ?_) (fun c_11 => ?_)
        · have c7 : a9 + b9 ≤ (X 11).length := (cmpL (by omega) (by omega)).mp c_11
          refine lv_iconst (v := nI 0) hx hb dX4_takePart_35 (by decide) ?_
          refine lv_iconst (v := nI 1) hx hb dX4_takePart_36 (by decide) ?_
          refine qI_V (A := A) (A1 := A) (b := am) (As := [.int (bI false), .int (nI 1)]) (rest := []) ⟨hx, hb, hml, hown, hts⟩ (mX4_start (A := A) (X := X) (P := P) (k := k) (xa := xa) (b := false) (w9 := 1) (by decide)) (cwV 2 hts (gV tw_4_206 tw_4_208 sel_X4_start tw_1_8 tw_4_209) rfl rfl rfl (by decide +kernel) ⟨Nat.le_of_ble_eq_true rfl, Nat.le_of_ble_eq_true rfl⟩) hC hS (fun _ h => h) (fun q h => hA q (Nat.le_trans hS.1 h)) (hW.recv hK) ⟨ra, pa, tx, hW⟩ rfl rfl hl.1 (Nat.le_of_ble_eq_true rfl) ⟨Nat.zero_le _, Nat.zero_le _⟩ dX4_takePart_37 (fun rv12 H12 L12 hP12 hk12 hS => ?_)
          have hZ12 := hS.1
          obtain ⟨hr12, hM12⟩ := hP12
          subst hr12
          obtain ⟨ra, pa, tx, hW⟩ := hM12
          have hW : MWx G A am xa ra pa tx X P k (nI 0) H12 := hW
          have hO := hW.obj
          have hAm := hW.1
          refine f_eq (tgt := 47) hx hb dX4_takePart_40 (by decide) (fun c_13 => ?_) (fun c_13 => ?_)
          · have hR1 := hW.row.ia hC.2.1.2
            have x11 := hW.2.2.1 11 (Or.inr rfl)
            refine lv_aload_n hx hb dX4_takePart_47 rfl (lv_at hl 0 rfl) ?_
            refine lv_iload_n hx hb dX4_takePart_48 rfl (lv_at hl 1 rfl) ?_
            refine lv_aload_n hx hb dX4_takePart_49 rfl (lv_at hl 0 rfl) ?_
            refine va_get (D := G.1) (ci := 8) (C := RX4) (T := TX4) (N := 5) hx hb hts inX4 hown hK (at_P hO) 0 rfl rfl 2 (by decide) (hts _ tw_4_174) (fun _ h9 => h9) rfl dX4_takePart_50 ?_
            refine lv_iload_n hx hb dX4_takePart_53 rfl (lv_at hl 2 rfl) ?_
            refine lv_iload_n hx hb dX4_takePart_54 rfl (lv_at hl 2 rfl) ?_
            refine lv_iload_n hx hb dX4_takePart_55 rfl (lv_at hl 3 rfl) ?_
            refine lv_iadd hx hb dX4_takePart_56 ?_
            refine lv_cv (nI_add a9 b9) ?_
            have hra := hW.row.lt
            refine qR_S (A := A) (A1 := nw H12.size)  (As := [.ref ra, .int (nI a9), .int (nI (a9 + b9))]) (rest := .int (nI i) :: .ref am :: []) ⟨hx, hb, hml, hown, hts⟩ (mX4_cut (A := nw H12.size) (sz := H12.size) (t := X 11) (i := a9) (i2 := (a9 + b9)) (Nat.le_add_right _ _) c7 (by omega)) (va_cwS 3 hts (gS tw_4_226 tw_4_227 tw_1_8 tw_4_228) rfl rfl rfl (by decide +kernel) ⟨Nat.le_of_ble_eq_true rfl, Nat.le_of_ble_eq_true rfl⟩) hC hS (nw_in hA hS.1) nw_n  ⟨rfl, hR1⟩ rfl rfl hl.1 (Nat.le_of_ble_eq_true rfl) ⟨Nat.le_trans (show 0 + 1 ≤ 1 by omega) (Nat.le_of_ble_eq_true rfl), Nat.le_trans (show 0 + 61 ≤ 61 by omega) (Nat.le_of_ble_eq_true rfl)⟩ dX4_takePart_57 (fun rv14 H14 L14 hP14 hk14 hS => ?_)
            have hZ14 := hS.1
            have hW := hW.nw hk14
            refine qI_V (A := A) (A1 := A) (b := am) (As := [.int (nI i), .ref rv14]) (rest := []) ⟨hx, hb, hml, hown, hts⟩ (mX4_become (A := A) (X := X) (P := P) (k := k) (xa := xa) (t := cutL (X 11) a9 (a9 + b9)) hi ⟨okc_cut x11.1 _ _, Nat.le_trans (cutL_le _ _ _) x11.2⟩) (cwV 2 hts (gV tw_4_214 tw_4_216 sel_X4_become tw_1_8 tw_4_217) rfl rfl rfl (by decide +kernel) ⟨Nat.le_of_ble_eq_true rfl, Nat.le_of_ble_eq_true rfl⟩) hC hS (fun _ h => h) (fun q h => hA q (Nat.le_trans hS.1 h)) (hW.recv hK) ⟨ra, pa, tx, hW, hP14.2, (by have := hP14.1; omega)⟩ rfl rfl hl.1 (Nat.le_of_ble_eq_true rfl) ⟨Nat.le_trans (show (0 + 1) ≤ 1 by omega) (Nat.le_of_ble_eq_true rfl), Nat.le_trans (show (0 + 61) ≤ 61 by omega) (Nat.le_of_ble_eq_true rfl)⟩ dX4_takePart_60 (fun rv15 H15 L15 hP15 hk15 hS => ?_)
            have hZ15 := hS.1
            exact q_i hx hb hr hlocks dX4_takePart_63 hS (by omega) (by omega) (Or.inr (⟨i, a9, b9, hi, rfl, rfl, rfl, c7, hP15.1, hP15.2⟩))
          · exact absurd c_13 (by decide)
        · have c7 : ¬ a9 + b9 ≤ (X 11).length := fun q => c_11 ((cmpL (by omega) (by omega)).mpr q)
          refine lv_iconst (v := nI 1) hx hb dX4_takePart_31 (by decide) ?_
          refine lv_goto (tgt := 36) hx hb dX4_takePart_32 (by decide) ?_
          refine lv_iconst (v := nI 1) hx hb dX4_takePart_36 (by decide) ?_
          refine qI_V (A := A) (A1 := A) (b := am) (As := [.int (bI true), .int (nI 1)]) (rest := []) ⟨hx, hb, hml, hown, hts⟩ (mX4_start (A := A) (X := X) (P := P) (k := k) (xa := xa) (b := true) (w9 := 1) (by decide)) (cwV 2 hts (gV tw_4_206 tw_4_208 sel_X4_start tw_1_8 tw_4_209) rfl rfl rfl (by decide +kernel) ⟨Nat.le_of_ble_eq_true rfl, Nat.le_of_ble_eq_true rfl⟩) hC hS (fun _ h => h) (fun q h => hA q (Nat.le_trans hS.1 h)) (hW.recv hK) ⟨ra, pa, tx, hW⟩ rfl rfl hl.1 (Nat.le_of_ble_eq_true rfl) ⟨Nat.zero_le _, Nat.zero_le _⟩ dX4_takePart_37 (fun rv16 H16 L16 hP16 hk16 hS => ?_)
          have hZ16 := hS.1
          obtain ⟨hr16, hM16⟩ := hP16
          subst hr16
          obtain ⟨ra, pa, tx, hW⟩ := hM16
          have hW : MWx G A am xa ra pa tx X P k (nI 1) H16 := hW
          have hO := hW.obj
          have hAm := hW.1
          refine f_eq (tgt := 47) hx hb dX4_takePart_40 (by decide) (fun c_17 => ?_) (fun c_17 => ?_)
          · exact absurd c_17 (by decide)
          · refine lv_iconst (v := nI 0) hx hb dX4_takePart_43 (by decide) ?_
            refine lv_goto (tgt := 63) hx hb dX4_takePart_44 (by decide) ?_
            exact q_i hx hb hr hlocks dX4_takePart_63 hS (by omega) (by omega) (Or.inl ⟨(Or.inr (fun ⟨a0, b0, w3, w4, w6⟩ => by have w8 : a0 = a9 := (nI_eq (by omega) (by omega)).mp w3.symm; have w9 : b0 = b9 := (nI_eq (by omega) (by omega)).mp w4.symm; omega)), rfl, ra, pa, tx, hW⟩)

abbrev rmX4_times : Room := { frames := 3, cells := 61, slots := 3660, locals := 64 }
theorem mX4_times {l : Launch} {G : Cx} {A : Nat → Prop} {am xa : Nat} {X : Nat → List Nat} {P : List (List Nat)} {k : Int32} {x m9 y th : Int32} : Met l yX4_times (.code yX4_times cX4_times 6 (some .int) :: GW) rmX4_times (PC G A [.ref am, .int x, .int m9, .int y] (MW G A am xa X P k th)) (qI A (fun r H => ((NT x ∨ NT y) ∧ r = 0 ∧ MW G A am xa X P k 1 H) ∨ (((∃ i : Nat, i < 4 ∧ x = nI i) ∧ (∃ j : Nat, j < 4 ∧ y = nI j) ∧ ¬ ∃ b8 : Nat, b8 ≤ 60 ∧ m9 = nI b8) ∧ r = 0 ∧ MW G A am xa X P k 2 H) ∨ ((∃ i j b8 : Nat, i < 4 ∧ x = nI i ∧ j < 4 ∧ y = nI j ∧ b8 ≤ 60 ∧ m9 = nI b8 ∧ 60 < (repL (X i) b8).length) ∧ r = 0 ∧ MW G A am xa X P k 3 H) ∨ ∃ i j b8 : Nat, i < 4 ∧ x = nI i ∧ j < 4 ∧ y = nI j ∧ b8 ≤ 60 ∧ m9 = nI b8 ∧ (repL (X i) b8).length ≤ 60 ∧ r = nI (repL (X i) b8).length ∧ MW G A am xa (updT X j (repL (X i) b8)) P k 0 H)) 61 3660 (A) := by
  refine mstart "SigntextModel" (by decide +kernel) rfl (Nat.le_of_ble_eq_true rfl) ?_
  intro p e s m below meth c ls hx hb hr hts hown hml hlocks hname hC hA hW hl
  have hl : lv_has ls 6 [(0, .ref am), (1, .int x), (2, .int m9), (3, .int y)] := hl
  have hK := hC.1
  have hS : va_S A s.heap s.heap [] := va_S.rf
  obtain ⟨ra, pa, tx, hW⟩ := hW
  have hO := hW.obj
  have hAm := hW.1
  obtain ⟨QQ, hQQ⟩ : ∃ Q9 : State → Prop, Q9 = (MQ below (qI A (fun r H => ((NT x ∨ NT y) ∧ r = 0 ∧ MW G A am xa X P k 1 H) ∨ (((∃ i : Nat, i < 4 ∧ x = nI i) ∧ (∃ j : Nat, j < 4 ∧ y = nI j) ∧ ¬ ∃ b8 : Nat, b8 ≤ 60 ∧ m9 = nI b8) ∧ r = 0 ∧ MW G A am xa X P k 2 H) ∨ ((∃ i j b8 : Nat, i < 4 ∧ x = nI i ∧ j < 4 ∧ y = nI j ∧ b8 ≤ 60 ∧ m9 = nI b8 ∧ 60 < (repL (X i) b8).length) ∧ r = 0 ∧ MW G A am xa X P k 3 H) ∨ ∃ i j b8 : Nat, i < 4 ∧ x = nI i ∧ j < 4 ∧ y = nI j ∧ b8 ≤ 60 ∧ m9 = nI b8 ∧ (repL (X i) b8).length ≤ 60 ∧ r = nI (repL (X i) b8).length ∧ MW G A am xa (updT X j (repL (X i) b8)) P k 0 H)) [.ref am, .int x, .int m9, .int y].toArray s 61 3660 (A)) := ⟨_, rfl⟩
  rw [← hQQ]
  refine lv_aload_n hx hb dX4_times_0 rfl (lv_at hl 0 rfl) ?_
  refine lv_iload_n hx hb dX4_times_1 rfl (lv_at hl 1 rfl) ?_
  refine kS_i (A := A) (As := [.int x]) (rest := .ref am :: []) ⟨hx, hb, hml, hown, hts⟩ (mX4_isNone (A := A) ) (va_cwS 1 hts (gS tw_4_203 tw_4_204 tw_1_8 tw_4_205) rfl rfl rfl (by decide +kernel) ⟨Nat.le_of_ble_eq_true rfl, Nat.le_of_ble_eq_true rfl⟩) hC hS hA  trivial rfl rfl hl.1 (Nat.le_of_ble_eq_true rfl) ⟨Nat.zero_le _, Nat.zero_le _⟩ dX4_times_2 (fun r_18 hr_18 => ?_)
  obtain ⟨r_18v, hr_18v, rfl⟩ := hr_18
  refine f_ne (tgt := 15) hx hb dX4_times_5 (by decide) (fun c_19 => ?_) (fun c_19 => ?_)
  · refine lv_iconst (v := nI 1) hx hb dX4_times_15 (by decide) ?_
    refine lv_goto (tgt := 20) hx hb dX4_times_16 (by decide) ?_
    refine lv_iconst (v := nI 1) hx hb dX4_times_20 (by decide) ?_
    refine qI_V (A := A) (A1 := A) (b := am) (As := [.int (bI true), .int (nI 1)]) (rest := []) ⟨hx, hb, hml, hown, hts⟩ (mX4_start (A := A) (X := X) (P := P) (k := k) (xa := xa) (b := true) (w9 := 1) (by decide)) (cwV 2 hts (gV tw_4_206 tw_4_208 sel_X4_start tw_1_8 tw_4_209) rfl rfl rfl (by decide +kernel) ⟨Nat.le_of_ble_eq_true rfl, Nat.le_of_ble_eq_true rfl⟩) hC hS (fun _ h => h) (fun q h => hA q (Nat.le_trans hS.1 h)) (hW.recv hK) ⟨ra, pa, tx, hW⟩ rfl rfl hl.1 (Nat.le_of_ble_eq_true rfl) ⟨Nat.zero_le _, Nat.zero_le _⟩ dX4_times_21 (fun rv20 H20 L20 hP20 hk20 hS => ?_)
    have hZ20 := hS.1
    obtain ⟨hr20, hM20⟩ := hP20
    subst hr20
    obtain ⟨ra, pa, tx, hW⟩ := hM20
    have hW : MWx G A am xa ra pa tx X P k (nI 1) H20 := hW
    have hO := hW.obj
    have hAm := hW.1
    refine f_ne (tgt := 77) hx hb dX4_times_24 (by decide) (fun c_21 => ?_) (fun c_21 => ?_)
    · refine lv_iconst (v := nI 0) hx hb dX4_times_77 (by decide) ?_
      subst hQQ
      exact q_i hx hb hr hlocks dX4_times_78 hS (by omega) (by omega) (Or.inl ⟨(Or.inl (hr_18v.mp c_19)), rfl, ra, pa, tx, hW⟩)
    · exact absurd c_21 (by decide)
  · obtain ⟨i, hi, rfl⟩ : ∃ i : Nat, i < 4 ∧ x = nI i := Classical.byContradiction (fun q => absurd (hr_18v.mpr q) (by rw [c_19]; decide))
    refine lv_iload_n hx hb dX4_times_8 rfl (lv_at hl 3 rfl) ?_
    refine kS_i (A := A) (As := [.int y]) (rest := .ref am :: []) ⟨hx, hb, hml, hown, hts⟩ (mX4_isNone (A := A) ) (va_cwS 1 hts (gS tw_4_203 tw_4_204 tw_1_8 tw_4_205) rfl rfl rfl (by decide +kernel) ⟨Nat.le_of_ble_eq_true rfl, Nat.le_of_ble_eq_true rfl⟩) hC hS hA  trivial rfl rfl hl.1 (Nat.le_of_ble_eq_true rfl) ⟨Nat.zero_le _, Nat.zero_le _⟩ dX4_times_9 (fun r_22 hr_22 => ?_)
    obtain ⟨r_22v, hr_22v, rfl⟩ := hr_22
    refine f_eq (tgt := 19) hx hb dX4_times_12 (by decide) (fun c_23 => ?_) (fun c_23 => ?_)
    · obtain ⟨j, hj, rfl⟩ : ∃ j : Nat, j < 4 ∧ y = nI j := Classical.byContradiction (fun q => absurd (hr_22v.mpr q) (by rw [c_23]; decide))
      refine lv_iconst (v := nI 0) hx hb dX4_times_19 (by decide) ?_
      refine lv_iconst (v := nI 1) hx hb dX4_times_20 (by decide) ?_
      refine qI_V (A := A) (A1 := A) (b := am) (As := [.int (bI false), .int (nI 1)]) (rest := []) ⟨hx, hb, hml, hown, hts⟩ (mX4_start (A := A) (X := X) (P := P) (k := k) (xa := xa) (b := false) (w9 := 1) (by decide)) (cwV 2 hts (gV tw_4_206 tw_4_208 sel_X4_start tw_1_8 tw_4_209) rfl rfl rfl (by decide +kernel) ⟨Nat.le_of_ble_eq_true rfl, Nat.le_of_ble_eq_true rfl⟩) hC hS (fun _ h => h) (fun q h => hA q (Nat.le_trans hS.1 h)) (hW.recv hK) ⟨ra, pa, tx, hW⟩ rfl rfl hl.1 (Nat.le_of_ble_eq_true rfl) ⟨Nat.zero_le _, Nat.zero_le _⟩ dX4_times_21 (fun rv24 H24 L24 hP24 hk24 hS => ?_)
      have hZ24 := hS.1
      obtain ⟨hr24, hM24⟩ := hP24
      subst hr24
      obtain ⟨ra, pa, tx, hW⟩ := hM24
      have hW : MWx G A am xa ra pa tx X P k (nI 0) H24 := hW
      have hO := hW.obj
      have hAm := hW.1
      refine f_ne (tgt := 77) hx hb dX4_times_24 (by decide) (fun c_25 => ?_) (fun c_25 => ?_)
      · exact absurd c_25 (by decide)
      · refine lv_aload_n hx hb dX4_times_27 rfl (lv_at hl 0 rfl) ?_
        refine lv_iload_n hx hb dX4_times_28 rfl (lv_at hl 2 rfl) ?_
        refine lv_iconst (v := nI 0) hx hb dX4_times_29 (by decide) ?_
        refine lv_bipush (v := nI 60) hx hb dX4_times_30 (by decide) ?_
        refine kS_i (A := A) (As := [.int m9, .int (nI 0), .int (nI 60)]) (rest := .ref am :: []) ⟨hx, hb, hml, hown, hts⟩ (mX4_isIn (A := A) ) (va_cwS 3 hts (gS tw_4_197 tw_4_198 tw_1_8 tw_4_199) rfl rfl rfl (by decide +kernel) ⟨Nat.le_of_ble_eq_true rfl, Nat.le_of_ble_eq_true rfl⟩) hC hS hA  trivial rfl rfl hl.1 (Nat.le_of_ble_eq_true rfl) ⟨Nat.zero_le _, Nat.zero_le _⟩ dX4_times_32 (fun r9 h9 => lv_cv h9 ?_)
        refine f_ne (tgt := 42) hx hb dX4_times_35 (by decide) (fun c_26 => ?_) (fun c_26 => ?_)
        · obtain ⟨b8, hb8, rfl⟩ := (rngI (n := 60) (by omega)).mp (of_decide_eq_true c_26)
          refine lv_iconst (v := nI 0) hx hb dX4_times_42 (by decide) ?_
          refine lv_iconst (v := nI 2) hx hb dX4_times_43 (by decide) ?_
          refine qI_V (A := A) (A1 := A) (b := am) (As := [.int (bI false), .int (nI 2)]) (rest := []) ⟨hx, hb, hml, hown, hts⟩ (mX4_refuse (A := A) (X := X) (P := P) (k := k) (xa := xa) (b := false) (th := 0) (w9 := 2) (by decide) (by decide)) (cwV 2 hts (gV tw_4_210 tw_4_212 sel_X4_refuse tw_1_8 tw_4_213) rfl rfl rfl (by decide +kernel) ⟨Nat.le_of_ble_eq_true rfl, Nat.le_of_ble_eq_true rfl⟩) hC hS (fun _ h => h) (fun q h => hA q (Nat.le_trans hS.1 h)) (hW.recv hK) ⟨ra, pa, tx, hW⟩ rfl rfl hl.1 (Nat.le_of_ble_eq_true rfl) ⟨Nat.zero_le _, Nat.zero_le _⟩ dX4_times_44 (fun rv27 H27 L27 hP27 hk27 hS => ?_)
          have hZ27 := hS.1
          obtain ⟨hr27, hM27⟩ := hP27
          subst hr27
          obtain ⟨ra, pa, tx, hW⟩ := hM27
          have hW : MWx G A am xa ra pa tx X P k (nI 0) H27 := hW
          have hO := hW.obj
          have hAm := hW.1
          refine f_ne (tgt := 77) hx hb dX4_times_47 (by decide) (fun c_28 => ?_) (fun c_28 => ?_)
          · exact absurd c_28 (by decide)
          · refine lv_aload_n hx hb dX4_times_50 rfl (lv_at hl 0 rfl) ?_
            refine lv_aload_n hx hb dX4_times_51 rfl (lv_at hl 0 rfl) ?_
            refine va_get (D := G.1) (ci := 8) (C := RX4) (T := TX4) (N := 5) hx hb hts inX4 hown hK (at_P hO) 0 rfl rfl 1 (by decide) (hts _ tw_4_173) (fun _ h9 => h9) rfl dX4_times_52 ?_
            refine lv_iload_n hx hb dX4_times_55 rfl (lv_at hl 1 rfl) ?_
            refine h_aaldI (D := G.1) hx hb hK 4 hW.txs rfl (vp_in_nI (n := i) (N := 4) (by omega) (by omega)) dX4_times_56 ?_
            refine v_cv (show va_rf _ = .ref (tx i) from by rw [nI_clamp (n := i) (by omega)]; rfl) ?_
            have hTi := (hW.tx (j := i) (by omega)).ia hC.2.1.2
            have x60i := hW.2.2.1 i (Or.inl (by omega))
            have hm : (X i).length * b8 ≤ 60 * 60 := Nat.mul_le_mul x60i.2 hb8
            refine h_ilen hx hb hC.2.1 hTi dX4_times_57 ?_
            refine lv_iload_n hx hb dX4_times_58 rfl (lv_at hl 2 rfl) ?_
            refine lv_imul hx hb dX4_times_59 ?_
            refine lv_cv (pk_mul ((X i).length) b8) ?_
            refine lv_bipush (v := nI 60) hx hb dX4_times_60 (by decide) ?_
            refine b_le (tgt := 69) hx hb dX4_times_62 (by decide) (by omega) (by omega) (fun c_29 => ?_) (fun c_29 => ?_)
            · refine lv_iconst (v := nI 0) hx hb dX4_times_69 (by decide) ?_
              refine lv_iconst (v := nI 3) hx hb dX4_times_70 (by decide) ?_
              refine qI_V (A := A) (A1 := A) (b := am) (As := [.int (bI false), .int (nI 3)]) (rest := []) ⟨hx, hb, hml, hown, hts⟩ (mX4_refuse (A := A) (X := X) (P := P) (k := k) (xa := xa) (b := false) (th := 0) (w9 := 3) (by decide) (by decide)) (cwV 2 hts (gV tw_4_210 tw_4_212 sel_X4_refuse tw_1_8 tw_4_213) rfl rfl rfl (by decide +kernel) ⟨Nat.le_of_ble_eq_true rfl, Nat.le_of_ble_eq_true rfl⟩) hC hS (fun _ h => h) (fun q h => hA q (Nat.le_trans hS.1 h)) (hW.recv hK) ⟨ra, pa, tx, hW⟩ rfl rfl hl.1 (Nat.le_of_ble_eq_true rfl) ⟨Nat.zero_le _, Nat.zero_le _⟩ dX4_times_71 (fun rv30 H30 L30 hP30 hk30 hS => ?_)
              have hZ30 := hS.1
              obtain ⟨hr30, hM30⟩ := hP30
              subst hr30
              obtain ⟨ra, pa, tx, hW⟩ := hM30
              have hW : MWx G A am xa ra pa tx X P k (nI 0) H30 := hW
              have hO := hW.obj
              have hAm := hW.1
              refine f_eq (tgt := 79) hx hb dX4_times_74 (by decide) (fun c_31 => ?_) (fun c_31 => ?_)
              · have c9 : (X i).length * b8 ≤ 60 := c_29
                refine lv_iconst (v := nI 0) hx hb dX4_times_79 (by decide) ?_
                have hW0 := hW
                have hra := hW.row.lt
                refine h_newa (D := G.1) (atype := .int) (N := 0) (z := (0, .inl (fun _ => 0))) hx hb (hts _ tw_1_70) rfl (fun h => h) hK 0 rfl hS rfl (nI_pos (by omega)) (nI_clamp (by omega)) (show 0 * _ ≤ _ from by show 0 * 4 ≤ 536870912; omega) (Nat.le_trans (show 0 + 1 ≤ 61 by omega) (Nat.le_of_ble_eq_true rfl)) (Nat.le_trans (show 0 + 0 ≤ 3660 by omega) (Nat.le_of_ble_eq_true rfl)) dX4_times_80 (fun na H32 hna hFna z32 o32 hS => ?_)
                have hZ32 := hS.1
                have hMna : A na := hA na (by omega)
                have hW := hW0.n o32
                have hN : IA0 G na (repL (X i) 0) H32 := IA0.mk hFna rfl (fun q hq => absurd hq (Nat.not_lt_zero q))
                refine lv_astore (lv' := [(4, .ref na), (0, .ref am), (1, .int (nI i)), (2, .int (nI b8)), (3, .int (nI j))]) hx hb dX4_times_82 hl (by decide) rfl (fun ls hl => ?_)
                refine lv_iconst (v := nI 0) hx hb dX4_times_84 (by decide) ?_
                refine lv_istore (lv' := [(5, .int (nI 0)), (4, .ref na), (0, .ref am), (1, .int (nI i)), (2, .int (nI b8)), (3, .int (nI j))]) hx hb dX4_times_85 hl (by decide) rfl (fun ls hl => ?_)
                refine W.widen (k := 1 + 0) (n := 0 + 0 * 61) (by decide) (by decide) ?_
                refine nloop (P := fun j8 => ∀ (ls : Array Slot) (H : Heap) (L : List Loc) (nm : Nat), lv_has ls 6 [(5, .int (nI j8)), (4, .ref nm), (0, .ref am), (1, .int (nI i)), (2, .int (nI b8)), (3, .int (nI j))] → va_S A s.heap H L → MWx G A am xa ra pa tx X P k (nI 0) H → IA0 G nm (repL (X i) j8) H → ra < nm → W p l e rmX4_times s m [.ref am, .int (nI i), .int (nI b8), .int (nI j)].toArray below meth c H L (1 + j8) (0 + j8 * 61) QQ (F0 m 87 ls [])) b8 ?_ 0 (Nat.zero_le _) ls H32 L30 na hl hS hW hN (by omega)
                clear hl
                intro j8 hj8 ih ls H L nm hl
                clear hS hW hN hra
                intro hS hW hN hra
                have hZ0 := hS.1
                have hO := hW.obj
                have hAm := hW.1
                refine lv_iload hx hb dX4_times_87 (lv_at hl 0 rfl) ?_
                refine lv_iload_n hx hb dX4_times_89 rfl (lv_at hl 4 rfl) ?_
                refine b_ge (tgt := 112) hx hb dX4_times_90 (by decide) (by omega) (by omega) (fun c_33 => ?_) (fun c_33 => ?_)
                · have e8 : j8 = b8 := by omega
                  rw [e8] at hN
                  refine lv_aload_n hx hb dX4_times_112 rfl (lv_at hl 2 rfl) ?_
                  refine lv_iload_n hx hb dX4_times_113 rfl (lv_at hl 5 rfl) ?_
                  refine lv_aload hx hb dX4_times_114 (lv_at hl 1 rfl) ?_
                  refine qI_V (A := A) (A1 := A) (b := am) (As := [.int (nI j), .ref nm]) (rest := []) ⟨hx, hb, hml, hown, hts⟩ (mX4_become (A := A) (X := X) (P := P) (k := k) (xa := xa) (t := repL (X i) b8) hj ⟨okc_rep x60i.1 b8, by rw [repL_len]; exact c9⟩) (cwV 2 hts (gV tw_4_214 tw_4_216 sel_X4_become tw_1_8 tw_4_217) rfl rfl rfl (by decide +kernel) ⟨Nat.le_of_ble_eq_true rfl, Nat.le_of_ble_eq_true rfl⟩) hC hS (fun _ h => h) (fun q h => hA q (Nat.le_trans hS.1 h)) (hW.recv hK) ⟨ra, pa, tx, hW, hN, (by omega)⟩ rfl rfl hl.1 (Nat.le_of_ble_eq_true rfl) ⟨Nat.le_trans (show (1 + j8) ≤ 61 by omega) (Nat.le_of_ble_eq_true rfl), Nat.le_trans (show (0 + j8 * 61) ≤ 3660 by omega) (Nat.le_of_ble_eq_true rfl)⟩ dX4_times_116 (fun rv34 H34 L34 hP34 hk34 hS => ?_)
                  have hZ34 := hS.1
                  subst hQQ
                  exact q_i hx hb hr hlocks dX4_times_119 hS (by omega) (by omega) (Or.inr (Or.inr (Or.inr (⟨i, j, b8, hi, rfl, hj, rfl, hb8, rfl, by rw [repL_len]; exact c9, hP34.1, hP34.2⟩))))
                · refine lv_aload hx hb dX4_times_93 (lv_at hl 1 rfl) ?_
                  refine lv_aload_n hx hb dX4_times_95 rfl (lv_at hl 2 rfl) ?_
                  refine va_get (D := G.1) (ci := 8) (C := RX4) (T := TX4) (N := 5) hx hb hts inX4 hown hK (at_P hO) 0 rfl rfl 1 (by decide) (hts _ tw_4_173) (fun _ h9 => h9) rfl dX4_times_96 ?_
                  refine lv_iload_n hx hb dX4_times_99 rfl (lv_at hl 3 rfl) ?_
                  refine h_aaldI (D := G.1) hx hb hK 4 hW.txs rfl (vp_in_nI (n := i) (N := 4) (by omega) (by omega)) dX4_times_100 ?_
                  refine v_cv (show va_rf _ = .ref (tx i) from by rw [nI_clamp (n := i) (by omega)]; rfl) ?_
                  have hTi := (hW.tx (j := i) (by omega)).ia hC.2.1.2
                  have x60i := hW.2.2.1 i (Or.inl (by omega))
                  have hm2 : (X i).length * (j8 + 1) ≤ (X i).length * b8 := Nat.mul_le_mul (Nat.le_refl _) (by omega)
                  rw [Nat.mul_succ] at hm2
                  have hra := hW.row.lt
                  refine qR_S (A := A) (A1 := nw H.size)  (As := [.ref nm, .ref (tx i)]) (rest := []) ⟨hx, hb, hml, hown, hts⟩ (mX4_joined (A := nw H.size) (sz := H.size) (t := repL (X i) j8) (u := X i) (by rw [repL_len]; omega)) (va_cwS 2 hts (gS tw_4_200 tw_4_201 tw_1_8 tw_4_202) rfl rfl rfl (by decide +kernel) ⟨Nat.le_of_ble_eq_true rfl, Nat.le_of_ble_eq_true rfl⟩) hC hS (nw_in hA hS.1) nw_n  ⟨rfl, (hN.ia hC.2.1.2), hTi⟩ rfl rfl hl.1 (Nat.le_of_ble_eq_true rfl) ⟨Nat.le_trans (show (1 + j8) + 1 ≤ 61 by omega) (Nat.le_of_ble_eq_true rfl), Nat.le_trans (show (0 + j8 * 61) + 61 ≤ 3660 by omega) (Nat.le_of_ble_eq_true rfl)⟩ dX4_times_101 (fun rv35 H35 L35 hP35 hk35 hS => ?_)
                  have hZ35 := hS.1
                  have hW := hW.nw hk35
                  refine lv_astore (lv' := [(4, .ref rv35), (5, .int (nI j8)), (0, .ref am), (1, .int (nI i)), (2, .int (nI b8)), (3, .int (nI j))]) hx hb dX4_times_104 hl (by decide) rfl (fun ls hl => ?_)
                  refine lv_iinc (v := nI (j8 + 1)) (lv' := [(5, .int (nI (j8 + 1))), (4, .ref rv35), (0, .ref am), (1, .int (nI i)), (2, .int (nI b8)), (3, .int (nI j))]) hx hb dX4_times_106 hl (k := 1) rfl (nI_add j8 1) (by decide) rfl (fun ls hl => ?_)
                  refine lv_goto (tgt := 87) hx hb dX4_times_109 (by decide) ?_
                  refine W.widen (k := 1 + (j8 + 1)) (n := 0 + (j8 + 1) * 61) (by omega) (by omega) ?_
                  exact ih (j8 + 1) (by omega) (by omega) ls H35 L35 _ (lv_sub hl [0, 1, 2, 3, 4, 5] rfl) hS hW hP35.2 (by have := hP35.1; omega)
              · exact absurd c_31 (by decide)
            · refine lv_iconst (v := nI 1) hx hb dX4_times_65 (by decide) ?_
              refine lv_goto (tgt := 70) hx hb dX4_times_66 (by decide) ?_
              refine lv_iconst (v := nI 3) hx hb dX4_times_70 (by decide) ?_
              refine qI_V (A := A) (A1 := A) (b := am) (As := [.int (bI true), .int (nI 3)]) (rest := []) ⟨hx, hb, hml, hown, hts⟩ (mX4_refuse (A := A) (X := X) (P := P) (k := k) (xa := xa) (b := true) (th := 0) (w9 := 3) (by decide) (by decide)) (cwV 2 hts (gV tw_4_210 tw_4_212 sel_X4_refuse tw_1_8 tw_4_213) rfl rfl rfl (by decide +kernel) ⟨Nat.le_of_ble_eq_true rfl, Nat.le_of_ble_eq_true rfl⟩) hC hS (fun _ h => h) (fun q h => hA q (Nat.le_trans hS.1 h)) (hW.recv hK) ⟨ra, pa, tx, hW⟩ rfl rfl hl.1 (Nat.le_of_ble_eq_true rfl) ⟨Nat.zero_le _, Nat.zero_le _⟩ dX4_times_71 (fun rv36 H36 L36 hP36 hk36 hS => ?_)
              have hZ36 := hS.1
              obtain ⟨hr36, hM36⟩ := hP36
              subst hr36
              obtain ⟨ra, pa, tx, hW⟩ := hM36
              have hW : MWx G A am xa ra pa tx X P k (nI 3) H36 := hW
              have hO := hW.obj
              have hAm := hW.1
              refine f_eq (tgt := 79) hx hb dX4_times_74 (by decide) (fun c_37 => ?_) (fun c_37 => ?_)
              · exact absurd c_37 (by decide)
              · refine lv_iconst (v := nI 0) hx hb dX4_times_77 (by decide) ?_
                subst hQQ
                exact q_i hx hb hr hlocks dX4_times_78 hS (by omega) (by omega) (Or.inr (Or.inr (Or.inl ⟨⟨i, j, b8, hi, rfl, hj, rfl, hb8, rfl, by rw [repL_len]; omega⟩, rfl, ra, pa, tx, hW⟩)))
        · refine lv_iconst (v := nI 1) hx hb dX4_times_38 (by decide) ?_
          refine lv_goto (tgt := 43) hx hb dX4_times_39 (by decide) ?_
          refine lv_iconst (v := nI 2) hx hb dX4_times_43 (by decide) ?_
          refine qI_V (A := A) (A1 := A) (b := am) (As := [.int (bI true), .int (nI 2)]) (rest := []) ⟨hx, hb, hml, hown, hts⟩ (mX4_refuse (A := A) (X := X) (P := P) (k := k) (xa := xa) (b := true) (th := 0) (w9 := 2) (by decide) (by decide)) (cwV 2 hts (gV tw_4_210 tw_4_212 sel_X4_refuse tw_1_8 tw_4_213) rfl rfl rfl (by decide +kernel) ⟨Nat.le_of_ble_eq_true rfl, Nat.le_of_ble_eq_true rfl⟩) hC hS (fun _ h => h) (fun q h => hA q (Nat.le_trans hS.1 h)) (hW.recv hK) ⟨ra, pa, tx, hW⟩ rfl rfl hl.1 (Nat.le_of_ble_eq_true rfl) ⟨Nat.zero_le _, Nat.zero_le _⟩ dX4_times_44 (fun rv38 H38 L38 hP38 hk38 hS => ?_)
          have hZ38 := hS.1
          obtain ⟨hr38, hM38⟩ := hP38
          subst hr38
          obtain ⟨ra, pa, tx, hW⟩ := hM38
          have hW : MWx G A am xa ra pa tx X P k (nI 2) H38 := hW
          have hO := hW.obj
          have hAm := hW.1
          refine f_ne (tgt := 77) hx hb dX4_times_47 (by decide) (fun c_39 => ?_) (fun c_39 => ?_)
          · refine lv_iconst (v := nI 0) hx hb dX4_times_77 (by decide) ?_
            subst hQQ
            exact q_i hx hb hr hlocks dX4_times_78 hS (by omega) (by omega) (Or.inr (Or.inl ⟨⟨⟨i, hi, rfl⟩, ⟨j, hj, rfl⟩, (fun q => absurd ((rngI (n := 60) (by omega)).mpr q) (of_decide_eq_false c_26))⟩, rfl, ra, pa, tx, hW⟩))
          · exact absurd c_39 (by decide)
    · refine lv_iconst (v := nI 1) hx hb dX4_times_15 (by decide) ?_
      refine lv_goto (tgt := 20) hx hb dX4_times_16 (by decide) ?_
      refine lv_iconst (v := nI 1) hx hb dX4_times_20 (by decide) ?_
      refine qI_V (A := A) (A1 := A) (b := am) (As := [.int (bI true), .int (nI 1)]) (rest := []) ⟨hx, hb, hml, hown, hts⟩ (mX4_start (A := A) (X := X) (P := P) (k := k) (xa := xa) (b := true) (w9 := 1) (by decide)) (cwV 2 hts (gV tw_4_206 tw_4_208 sel_X4_start tw_1_8 tw_4_209) rfl rfl rfl (by decide +kernel) ⟨Nat.le_of_ble_eq_true rfl, Nat.le_of_ble_eq_true rfl⟩) hC hS (fun _ h => h) (fun q h => hA q (Nat.le_trans hS.1 h)) (hW.recv hK) ⟨ra, pa, tx, hW⟩ rfl rfl hl.1 (Nat.le_of_ble_eq_true rfl) ⟨Nat.zero_le _, Nat.zero_le _⟩ dX4_times_21 (fun rv40 H40 L40 hP40 hk40 hS => ?_)
      have hZ40 := hS.1
      obtain ⟨hr40, hM40⟩ := hP40
      subst hr40
      obtain ⟨ra, pa, tx, hW⟩ := hM40
      have hW : MWx G A am xa ra pa tx X P k (nI 1) H40 := hW
      have hO := hW.obj
      have hAm := hW.1
      refine f_ne (tgt := 77) hx hb dX4_times_24 (by decide) (fun c_41 => ?_) (fun c_41 => ?_)
      · refine lv_iconst (v := nI 0) hx hb dX4_times_77 (by decide) ?_
        subst hQQ
        exact q_i hx hb hr hlocks dX4_times_78 hS (by omega) (by omega) (Or.inl ⟨(Or.inr (hr_22v.mp c_23)), rfl, ra, pa, tx, hW⟩)
      · exact absurd c_41 (by decide)

abbrev rmX4_at : Room := { frames := 3, cells := 0, slots := 0, locals := 64 }
theorem mX4_at {l : Launch} {G : Cx} {A : Nat → Prop} {am xa : Nat} {X : Nat → List Nat} {P : List (List Nat)} {k : Int32} {x y th : Int32} : Met l yX4_at (.code yX4_at cX4_at 3 (some .int) :: GW) rmX4_at (PC G A [.ref am, .int x, .int y] (MW G A am xa X P k th)) (qI A (fun r H => ((NT x ∨ ¬ ∃ i a9 : Nat, i < 4 ∧ x = nI i ∧ a9 < (X i).length ∧ y = nI a9) ∧ r = 0 ∧ MW G A am xa X P k 1 H) ∨ ∃ i a9 : Nat, i < 4 ∧ x = nI i ∧ a9 < (X i).length ∧ y = nI a9 ∧ r = nI ((X i).getD a9 0) ∧ MW G A am xa X P k 0 H)) 0 0 (A) := by
  refine mstart "SigntextModel" (by decide +kernel) rfl (Nat.le_of_ble_eq_true rfl) ?_
  intro p e s m below meth c ls hx hb hr hts hown hml hlocks hname hC hA hW hl
  have hl : lv_has ls 3 [(0, .ref am), (1, .int x), (2, .int y)] := hl
  have hK := hC.1
  have hS : va_S A s.heap s.heap [] := va_S.rf
  obtain ⟨ra, pa, tx, hW⟩ := hW
  have hO := hW.obj
  have hAm := hW.1
  refine lv_aload_n hx hb dX4_at_0 rfl (lv_at hl 0 rfl) ?_
  refine lv_iload_n hx hb dX4_at_1 rfl (lv_at hl 1 rfl) ?_
  refine kS_i (A := A) (As := [.int x]) (rest := .ref am :: []) ⟨hx, hb, hml, hown, hts⟩ (mX4_isNone (A := A) ) (va_cwS 1 hts (gS tw_4_203 tw_4_204 tw_1_8 tw_4_205) rfl rfl rfl (by decide +kernel) ⟨Nat.le_of_ble_eq_true rfl, Nat.le_of_ble_eq_true rfl⟩) hC hS hA  trivial rfl rfl hl.1 (Nat.le_of_ble_eq_true rfl) ⟨Nat.zero_le _, Nat.zero_le _⟩ dX4_at_2 (fun r_42 hr_42 => ?_)
  obtain ⟨r_42v, hr_42v, rfl⟩ := hr_42
  refine lv_iconst (v := nI 1) hx hb dX4_at_5 (by decide) ?_
  cases r_42v
  · obtain ⟨i, hi, rfl⟩ : ∃ i : Nat, i < 4 ∧ x = nI i := Classical.byContradiction (fun q => Bool.noConfusion (hr_42v.mpr q))
    refine qI_V (A := A) (A1 := A) (b := am) (As := [.int (bI false), .int (nI 1)]) (rest := []) ⟨hx, hb, hml, hown, hts⟩ (mX4_start (A := A) (X := X) (P := P) (k := k) (xa := xa) (b := false) (w9 := 1) (by decide)) (cwV 2 hts (gV tw_4_206 tw_4_208 sel_X4_start tw_1_8 tw_4_209) rfl rfl rfl (by decide +kernel) ⟨Nat.le_of_ble_eq_true rfl, Nat.le_of_ble_eq_true rfl⟩) hC hS (fun _ h => h) (fun q h => hA q (Nat.le_trans hS.1 h)) (hW.recv hK) ⟨ra, pa, tx, hW⟩ rfl rfl hl.1 (Nat.le_of_ble_eq_true rfl) ⟨Nat.zero_le _, Nat.zero_le _⟩ dX4_at_6 (fun rv43 H43 L43 hP43 hk43 hS => ?_)
    have hZ43 := hS.1
    obtain ⟨hr43, hM43⟩ := hP43
    subst hr43
    obtain ⟨ra, pa, tx, hW⟩ := hM43
    have hW : MWx G A am xa ra pa tx X P k (nI 0) H43 := hW
    have hO := hW.obj
    have hAm := hW.1
    refine f_ne (tgt := 42) hx hb dX4_at_9 (by decide) (fun c_44 => ?_) (fun c_44 => ?_)
    · exact absurd c_44 (by decide)
    · refine lv_aload_n hx hb dX4_at_12 rfl (lv_at hl 0 rfl) ?_
      refine lv_iload_n hx hb dX4_at_13 rfl (lv_at hl 2 rfl) ?_
      refine lv_iconst (v := nI 0) hx hb dX4_at_14 (by decide) ?_
      refine lv_aload_n hx hb dX4_at_15 rfl (lv_at hl 0 rfl) ?_
      refine va_get (D := G.1) (ci := 8) (C := RX4) (T := TX4) (N := 5) hx hb hts inX4 hown hK (at_P hO) 0 rfl rfl 1 (by decide) (hts _ tw_4_173) (fun _ h9 => h9) rfl dX4_at_16 ?_
      refine lv_iload_n hx hb dX4_at_19 rfl (lv_at hl 1 rfl) ?_
      refine h_aaldI (D := G.1) hx hb hK 4 hW.txs rfl (vp_in_nI (n := i) (N := 4) (by omega) (by omega)) dX4_at_20 ?_
      refine v_cv (show va_rf _ = .ref (tx i) from by rw [nI_clamp (n := i) (by omega)]; rfl) ?_
      have hTi := (hW.tx (j := i) (by omega)).ia hC.2.1.2
      have x60i := hW.2.2.1 i (Or.inl (by omega))
      have i60 := x60i.2
      refine h_ilen hx hb hC.2.1 hTi dX4_at_21 ?_
      refine lv_iconst (v := nI 1) hx hb dX4_at_22 (by decide) ?_
      refine lv_isub hx hb dX4_at_23 ?_
      refine kS_i (A := A) (As := [.int y, .int (nI 0), .int (nI ((X i).length) - nI 1)]) (rest := .ref am :: []) ⟨hx, hb, hml, hown, hts⟩ (mX4_isIn (A := A) ) (va_cwS 3 hts (gS tw_4_197 tw_4_198 tw_1_8 tw_4_199) rfl rfl rfl (by decide +kernel) ⟨Nat.le_of_ble_eq_true rfl, Nat.le_of_ble_eq_true rfl⟩) hC hS hA  trivial rfl rfl hl.1 (Nat.le_of_ble_eq_true rfl) ⟨Nat.zero_le _, Nat.zero_le _⟩ dX4_at_24 (fun r9 h9 => lv_cv h9 ?_)
      refine f_ne (tgt := 34) hx hb dX4_at_27 (by decide) (fun c_45 => ?_) (fun c_45 => ?_)
      · obtain ⟨a9, ha9, rfl⟩ := (rngL (n := (X i).length) (by omega)).mp (of_decide_eq_true c_45)
        refine lv_iconst (v := nI 0) hx hb dX4_at_34 (by decide) ?_
        refine lv_iconst (v := nI 1) hx hb dX4_at_35 (by decide) ?_
        refine qI_V (A := A) (A1 := A) (b := am) (As := [.int (bI false), .int (nI 1)]) (rest := []) ⟨hx, hb, hml, hown, hts⟩ (mX4_refuse (A := A) (X := X) (P := P) (k := k) (xa := xa) (b := false) (th := 0) (w9 := 1) (by decide) (by decide)) (cwV 2 hts (gV tw_4_210 tw_4_212 sel_X4_refuse tw_1_8 tw_4_213) rfl rfl rfl (by decide +kernel) ⟨Nat.le_of_ble_eq_true rfl, Nat.le_of_ble_eq_true rfl⟩) hC hS (fun _ h => h) (fun q h => hA q (Nat.le_trans hS.1 h)) (hW.recv hK) ⟨ra, pa, tx, hW⟩ rfl rfl hl.1 (Nat.le_of_ble_eq_true rfl) ⟨Nat.zero_le _, Nat.zero_le _⟩ dX4_at_36 (fun rv46 H46 L46 hP46 hk46 hS => ?_)
        have hZ46 := hS.1
        obtain ⟨hr46, hM46⟩ := hP46
        subst hr46
        obtain ⟨ra, pa, tx, hW⟩ := hM46
        have hW : MWx G A am xa ra pa tx X P k (nI 0) H46 := hW
        have hO := hW.obj
        have hAm := hW.1
        refine f_eq (tgt := 46) hx hb dX4_at_39 (by decide) (fun c_47 => ?_) (fun c_47 => ?_)
        · refine lv_aload_n hx hb dX4_at_46 rfl (lv_at hl 0 rfl) ?_
          refine va_get (D := G.1) (ci := 8) (C := RX4) (T := TX4) (N := 5) hx hb hts inX4 hown hK (at_P hO) 0 rfl rfl 1 (by decide) (hts _ tw_4_173) (fun _ h9 => h9) rfl dX4_at_47 ?_
          refine lv_iload_n hx hb dX4_at_50 rfl (lv_at hl 1 rfl) ?_
          refine h_aaldI (D := G.1) hx hb hK 4 hW.txs rfl (vp_in_nI (n := i) (N := 4) (by omega) (by omega)) dX4_at_51 ?_
          refine v_cv (show va_rf _ = .ref (tx i) from by rw [nI_clamp (n := i) (by omega)]; rfl) ?_
          have hTi := (hW.tx (j := i) (by omega)).ia hC.2.1.2
          have x60i := hW.2.2.1 i (Or.inl (by omega))
          refine lv_iload_n hx hb dX4_at_52 rfl (lv_at hl 2 rfl) ?_
          refine h_ild hx hb hC.2.1 hTi (i := a9) (by omega) (by omega) dX4_at_53 ?_
          exact q_i hx hb hr hlocks dX4_at_54 hS (Nat.le_refl _) (Nat.le_refl _) (Or.inr (⟨i, a9, hi, rfl, ha9, rfl, rfl, ra, pa, tx, hW⟩))
        · exact absurd c_47 (by decide)
      · refine lv_iconst (v := nI 1) hx hb dX4_at_30 (by decide) ?_
        refine lv_goto (tgt := 35) hx hb dX4_at_31 (by decide) ?_
        refine lv_iconst (v := nI 1) hx hb dX4_at_35 (by decide) ?_
        refine qI_V (A := A) (A1 := A) (b := am) (As := [.int (bI true), .int (nI 1)]) (rest := []) ⟨hx, hb, hml, hown, hts⟩ (mX4_refuse (A := A) (X := X) (P := P) (k := k) (xa := xa) (b := true) (th := 0) (w9 := 1) (by decide) (by decide)) (cwV 2 hts (gV tw_4_210 tw_4_212 sel_X4_refuse tw_1_8 tw_4_213) rfl rfl rfl (by decide +kernel) ⟨Nat.le_of_ble_eq_true rfl, Nat.le_of_ble_eq_true rfl⟩) hC hS (fun _ h => h) (fun q h => hA q (Nat.le_trans hS.1 h)) (hW.recv hK) ⟨ra, pa, tx, hW⟩ rfl rfl hl.1 (Nat.le_of_ble_eq_true rfl) ⟨Nat.zero_le _, Nat.zero_le _⟩ dX4_at_36 (fun rv48 H48 L48 hP48 hk48 hS => ?_)
        have hZ48 := hS.1
        obtain ⟨hr48, hM48⟩ := hP48
        subst hr48
        obtain ⟨ra, pa, tx, hW⟩ := hM48
        have hW : MWx G A am xa ra pa tx X P k (nI 1) H48 := hW
        have hO := hW.obj
        have hAm := hW.1
        refine f_eq (tgt := 46) hx hb dX4_at_39 (by decide) (fun c_49 => ?_) (fun c_49 => ?_)
        · exact absurd c_49 (by decide)
        · refine lv_iconst (v := nI 0) hx hb dX4_at_42 (by decide) ?_
          refine lv_goto (tgt := 54) hx hb dX4_at_43 (by decide) ?_
          exact q_i hx hb hr hlocks dX4_at_54 hS (Nat.le_refl _) (Nat.le_refl _) (Or.inl ⟨(Or.inr (fun ⟨i9, a0, w1, w2, w3, w4⟩ => (fun q => absurd ((rngL (n := (X i).length) (by omega)).mpr q) (of_decide_eq_false c_45)) ⟨a0, by have w7 : i9 = i := (nI_eq (by omega) (by omega)).mp w2.symm; rw [w7] at w3; exact w3, w4⟩)), rfl, ra, pa, tx, hW⟩)
  · refine qI_V (A := A) (A1 := A) (b := am) (As := [.int (bI true), .int (nI 1)]) (rest := []) ⟨hx, hb, hml, hown, hts⟩ (mX4_start (A := A) (X := X) (P := P) (k := k) (xa := xa) (b := true) (w9 := 1) (by decide)) (cwV 2 hts (gV tw_4_206 tw_4_208 sel_X4_start tw_1_8 tw_4_209) rfl rfl rfl (by decide +kernel) ⟨Nat.le_of_ble_eq_true rfl, Nat.le_of_ble_eq_true rfl⟩) hC hS (fun _ h => h) (fun q h => hA q (Nat.le_trans hS.1 h)) (hW.recv hK) ⟨ra, pa, tx, hW⟩ rfl rfl hl.1 (Nat.le_of_ble_eq_true rfl) ⟨Nat.zero_le _, Nat.zero_le _⟩ dX4_at_6 (fun rv50 H50 L50 hP50 hk50 hS => ?_)
    have hZ50 := hS.1
    obtain ⟨hr50, hM50⟩ := hP50
    subst hr50
    obtain ⟨ra, pa, tx, hW⟩ := hM50
    have hW : MWx G A am xa ra pa tx X P k (nI 1) H50 := hW
    have hO := hW.obj
    have hAm := hW.1
    refine f_ne (tgt := 42) hx hb dX4_at_9 (by decide) (fun c_51 => ?_) (fun c_51 => ?_)
    · refine lv_iconst (v := nI 0) hx hb dX4_at_42 (by decide) ?_
      refine lv_goto (tgt := 54) hx hb dX4_at_43 (by decide) ?_
      exact q_i hx hb hr hlocks dX4_at_54 hS (Nat.le_refl _) (Nat.le_refl _) (Or.inl ⟨(Or.inl (hr_42v.mp rfl)), rfl, ra, pa, tx, hW⟩)
    · exact absurd c_51 (by decide)

abbrev rmX4_isBlank : Room := { frames := 3, cells := 1, slots := 61, locals := 67 }
theorem mX4_isBlank {l : Launch} {G : Cx} {A : Nat → Prop} {am xa : Nat} {X : Nat → List Nat} {P : List (List Nat)} {k : Int32} {x th : Int32} : Met l yX4_isBlank (.code yX4_isBlank cX4_isBlank 2 (some .boolean) :: GW) rmX4_isBlank (PC G A [.ref am, .int x] (MW G A am xa X P k th)) (qI A (fun r H => ((NT x) ∧ r = 0 ∧ MW G A am xa X P k 1 H) ∨ ∃ i : Nat, i < 4 ∧ x = nI i ∧ r = bI (decide (tbL true (X i) = (X i).length)) ∧ MW G A am xa X P k 0 H)) 1 61 (A) := by
  refine mstart "SigntextModel" (by decide +kernel) rfl (Nat.le_of_ble_eq_true rfl) ?_
  intro p e s m below meth c ls hx hb hr hts hown hml hlocks hname hC hA hW hl
  have hl : lv_has ls 2 [(0, .ref am), (1, .int x)] := hl
  have hK := hC.1
  have hS : va_S A s.heap s.heap [] := va_S.rf
  obtain ⟨ra, pa, tx, hW⟩ := hW
  have hO := hW.obj
  have hAm := hW.1
  refine lv_aload_n hx hb dX4_isBlank_0 rfl (lv_at hl 0 rfl) ?_
  refine lv_iload_n hx hb dX4_isBlank_1 rfl (lv_at hl 1 rfl) ?_
  refine kS_i (A := A) (As := [.int x]) (rest := .ref am :: []) ⟨hx, hb, hml, hown, hts⟩ (mX4_isNone (A := A) ) (va_cwS 1 hts (gS tw_4_203 tw_4_204 tw_1_8 tw_4_205) rfl rfl rfl (by decide +kernel) ⟨Nat.le_of_ble_eq_true rfl, Nat.le_of_ble_eq_true rfl⟩) hC hS hA  trivial rfl rfl hl.1 (Nat.le_of_ble_eq_true rfl) ⟨Nat.zero_le _, Nat.zero_le _⟩ dX4_isBlank_2 (fun r_52 hr_52 => ?_)
  obtain ⟨r_52v, hr_52v, rfl⟩ := hr_52
  refine lv_iconst (v := nI 1) hx hb dX4_isBlank_5 (by decide) ?_
  cases r_52v
  · obtain ⟨i, hi, rfl⟩ : ∃ i : Nat, i < 4 ∧ x = nI i := Classical.byContradiction (fun q => Bool.noConfusion (hr_52v.mpr q))
    refine qI_V (A := A) (A1 := A) (b := am) (As := [.int (bI false), .int (nI 1)]) (rest := []) ⟨hx, hb, hml, hown, hts⟩ (mX4_start (A := A) (X := X) (P := P) (k := k) (xa := xa) (b := false) (w9 := 1) (by decide)) (cwV 2 hts (gV tw_4_206 tw_4_208 sel_X4_start tw_1_8 tw_4_209) rfl rfl rfl (by decide +kernel) ⟨Nat.le_of_ble_eq_true rfl, Nat.le_of_ble_eq_true rfl⟩) hC hS (fun _ h => h) (fun q h => hA q (Nat.le_trans hS.1 h)) (hW.recv hK) ⟨ra, pa, tx, hW⟩ rfl rfl hl.1 (Nat.le_of_ble_eq_true rfl) ⟨Nat.zero_le _, Nat.zero_le _⟩ dX4_isBlank_6 (fun rv53 H53 L53 hP53 hk53 hS => ?_)
    have hZ53 := hS.1
    obtain ⟨hr53, hM53⟩ := hP53
    subst hr53
    obtain ⟨ra, pa, tx, hW⟩ := hM53
    have hW : MWx G A am xa ra pa tx X P k (nI 0) H53 := hW
    have hO := hW.obj
    have hAm := hW.1
    refine f_ne (tgt := 30) hx hb dX4_isBlank_9 (by decide) (fun c_54 => ?_) (fun c_54 => ?_)
    · exact absurd c_54 (by decide)
    · refine lv_aload_n hx hb dX4_isBlank_12 rfl (lv_at hl 0 rfl) ?_
      refine va_get (D := G.1) (ci := 8) (C := RX4) (T := TX4) (N := 5) hx hb hts inX4 hown hK (at_P hO) 0 rfl rfl 1 (by decide) (hts _ tw_4_173) (fun _ h9 => h9) rfl dX4_isBlank_13 ?_
      refine lv_iload_n hx hb dX4_isBlank_16 rfl (lv_at hl 1 rfl) ?_
      refine h_aaldI (D := G.1) hx hb hK 4 hW.txs rfl (vp_in_nI (n := i) (N := 4) (by omega) (by omega)) dX4_isBlank_17 ?_
      refine v_cv (show va_rf _ = .ref (tx i) from by rw [nI_clamp (n := i) (by omega)]; rfl) ?_
      have hTi := (hW.tx (j := i) (by omega)).ia hC.2.1.2
      have x60i := hW.2.2.1 i (Or.inl (by omega))
      refine lv_iconst (v := nI 1) hx hb dX4_isBlank_18 (by decide) ?_
      have hra := hW.row.lt
      have i60 := x60i.2
      have ht0 := tbL_le true (X i)
      refine qR_S (A := A) (A1 := nw H53.size)  (As := [.ref (tx i), .int (bI true)]) (rest := []) ⟨hx, hb, hml, hown, hts⟩ (mX4_trimmed (A := nw H53.size) (sz := H53.size) (t := X i) (b := true) x60i.1 (by omega)) (va_cwS 2 hts (gS tw_5_9 tw_5_10 tw_1_8 tw_5_11) rfl rfl rfl (by decide +kernel) ⟨Nat.le_of_ble_eq_true rfl, Nat.le_of_ble_eq_true rfl⟩) hC hS (nw_in hA hS.1) nw_n  ⟨rfl, hTi⟩ rfl rfl hl.1 (Nat.le_of_ble_eq_true rfl) ⟨Nat.le_trans (show 0 + 1 ≤ 1 by omega) (Nat.le_of_ble_eq_true rfl), Nat.le_trans (show 0 + 61 ≤ 61 by omega) (Nat.le_of_ble_eq_true rfl)⟩ dX4_isBlank_19 (fun rv55 H55 L55 hP55 hk55 hS => ?_)
      have hZ55 := hS.1
      obtain ⟨hsz9, e9, he9, hR9⟩ := hP55
      have hW := hW.nw hk55
      have hR8 := hR9.ia hC.2.1.2
      have hcl := cutL_len (t := X i) (i := tbL true (X i)) (j := e9) he9.2.1
      have h12 := he9.1
      have h13 := he9.2.1
      refine h_ilen hx hb hC.2.1 hR8 dX4_isBlank_22 ?_
      refine z_ne (tgt := 30) hx hb dX4_isBlank_23 (by decide) (by omega) (fun c_56 => ?_) (fun c_56 => ?_)
      · refine lv_iconst (v := nI 0) hx hb dX4_isBlank_30 (by decide) ?_
        exact q_z (b9 := false) hx hb hr hlocks dX4_isBlank_31 hS (by omega) (by omega) (Or.inr (⟨i, hi, rfl, by rw [decide_eq_false (fun q => by omega)], ra, pa, tx, hW⟩))
      · refine lv_iconst (v := nI 1) hx hb dX4_isBlank_26 (by decide) ?_
        refine lv_goto (tgt := 31) hx hb dX4_isBlank_27 (by decide) ?_
        exact q_z (b9 := true) hx hb hr hlocks dX4_isBlank_31 hS (by omega) (by omega) (Or.inr (⟨i, hi, rfl, by rw [decide_eq_true (tbL_all he9 (by omega))], ra, pa, tx, hW⟩))
  · refine qI_V (A := A) (A1 := A) (b := am) (As := [.int (bI true), .int (nI 1)]) (rest := []) ⟨hx, hb, hml, hown, hts⟩ (mX4_start (A := A) (X := X) (P := P) (k := k) (xa := xa) (b := true) (w9 := 1) (by decide)) (cwV 2 hts (gV tw_4_206 tw_4_208 sel_X4_start tw_1_8 tw_4_209) rfl rfl rfl (by decide +kernel) ⟨Nat.le_of_ble_eq_true rfl, Nat.le_of_ble_eq_true rfl⟩) hC hS (fun _ h => h) (fun q h => hA q (Nat.le_trans hS.1 h)) (hW.recv hK) ⟨ra, pa, tx, hW⟩ rfl rfl hl.1 (Nat.le_of_ble_eq_true rfl) ⟨Nat.zero_le _, Nat.zero_le _⟩ dX4_isBlank_6 (fun rv57 H57 L57 hP57 hk57 hS => ?_)
    have hZ57 := hS.1
    obtain ⟨hr57, hM57⟩ := hP57
    subst hr57
    obtain ⟨ra, pa, tx, hW⟩ := hM57
    have hW : MWx G A am xa ra pa tx X P k (nI 1) H57 := hW
    have hO := hW.obj
    have hAm := hW.1
    refine f_ne (tgt := 30) hx hb dX4_isBlank_9 (by decide) (fun c_58 => ?_) (fun c_58 => ?_)
    · refine lv_iconst (v := nI 0) hx hb dX4_isBlank_30 (by decide) ?_
      exact q_z (b9 := false) hx hb hr hlocks dX4_isBlank_31 hS (by omega) (by omega) (Or.inl ⟨(hr_52v.mp rfl), rfl, ra, pa, tx, hW⟩)
    · exact absurd c_58 (by decide)
