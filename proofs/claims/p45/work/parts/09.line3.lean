/-! Line, 3: readers of two lines -/
/-- u stands in t at i -/
def stL (b : Bool) (t u : List Nat) (i : Nat) : Prop := i + u.length ≤ t.length ∧ ∀ k : Nat, k < u.length → viewN b (t.getD (i + k) 0) = viewN b (u.getD k 0)
def ordR (b : Bool) (t u : List Nat) (r : Int32) : Prop := (∃ k, k < t.length ∧ k < u.length ∧ (∀ j, j < k → viewN b (t.getD j 0) = viewN b (u.getD j 0)) ∧ viewN b (t.getD k 0) ≠ viewN b (u.getD k 0) ∧ r = nI (viewN b (t.getD k 0)) - nI (viewN b (u.getD k 0))) ∨ ((∀ k, k < t.length → k < u.length → viewN b (t.getD k 0) = viewN b (u.getD k 0)) ∧ r = nI t.length - nI u.length)
theorem subI {a b : Nat} (ha : a < 2 ^ 30) (hb : b < 2 ^ 30) : (nI a - nI b).toInt = (a : Int) - b := by
  rw [Int32.toInt_sub, nI_toInt (by omega), nI_toInt (by omega), Int.bmod_eq_of_le]
  · omega
  · omega
theorem subI_le {i a b : Nat} (hi : i < 2 ^ 31) (ha : a < 2 ^ 30) (hb : b < 2 ^ 30) : nI i ≤ nI a - nI b ↔ i + b ≤ a := by
  rw [Int32.le_iff_toInt_le, subI ha hb, nI_toInt (by omega)]; omega
theorem subI_gt {i a b : Nat} (hi : i < 2 ^ 31) (ha : a < 2 ^ 30) (hb : b < 2 ^ 30) (h : nI a - nI b < nI i) : ¬ i + b ≤ a := by
  rw [Int32.lt_iff_toInt_lt, subI ha hb, nI_toInt (by omega)] at h; omega
theorem subI_ngt {i a b : Nat} (hi : i < 2 ^ 31) (ha : a < 2 ^ 30) (hb : b < 2 ^ 30) (h : ¬ nI a - nI b < nI i) : i + b ≤ a := by
  rw [Int32.lt_iff_toInt_lt, subI ha hb, nI_toInt (by omega)] at h; omega
theorem subI_neg {a b : Nat} (ha : a < 2 ^ 30) (hb : b < 2 ^ 30) (h : a < b) : nI a - nI b < 0 := by
  rw [Int32.lt_iff_toInt_lt, subI ha hb]
  show (a : Int) - b < 0
  omega
theorem subI_0 {a b : Nat} (ha : a < 2 ^ 30) (hb : b < 2 ^ 30) : nI a - nI b = 0 ↔ a = b := by
  rw [← Int32.toInt_inj, subI ha hb]
  show (a : Int) - b = 0 ↔ a = b
  omega
theorem nI_nm1 {k : Nat} (h : k < 2 ^ 31) : ¬ nI k = -1 := fun q => by
  have q2 := congrArg Int32.toInt q
  rw [nI_toInt h] at q2
  have q3 : ((-1 : Int32)).toInt = -1 := by decide
  rw [q3] at q2; omega
theorem dX0_standsAt_0 : decode cX0_standsAt 0 = .ok (.iload_n 2, 1) := by decide +kernel
theorem dX0_standsAt_1 : decode cX0_standsAt 1 = .ok (.ifCond .lt 16, 3) := by decide +kernel
theorem dX0_standsAt_4 : decode cX0_standsAt 4 = .ok (.iload_n 2, 1) := by decide +kernel
theorem dX0_standsAt_5 : decode cX0_standsAt 5 = .ok (.aload_n 0, 1) := by decide +kernel
theorem dX0_standsAt_6 : decode cX0_standsAt 6 = .ok (.getfield 15, 3) := by decide +kernel
theorem dX0_standsAt_9 : decode cX0_standsAt 9 = .ok (.aload_n 1, 1) := by decide +kernel
theorem dX0_standsAt_10 : decode cX0_standsAt 10 = .ok (.invokevirtual 27, 3) := by decide +kernel
theorem dX0_standsAt_13 : decode cX0_standsAt 13 = .ok (.isub, 1) := by decide +kernel
theorem dX0_standsAt_14 : decode cX0_standsAt 14 = .ok (.if_icmp .le 5, 3) := by decide +kernel
theorem dX0_standsAt_17 : decode cX0_standsAt 17 = .ok (.iconst 0, 1) := by decide +kernel
theorem dX0_standsAt_18 : decode cX0_standsAt 18 = .ok (.ireturn, 1) := by decide +kernel
theorem dX0_standsAt_19 : decode cX0_standsAt 19 = .ok (.iconst 0, 1) := by decide +kernel
theorem dX0_standsAt_20 : decode cX0_standsAt 20 = .ok (.istore 4, 2) := by decide +kernel
theorem dX0_standsAt_22 : decode cX0_standsAt 22 = .ok (.iload 4, 2) := by decide +kernel
theorem dX0_standsAt_24 : decode cX0_standsAt 24 = .ok (.aload_n 1, 1) := by decide +kernel
theorem dX0_standsAt_25 : decode cX0_standsAt 25 = .ok (.invokevirtual 27, 3) := by decide +kernel
theorem dX0_standsAt_28 : decode cX0_standsAt 28 = .ok (.if_icmp .ge 36, 3) := by decide +kernel
theorem dX0_standsAt_31 : decode cX0_standsAt 31 = .ok (.aload_n 0, 1) := by decide +kernel
theorem dX0_standsAt_32 : decode cX0_standsAt 32 = .ok (.iload_n 2, 1) := by decide +kernel
theorem dX0_standsAt_33 : decode cX0_standsAt 33 = .ok (.iload 4, 2) := by decide +kernel
theorem dX0_standsAt_35 : decode cX0_standsAt 35 = .ok (.iadd, 1) := by decide +kernel
theorem dX0_standsAt_36 : decode cX0_standsAt 36 = .ok (.invokevirtual 19, 3) := by decide +kernel
theorem dX0_standsAt_39 : decode cX0_standsAt 39 = .ok (.iload_n 3, 1) := by decide +kernel
theorem dX0_standsAt_40 : decode cX0_standsAt 40 = .ok (.invokestatic 64, 3) := by decide +kernel
theorem dX0_standsAt_43 : decode cX0_standsAt 43 = .ok (.aload_n 1, 1) := by decide +kernel
theorem dX0_standsAt_44 : decode cX0_standsAt 44 = .ok (.iload 4, 2) := by decide +kernel
theorem dX0_standsAt_46 : decode cX0_standsAt 46 = .ok (.invokevirtual 19, 3) := by decide +kernel
theorem dX0_standsAt_49 : decode cX0_standsAt 49 = .ok (.iload_n 3, 1) := by decide +kernel
theorem dX0_standsAt_50 : decode cX0_standsAt 50 = .ok (.invokestatic 64, 3) := by decide +kernel
theorem dX0_standsAt_53 : decode cX0_standsAt 53 = .ok (.if_icmp .eq 5, 3) := by decide +kernel
theorem dX0_standsAt_56 : decode cX0_standsAt 56 = .ok (.iconst 0, 1) := by decide +kernel
theorem dX0_standsAt_57 : decode cX0_standsAt 57 = .ok (.ireturn, 1) := by decide +kernel
theorem dX0_standsAt_58 : decode cX0_standsAt 58 = .ok (.iinc 4 1, 3) := by decide +kernel
theorem dX0_standsAt_61 : decode cX0_standsAt 61 = .ok (.goto (-39), 3) := by decide +kernel
theorem dX0_standsAt_64 : decode cX0_standsAt 64 = .ok (.iconst 1, 1) := by decide +kernel
theorem dX0_standsAt_65 : decode cX0_standsAt 65 = .ok (.ireturn, 1) := by decide +kernel
theorem dX0_firstPlaceOf_0 : decode cX0_firstPlaceOf 0 = .ok (.iconst 0, 1) := by decide +kernel
theorem dX0_firstPlaceOf_1 : decode cX0_firstPlaceOf 1 = .ok (.istore_n 2, 1) := by decide +kernel
theorem dX0_firstPlaceOf_2 : decode cX0_firstPlaceOf 2 = .ok (.iload_n 2, 1) := by decide +kernel
theorem dX0_firstPlaceOf_3 : decode cX0_firstPlaceOf 3 = .ok (.aload_n 0, 1) := by decide +kernel
theorem dX0_firstPlaceOf_4 : decode cX0_firstPlaceOf 4 = .ok (.getfield 15, 3) := by decide +kernel
theorem dX0_firstPlaceOf_7 : decode cX0_firstPlaceOf 7 = .ok (.aload_n 1, 1) := by decide +kernel
theorem dX0_firstPlaceOf_8 : decode cX0_firstPlaceOf 8 = .ok (.invokevirtual 27, 3) := by decide +kernel
theorem dX0_firstPlaceOf_11 : decode cX0_firstPlaceOf 11 = .ok (.isub, 1) := by decide +kernel
theorem dX0_firstPlaceOf_12 : decode cX0_firstPlaceOf 12 = .ok (.if_icmp .gt 21, 3) := by decide +kernel
theorem dX0_firstPlaceOf_15 : decode cX0_firstPlaceOf 15 = .ok (.aload_n 0, 1) := by decide +kernel
theorem dX0_firstPlaceOf_16 : decode cX0_firstPlaceOf 16 = .ok (.aload_n 1, 1) := by decide +kernel
theorem dX0_firstPlaceOf_17 : decode cX0_firstPlaceOf 17 = .ok (.iload_n 2, 1) := by decide +kernel
theorem dX0_firstPlaceOf_18 : decode cX0_firstPlaceOf 18 = .ok (.iconst 0, 1) := by decide +kernel
theorem dX0_firstPlaceOf_19 : decode cX0_firstPlaceOf 19 = .ok (.invokevirtual 68, 3) := by decide +kernel
theorem dX0_firstPlaceOf_22 : decode cX0_firstPlaceOf 22 = .ok (.ifCond .eq 5, 3) := by decide +kernel
theorem dX0_firstPlaceOf_25 : decode cX0_firstPlaceOf 25 = .ok (.iload_n 2, 1) := by decide +kernel
theorem dX0_firstPlaceOf_26 : decode cX0_firstPlaceOf 26 = .ok (.ireturn, 1) := by decide +kernel
theorem dX0_firstPlaceOf_27 : decode cX0_firstPlaceOf 27 = .ok (.iinc 2 1, 3) := by decide +kernel
theorem dX0_firstPlaceOf_30 : decode cX0_firstPlaceOf 30 = .ok (.goto (-28), 3) := by decide +kernel
theorem dX0_firstPlaceOf_33 : decode cX0_firstPlaceOf 33 = .ok (.iconst (-1), 1) := by decide +kernel
theorem dX0_firstPlaceOf_34 : decode cX0_firstPlaceOf 34 = .ok (.ireturn, 1) := by decide +kernel
theorem dX0_lastPlaceOf_0 : decode cX0_lastPlaceOf 0 = .ok (.aload_n 0, 1) := by decide +kernel
theorem dX0_lastPlaceOf_1 : decode cX0_lastPlaceOf 1 = .ok (.getfield 15, 3) := by decide +kernel
theorem dX0_lastPlaceOf_4 : decode cX0_lastPlaceOf 4 = .ok (.aload_n 1, 1) := by decide +kernel
theorem dX0_lastPlaceOf_5 : decode cX0_lastPlaceOf 5 = .ok (.invokevirtual 27, 3) := by decide +kernel
theorem dX0_lastPlaceOf_8 : decode cX0_lastPlaceOf 8 = .ok (.isub, 1) := by decide +kernel
theorem dX0_lastPlaceOf_9 : decode cX0_lastPlaceOf 9 = .ok (.istore_n 2, 1) := by decide +kernel
theorem dX0_lastPlaceOf_10 : decode cX0_lastPlaceOf 10 = .ok (.iload_n 2, 1) := by decide +kernel
theorem dX0_lastPlaceOf_11 : decode cX0_lastPlaceOf 11 = .ok (.ifCond .lt 21, 3) := by decide +kernel
theorem dX0_lastPlaceOf_14 : decode cX0_lastPlaceOf 14 = .ok (.aload_n 0, 1) := by decide +kernel
theorem dX0_lastPlaceOf_15 : decode cX0_lastPlaceOf 15 = .ok (.aload_n 1, 1) := by decide +kernel
theorem dX0_lastPlaceOf_16 : decode cX0_lastPlaceOf 16 = .ok (.iload_n 2, 1) := by decide +kernel
theorem dX0_lastPlaceOf_17 : decode cX0_lastPlaceOf 17 = .ok (.iconst 0, 1) := by decide +kernel
theorem dX0_lastPlaceOf_18 : decode cX0_lastPlaceOf 18 = .ok (.invokevirtual 68, 3) := by decide +kernel
theorem dX0_lastPlaceOf_21 : decode cX0_lastPlaceOf 21 = .ok (.ifCond .eq 5, 3) := by decide +kernel
theorem dX0_lastPlaceOf_24 : decode cX0_lastPlaceOf 24 = .ok (.iload_n 2, 1) := by decide +kernel
theorem dX0_lastPlaceOf_25 : decode cX0_lastPlaceOf 25 = .ok (.ireturn, 1) := by decide +kernel
theorem dX0_lastPlaceOf_26 : decode cX0_lastPlaceOf 26 = .ok (.iinc 2 (-1), 3) := by decide +kernel
theorem dX0_lastPlaceOf_29 : decode cX0_lastPlaceOf 29 = .ok (.goto (-19), 3) := by decide +kernel
theorem dX0_lastPlaceOf_32 : decode cX0_lastPlaceOf 32 = .ok (.iconst (-1), 1) := by decide +kernel
theorem dX0_lastPlaceOf_33 : decode cX0_lastPlaceOf 33 = .ok (.ireturn, 1) := by decide +kernel
theorem dX0_holds_0 : decode cX0_holds 0 = .ok (.aload_n 0, 1) := by decide +kernel
theorem dX0_holds_1 : decode cX0_holds 1 = .ok (.aload_n 1, 1) := by decide +kernel
theorem dX0_holds_2 : decode cX0_holds 2 = .ok (.invokevirtual 72, 3) := by decide +kernel
theorem dX0_holds_5 : decode cX0_holds 5 = .ok (.iconst (-1), 1) := by decide +kernel
theorem dX0_holds_6 : decode cX0_holds 6 = .ok (.if_icmp .eq 7, 3) := by decide +kernel
theorem dX0_holds_9 : decode cX0_holds 9 = .ok (.iconst 1, 1) := by decide +kernel
theorem dX0_holds_10 : decode cX0_holds 10 = .ok (.goto 4, 3) := by decide +kernel
theorem dX0_holds_13 : decode cX0_holds 13 = .ok (.iconst 0, 1) := by decide +kernel
theorem dX0_holds_14 : decode cX0_holds 14 = .ok (.ireturn, 1) := by decide +kernel
theorem dX0_isSameAs_0 : decode cX0_isSameAs 0 = .ok (.aload_n 0, 1) := by decide +kernel
theorem dX0_isSameAs_1 : decode cX0_isSameAs 1 = .ok (.getfield 15, 3) := by decide +kernel
theorem dX0_isSameAs_4 : decode cX0_isSameAs 4 = .ok (.aload_n 1, 1) := by decide +kernel
theorem dX0_isSameAs_5 : decode cX0_isSameAs 5 = .ok (.invokevirtual 27, 3) := by decide +kernel
theorem dX0_isSameAs_8 : decode cX0_isSameAs 8 = .ok (.if_icmp .ne 17, 3) := by decide +kernel
theorem dX0_isSameAs_11 : decode cX0_isSameAs 11 = .ok (.aload_n 0, 1) := by decide +kernel
theorem dX0_isSameAs_12 : decode cX0_isSameAs 12 = .ok (.aload_n 1, 1) := by decide +kernel
theorem dX0_isSameAs_13 : decode cX0_isSameAs 13 = .ok (.iconst 0, 1) := by decide +kernel
theorem dX0_isSameAs_14 : decode cX0_isSameAs 14 = .ok (.iload_n 2, 1) := by decide +kernel
theorem dX0_isSameAs_15 : decode cX0_isSameAs 15 = .ok (.invokevirtual 68, 3) := by decide +kernel
theorem dX0_isSameAs_18 : decode cX0_isSameAs 18 = .ok (.ifCond .eq 7, 3) := by decide +kernel
theorem dX0_isSameAs_21 : decode cX0_isSameAs 21 = .ok (.iconst 1, 1) := by decide +kernel
theorem dX0_isSameAs_22 : decode cX0_isSameAs 22 = .ok (.goto 4, 3) := by decide +kernel
theorem dX0_isSameAs_25 : decode cX0_isSameAs 25 = .ok (.iconst 0, 1) := by decide +kernel
theorem dX0_isSameAs_26 : decode cX0_isSameAs 26 = .ok (.ireturn, 1) := by decide +kernel
theorem dX0_orderTo_0 : decode cX0_orderTo 0 = .ok (.iconst 0, 1) := by decide +kernel
theorem dX0_orderTo_1 : decode cX0_orderTo 1 = .ok (.istore_n 3, 1) := by decide +kernel
theorem dX0_orderTo_2 : decode cX0_orderTo 2 = .ok (.iload_n 3, 1) := by decide +kernel
theorem dX0_orderTo_3 : decode cX0_orderTo 3 = .ok (.aload_n 0, 1) := by decide +kernel
theorem dX0_orderTo_4 : decode cX0_orderTo 4 = .ok (.getfield 15, 3) := by decide +kernel
theorem dX0_orderTo_7 : decode cX0_orderTo 7 = .ok (.if_icmp .ge 47, 3) := by decide +kernel
theorem dX0_orderTo_10 : decode cX0_orderTo 10 = .ok (.iload_n 3, 1) := by decide +kernel
theorem dX0_orderTo_11 : decode cX0_orderTo 11 = .ok (.aload_n 1, 1) := by decide +kernel
theorem dX0_orderTo_12 : decode cX0_orderTo 12 = .ok (.invokevirtual 27, 3) := by decide +kernel
theorem dX0_orderTo_15 : decode cX0_orderTo 15 = .ok (.if_icmp .ge 39, 3) := by decide +kernel
theorem dX0_orderTo_18 : decode cX0_orderTo 18 = .ok (.aload_n 0, 1) := by decide +kernel
theorem dX0_orderTo_19 : decode cX0_orderTo 19 = .ok (.getfield 9, 3) := by decide +kernel
theorem dX0_orderTo_22 : decode cX0_orderTo 22 = .ok (.iload_n 3, 1) := by decide +kernel
theorem dX0_orderTo_23 : decode cX0_orderTo 23 = .ok (.caload, 1) := by decide +kernel
theorem dX0_orderTo_24 : decode cX0_orderTo 24 = .ok (.iload_n 2, 1) := by decide +kernel
theorem dX0_orderTo_25 : decode cX0_orderTo 25 = .ok (.invokestatic 64, 3) := by decide +kernel
theorem dX0_orderTo_28 : decode cX0_orderTo 28 = .ok (.aload_n 1, 1) := by decide +kernel
theorem dX0_orderTo_29 : decode cX0_orderTo 29 = .ok (.iload_n 3, 1) := by decide +kernel
theorem dX0_orderTo_30 : decode cX0_orderTo 30 = .ok (.invokevirtual 19, 3) := by decide +kernel
theorem dX0_orderTo_33 : decode cX0_orderTo 33 = .ok (.iload_n 2, 1) := by decide +kernel
theorem dX0_orderTo_34 : decode cX0_orderTo 34 = .ok (.invokestatic 64, 3) := by decide +kernel
theorem dX0_orderTo_37 : decode cX0_orderTo 37 = .ok (.isub, 1) := by decide +kernel
theorem dX0_orderTo_38 : decode cX0_orderTo 38 = .ok (.istore 4, 2) := by decide +kernel
theorem dX0_orderTo_40 : decode cX0_orderTo 40 = .ok (.iload 4, 2) := by decide +kernel
theorem dX0_orderTo_42 : decode cX0_orderTo 42 = .ok (.ifCond .eq 6, 3) := by decide +kernel
theorem dX0_orderTo_45 : decode cX0_orderTo 45 = .ok (.iload 4, 2) := by decide +kernel
theorem dX0_orderTo_47 : decode cX0_orderTo 47 = .ok (.ireturn, 1) := by decide +kernel
theorem dX0_orderTo_48 : decode cX0_orderTo 48 = .ok (.iinc 3 1, 3) := by decide +kernel
theorem dX0_orderTo_51 : decode cX0_orderTo 51 = .ok (.goto (-49), 3) := by decide +kernel
theorem dX0_orderTo_54 : decode cX0_orderTo 54 = .ok (.aload_n 0, 1) := by decide +kernel
theorem dX0_orderTo_55 : decode cX0_orderTo 55 = .ok (.getfield 15, 3) := by decide +kernel
theorem dX0_orderTo_58 : decode cX0_orderTo 58 = .ok (.aload_n 1, 1) := by decide +kernel
theorem dX0_orderTo_59 : decode cX0_orderTo 59 = .ok (.invokevirtual 27, 3) := by decide +kernel
theorem dX0_orderTo_62 : decode cX0_orderTo 62 = .ok (.isub, 1) := by decide +kernel
theorem dX0_orderTo_63 : decode cX0_orderTo 63 = .ok (.ireturn, 1) := by decide +kernel
abbrev rmX0_standsAt : Room := { frames := 2, cells := 0, slots := 0, locals := 41 }
theorem mX0_standsAt {l : Launch} {G : Cx} {A : Nat → Prop} {a ca b cb : Nat} {t u : List Nat} {b0 : Bool} {i : Nat} (hi : i < 2 ^ 31) : Met l yX0_standsAt (.code yX0_standsAt cX0_standsAt 5 (some .boolean) :: GW) rmX0_standsAt (PC G A [.ref a, .ref b, .int (nI i), .int (bI b0)] (fun H => LA G a ca t H ∧ LA G b cb u H)) (vp_Si (fun r => ∃ v : Bool, (v = true ↔ stL b0 t u i) ∧ r = bI v)) 0 0 (fun _ => False) := by
  refine mstart "Signtext$Line" (by decide +kernel) rfl (Nat.le_of_ble_eq_true rfl) ?_
  intro p e s m below meth c ls hx hb hr hts hown hml hlocks hname hC hA hW hl
  have hl : lv_has ls 5 [(0, .ref a), (1, .ref b), (2, .int (nI i)), (3, .int (bI b0))] := hl
  have hK := hC.1
  have hS : va_S A s.heap s.heap [] := va_S.rf
  obtain ⟨hWa, hWb⟩ := hW
  have hq9 := hWa
  obtain ⟨t60, tok, tne, hO, f, hF, hf⟩ := hq9
  have u60 := hWb.1
  have uok := hWb.2.1
  refine lv_iload_n hx hb dX0_standsAt_0 rfl (lv_at hl 2 rfl) ?_
  refine z_lt (tgt := 17) hx hb dX0_standsAt_1 (by decide) (by omega) ?_
  refine lv_iload_n hx hb dX0_standsAt_4 rfl (lv_at hl 2 rfl) ?_
  refine lv_aload_n hx hb dX0_standsAt_5 rfl (lv_at hl 0 rfl) ?_
  refine va_get (D := G.1) (ci := 4) (C := RX0) (T := TX0) (N := 2) hx hb hts inX0 hown hK (at_P hO) 0 rfl rfl 1 (by decide) (hts _ tw_1_45) (fun _ h9 => h9) rfl dX0_standsAt_6 ?_
  refine lv_aload_n hx hb dX0_standsAt_9 rfl (lv_at hl 1 rfl) ?_
  refine kV_i (A := A) (b := b) (As := []) (rest := .int (nI t.length) :: .int (nI i) :: []) ⟨hx, hb, hml, hown, hts⟩ (mX0_size (A := A) (ca := cb)) (cwV 0 hts (gV tw_2_11 tw_2_12 tw_2_13 tw_1_2 tw_2_14) rfl rfl rfl (by decide +kernel) ⟨Nat.le_of_ble_eq_true rfl, Nat.le_of_ble_eq_true rfl⟩) hC hS hA (hWb.recv hK) hWb rfl rfl hl.1 (Nat.le_of_ble_eq_true rfl) ⟨Nat.zero_le _, Nat.zero_le _⟩ dX0_standsAt_10 (fun r9 h9 => lv_cv h9 ?_)
  refine lv_isub hx hb dX0_standsAt_13 ?_
  refine lv_icmp_le (tgt := 19) hx hb dX0_standsAt_14 (by decide) (fun c_2 => ?_) (fun c_2 => ?_)
  · have c7 : i + u.length ≤ t.length := (subI_le (by omega) (by omega) (by omega)).mp c_2
    refine lv_iconst (v := nI 0) hx hb dX0_standsAt_19 (by decide) ?_
    refine lv_istore (lv' := [(4, .int (nI 0)), (0, .ref a), (1, .ref b), (2, .int (nI i)), (3, .int (bI b0))]) hx hb dX0_standsAt_20 hl (by decide) rfl (fun ls hl => ?_)
    refine nloop (P := fun j => ∀ (ls : Array Slot) , lv_has ls 5 [(4, .int (nI j)), (0, .ref a), (1, .ref b), (2, .int (nI i)), (3, .int (bI b0))] → (∀ k : Nat, k < j → viewN b0 (t.getD (i + k) 0) = viewN b0 (u.getD k 0)) → W p l e rmX0_standsAt s m [.ref a, .ref b, .int (nI i), .int (bI b0)].toArray below meth c s.heap [] 0 0 (MQ below (vp_Si (fun r => ∃ v : Bool, (v = true ↔ stL b0 t u i) ∧ r = bI v)) [.ref a, .ref b, .int (nI i), .int (bI b0)].toArray s 0 0 (fun _ => False)) (F0 m 22 ls [])) u.length ?_ 0 (Nat.zero_le _) ls  hl (fun k hk => absurd hk (Nat.not_lt_zero k))
    clear hl
    intro j hj ih ls  hl
    intro hg
    refine lv_iload hx hb dX0_standsAt_22 (lv_at hl 0 rfl) ?_
    refine lv_aload_n hx hb dX0_standsAt_24 rfl (lv_at hl 2 rfl) ?_
    refine kV_i (A := A) (b := b) (As := []) (rest := .int (nI j) :: []) ⟨hx, hb, hml, hown, hts⟩ (mX0_size (A := A) (ca := cb)) (cwV 0 hts (gV tw_2_11 tw_2_12 tw_2_13 tw_1_2 tw_2_14) rfl rfl rfl (by decide +kernel) ⟨Nat.le_of_ble_eq_true rfl, Nat.le_of_ble_eq_true rfl⟩) hC hS hA (hWb.recv hK) hWb rfl rfl hl.1 (Nat.le_of_ble_eq_true rfl) ⟨Nat.zero_le _, Nat.zero_le _⟩ dX0_standsAt_25 (fun r9 h9 => lv_cv h9 ?_)
    refine b_ge (tgt := 64) hx hb dX0_standsAt_28 (by decide) (by omega) (by omega) (fun c_3 => ?_) (fun c_3 => ?_)
    · refine lv_iconst (v := nI 1) hx hb dX0_standsAt_64 (by decide) ?_
      exact p_z (b := true) hx hb hr hlocks dX0_standsAt_65 ⟨true, ⟨fun _ => ⟨c7, fun k hk => hg k (by omega)⟩, fun _ => rfl⟩, rfl⟩
    · refine lv_aload_n hx hb dX0_standsAt_31 rfl (lv_at hl 1 rfl) ?_
      refine lv_iload_n hx hb dX0_standsAt_32 rfl (lv_at hl 3 rfl) ?_
      refine lv_iload hx hb dX0_standsAt_33 (lv_at hl 0 rfl) ?_
      refine lv_iadd hx hb dX0_standsAt_35 ?_
      refine lv_cv (nI_add i j) ?_
      refine kV_i (A := A) (b := a) (As := [.int (nI (i + j))]) (rest := []) ⟨hx, hb, hml, hown, hts⟩ (mX0_codeAt (A := A) (ca := ca) (i := i + j) (by omega)) (cwV 1 hts (gV tw_2_19 tw_2_20 tw_2_21 tw_1_2 tw_2_22) rfl rfl rfl (by decide +kernel) ⟨Nat.le_of_ble_eq_true rfl, Nat.le_of_ble_eq_true rfl⟩) hC hS hA (hWa.recv hK) hWa rfl rfl hl.1 (Nat.le_of_ble_eq_true rfl) ⟨Nat.zero_le _, Nat.zero_le _⟩ dX0_standsAt_36 (fun r9 h9 => lv_cv h9 ?_)
      refine lv_iload_n hx hb dX0_standsAt_39 rfl (lv_at hl 4 rfl) ?_
      refine kS_i (A := A) (As := [.int (nI (t.getD (i + j) 0)), .int (bI b0)]) (rest := []) ⟨hx, hb, hml, hown, hts⟩ (mX0_seen (A := A) (tok _)) (va_cwS 2 hts (gS tw_2_23 tw_2_24 tw_1_2 tw_2_25) rfl rfl rfl (by decide +kernel) ⟨Nat.le_of_ble_eq_true rfl, Nat.le_of_ble_eq_true rfl⟩) hC hS hA  trivial rfl rfl hl.1 (Nat.le_of_ble_eq_true rfl) ⟨Nat.zero_le _, Nat.zero_le _⟩ dX0_standsAt_40 (fun r9 h9 => lv_cv h9 ?_)
      refine lv_aload_n hx hb dX0_standsAt_43 rfl (lv_at hl 2 rfl) ?_
      refine lv_iload hx hb dX0_standsAt_44 (lv_at hl 0 rfl) ?_
      refine kV_i (A := A) (b := b) (As := [.int (nI j)]) (rest := .int (nI (viewN b0 (t.getD (i + j) 0))) :: []) ⟨hx, hb, hml, hown, hts⟩ (mX0_codeAt (A := A) (ca := cb) (i := j) (by omega)) (cwV 1 hts (gV tw_2_19 tw_2_20 tw_2_21 tw_1_2 tw_2_22) rfl rfl rfl (by decide +kernel) ⟨Nat.le_of_ble_eq_true rfl, Nat.le_of_ble_eq_true rfl⟩) hC hS hA (hWb.recv hK) hWb rfl rfl hl.1 (Nat.le_of_ble_eq_true rfl) ⟨Nat.zero_le _, Nat.zero_le _⟩ dX0_standsAt_46 (fun r9 h9 => lv_cv h9 ?_)
      refine lv_iload_n hx hb dX0_standsAt_49 rfl (lv_at hl 4 rfl) ?_
      refine kS_i (A := A) (As := [.int (nI (u.getD j 0)), .int (bI b0)]) (rest := .int (nI (viewN b0 (t.getD (i + j) 0))) :: []) ⟨hx, hb, hml, hown, hts⟩ (mX0_seen (A := A) (uok _)) (va_cwS 2 hts (gS tw_2_23 tw_2_24 tw_1_2 tw_2_25) rfl rfl rfl (by decide +kernel) ⟨Nat.le_of_ble_eq_true rfl, Nat.le_of_ble_eq_true rfl⟩) hC hS hA  trivial rfl rfl hl.1 (Nat.le_of_ble_eq_true rfl) ⟨Nat.zero_le _, Nat.zero_le _⟩ dX0_standsAt_50 (fun r9 h9 => lv_cv h9 ?_)
      have v1 := viewN_lt (b := b0) (tok (i + j))
      have v2 := viewN_lt (b := b0) (uok j)
      refine b_eq (tgt := 58) hx hb dX0_standsAt_53 (by decide) (by omega) (by omega) (fun c_4 => ?_) (fun c_4 => ?_)
      · refine lv_iinc (v := nI (j + 1)) (lv' := [(4, .int (nI (j + 1))), (0, .ref a), (1, .ref b), (2, .int (nI i)), (3, .int (bI b0))]) hx hb dX0_standsAt_58 hl (k := 0) rfl (nI_add j 1) (by decide) rfl (fun ls hl => ?_)
        refine lv_goto (tgt := 22) hx hb dX0_standsAt_61 (by decide) ?_
        exact ih (j + 1) (by omega) (by omega) ls hl (fun k hk => by rcases Nat.lt_succ_iff_lt_or_eq.mp hk with q | q; exact hg k q; rw [q]; exact c_4)
      · refine lv_iconst (v := nI 0) hx hb dX0_standsAt_56 (by decide) ?_
        exact p_z (b := false) hx hb hr hlocks dX0_standsAt_57 ⟨false, ⟨fun q => Bool.noConfusion q, fun q => absurd (q.2 j (by omega)) c_4⟩, rfl⟩
  · have c7 : ¬ i + u.length ≤ t.length := fun q => c_2 ((subI_le (by omega) (by omega) (by omega)).mpr q)
    refine lv_iconst (v := nI 0) hx hb dX0_standsAt_17 (by decide) ?_
    exact p_z (b := false) hx hb hr hlocks dX0_standsAt_18 ⟨false, ⟨fun q => Bool.noConfusion q, fun q => absurd q.1 c7⟩, rfl⟩

theorem mX0_standsAt_n {l : Launch} {G : Cx} {A : Nat → Prop} {a ca b cb : Nat} {t u : List Nat} {b0 : Bool} {x : Int32} (hx0 : x < 0) : Met l yX0_standsAt (.code yX0_standsAt cX0_standsAt 5 (some .boolean) :: GW) rmX0_standsAt (PC G A [.ref a, .ref b, .int x, .int (bI b0)] (fun H => LA G a ca t H ∧ LA G b cb u H)) (vp_Si (fun r => r = bI false)) 0 0 (fun _ => False) := by
  refine mstart "Signtext$Line" (by decide +kernel) rfl (Nat.le_of_ble_eq_true rfl) ?_
  intro p e s m below meth c ls hx hb hr hts hown hml hlocks hname hC hA hW hl
  have hl : lv_has ls 5 [(0, .ref a), (1, .ref b), (2, .int x), (3, .int (bI b0))] := hl
  have hK := hC.1
  have hS : va_S A s.heap s.heap [] := va_S.rf
  refine lv_iload_n hx hb dX0_standsAt_0 rfl (lv_at hl 2 rfl) ?_
  refine lv_if_lt (tgt := 17) hx hb dX0_standsAt_1 (by decide) (fun c_5 => ?_) (fun c_5 => ?_)
  · refine lv_iconst (v := nI 0) hx hb dX0_standsAt_17 (by decide) ?_
    exact p_z (b := false) hx hb hr hlocks dX0_standsAt_18 rfl
  · exact absurd hx0 c_5

abbrev rmX0_firstPlaceOf : Room := { frames := 3, cells := 0, slots := 0, locals := 65 }
theorem mX0_firstPlaceOf {l : Launch} {G : Cx} {A : Nat → Prop} {a ca b cb : Nat} {t u : List Nat} : Met l yX0_firstPlaceOf (.code yX0_firstPlaceOf cX0_firstPlaceOf 3 (some .int) :: GW) rmX0_firstPlaceOf (PC G A [.ref a, .ref b] (fun H => LA G a ca t H ∧ LA G b cb u H)) (vp_Si (fstR (fun k => stL false t u k))) 0 0 (fun _ => False) := by
  refine mstart "Signtext$Line" (by decide +kernel) rfl (Nat.le_of_ble_eq_true rfl) ?_
  intro p e s m below meth c ls hx hb hr hts hown hml hlocks hname hC hA hW hl
  have hl : lv_has ls 3 [(0, .ref a), (1, .ref b)] := hl
  have hK := hC.1
  have hS : va_S A s.heap s.heap [] := va_S.rf
  obtain ⟨hWa, hWb⟩ := hW
  have hq9 := hWa
  obtain ⟨t60, tok, tne, hO, f, hF, hf⟩ := hq9
  have u60 := hWb.1
  have uok := hWb.2.1
  refine lv_iconst (v := nI 0) hx hb dX0_firstPlaceOf_0 (by decide) ?_
  refine lv_istore_n (lv' := [(2, .int (nI 0)), (0, .ref a), (1, .ref b)]) hx hb dX0_firstPlaceOf_1 rfl hl (by decide) rfl (fun ls hl => ?_)
  refine nloop (P := fun j => ∀ (ls : Array Slot) , lv_has ls 3 [(2, .int (nI j)), (0, .ref a), (1, .ref b)] → (∀ k : Nat, k < j → ¬ stL false t u k) → W p l e rmX0_firstPlaceOf s m [.ref a, .ref b].toArray below meth c s.heap [] 0 0 (MQ below (vp_Si (fstR (fun k => stL false t u k))) [.ref a, .ref b].toArray s 0 0 (fun _ => False)) (F0 m 2 ls [])) 61 ?_ 0 (Nat.zero_le _) ls  hl (fun k hk => absurd hk (Nat.not_lt_zero k))
  clear hl
  intro j hj ih ls  hl
  intro hg
  refine lv_iload_n hx hb dX0_firstPlaceOf_2 rfl (lv_at hl 0 rfl) ?_
  refine lv_aload_n hx hb dX0_firstPlaceOf_3 rfl (lv_at hl 1 rfl) ?_
  refine va_get (D := G.1) (ci := 4) (C := RX0) (T := TX0) (N := 2) hx hb hts inX0 hown hK (at_P hO) 0 rfl rfl 1 (by decide) (hts _ tw_1_45) (fun _ h9 => h9) rfl dX0_firstPlaceOf_4 ?_
  refine lv_aload_n hx hb dX0_firstPlaceOf_7 rfl (lv_at hl 2 rfl) ?_
  refine kV_i (A := A) (b := b) (As := []) (rest := .int (nI t.length) :: .int (nI j) :: []) ⟨hx, hb, hml, hown, hts⟩ (mX0_size (A := A) (ca := cb)) (cwV 0 hts (gV tw_2_11 tw_2_12 tw_2_13 tw_1_2 tw_2_14) rfl rfl rfl (by decide +kernel) ⟨Nat.le_of_ble_eq_true rfl, Nat.le_of_ble_eq_true rfl⟩) hC hS hA (hWb.recv hK) hWb rfl rfl hl.1 (Nat.le_of_ble_eq_true rfl) ⟨Nat.zero_le _, Nat.zero_le _⟩ dX0_firstPlaceOf_8 (fun r9 h9 => lv_cv h9 ?_)
  refine lv_isub hx hb dX0_firstPlaceOf_11 ?_
  refine lv_icmp_gt (tgt := 33) hx hb dX0_firstPlaceOf_12 (by decide) (fun c_6 => ?_) (fun c_6 => ?_)
  · have c7 : ¬ j + u.length ≤ t.length := fun q => subI_gt (by omega) (by omega) (by omega) c_6 q
    refine lv_iconst (v := (-1)) hx hb dX0_firstPlaceOf_33 (by decide) ?_
    exact p_i hx hb hr hlocks dX0_firstPlaceOf_34 (Or.inr ⟨fun k q => by rcases Nat.lt_or_ge k j with h | h; exact hg k h q; exact absurd q.1 (by omega), rfl⟩)
  · have c7 : j + u.length ≤ t.length := subI_ngt (by omega) (by omega) (by omega) c_6
    refine lv_aload_n hx hb dX0_firstPlaceOf_15 rfl (lv_at hl 1 rfl) ?_
    refine lv_aload_n hx hb dX0_firstPlaceOf_16 rfl (lv_at hl 2 rfl) ?_
    refine lv_iload_n hx hb dX0_firstPlaceOf_17 rfl (lv_at hl 0 rfl) ?_
    refine lv_iconst (v := nI 0) hx hb dX0_firstPlaceOf_18 (by decide) ?_
    refine kV_i (A := A) (b := a) (As := [.ref b, .int (nI j), .int (bI false)]) (rest := []) ⟨hx, hb, hml, hown, hts⟩ (mX0_standsAt (A := A) (ca := ca) (cb := cb) (i := j) (b0 := false) (by omega)) (cwV 3 hts (gV tw_2_15 tw_2_16 tw_2_17 tw_1_2 tw_2_18) rfl rfl rfl (by decide +kernel) ⟨Nat.le_of_ble_eq_true rfl, Nat.le_of_ble_eq_true rfl⟩) hC hS hA (hWa.recv hK) ⟨hWa, hWb⟩ rfl rfl hl.1 (Nat.le_of_ble_eq_true rfl) ⟨Nat.zero_le _, Nat.zero_le _⟩ dX0_firstPlaceOf_19 (fun r_7 hr_7 => ?_)
    obtain ⟨v, hv, rfl⟩ := hr_7
    refine f_eq (tgt := 27) hx hb dX0_firstPlaceOf_22 (by decide) (fun c_8 => ?_) (fun c_8 => ?_)
    · subst c_8
      refine lv_iinc (v := nI (j + 1)) (lv' := [(2, .int (nI (j + 1))), (0, .ref a), (1, .ref b)]) hx hb dX0_firstPlaceOf_27 hl (k := 0) rfl (nI_add j 1) (by decide) rfl (fun ls hl => ?_)
      refine lv_goto (tgt := 2) hx hb dX0_firstPlaceOf_30 (by decide) ?_
      exact ih (j + 1) (by omega) (by omega) ls hl (fun k hk => by rcases Nat.lt_succ_iff_lt_or_eq.mp hk with q | q; exact hg k q; rw [q]; exact fun z => Bool.noConfusion (hv.mpr z))
    · refine lv_iload_n hx hb dX0_firstPlaceOf_25 rfl (lv_at hl 0 rfl) ?_
      exact p_i hx hb hr hlocks dX0_firstPlaceOf_26 (Or.inl ⟨j, hv.mp c_8, hg, rfl⟩)

abbrev rmX0_lastPlaceOf : Room := { frames := 3, cells := 0, slots := 0, locals := 65 }
theorem mX0_lastPlaceOf {l : Launch} {G : Cx} {A : Nat → Prop} {a ca b cb : Nat} {t u : List Nat} : Met l yX0_lastPlaceOf (.code yX0_lastPlaceOf cX0_lastPlaceOf 3 (some .int) :: GW) rmX0_lastPlaceOf (PC G A [.ref a, .ref b] (fun H => LA G a ca t H ∧ LA G b cb u H)) (vp_Si (lstR (fun k => stL false t u k))) 0 0 (fun _ => False) := by
  refine mstart "Signtext$Line" (by decide +kernel) rfl (Nat.le_of_ble_eq_true rfl) ?_
  intro p e s m below meth c ls hx hb hr hts hown hml hlocks hname hC hA hW hl
  have hl : lv_has ls 3 [(0, .ref a), (1, .ref b)] := hl
  have hK := hC.1
  have hS : va_S A s.heap s.heap [] := va_S.rf
  obtain ⟨hWa, hWb⟩ := hW
  have hq9 := hWa
  obtain ⟨t60, tok, tne, hO, f, hF, hf⟩ := hq9
  have u60 := hWb.1
  have uok := hWb.2.1
  refine lv_aload_n hx hb dX0_lastPlaceOf_0 rfl (lv_at hl 0 rfl) ?_
  refine va_get (D := G.1) (ci := 4) (C := RX0) (T := TX0) (N := 2) hx hb hts inX0 hown hK (at_P hO) 0 rfl rfl 1 (by decide) (hts _ tw_1_45) (fun _ h9 => h9) rfl dX0_lastPlaceOf_1 ?_
  refine lv_aload_n hx hb dX0_lastPlaceOf_4 rfl (lv_at hl 1 rfl) ?_
  refine kV_i (A := A) (b := b) (As := []) (rest := .int (nI t.length) :: []) ⟨hx, hb, hml, hown, hts⟩ (mX0_size (A := A) (ca := cb)) (cwV 0 hts (gV tw_2_11 tw_2_12 tw_2_13 tw_1_2 tw_2_14) rfl rfl rfl (by decide +kernel) ⟨Nat.le_of_ble_eq_true rfl, Nat.le_of_ble_eq_true rfl⟩) hC hS hA (hWb.recv hK) hWb rfl rfl hl.1 (Nat.le_of_ble_eq_true rfl) ⟨Nat.zero_le _, Nat.zero_le _⟩ dX0_lastPlaceOf_5 (fun r9 h9 => lv_cv h9 ?_)
  refine lv_isub hx hb dX0_lastPlaceOf_8 ?_
  refine lv_istore_n (lv' := [(2, .int (nI t.length - nI u.length)), (0, .ref a), (1, .ref b)]) hx hb dX0_lastPlaceOf_9 rfl hl (by decide) rfl (fun ls hl => ?_)
  rcases Nat.lt_or_ge t.length u.length with hlt | hge
  · refine lv_iload_n hx hb dX0_lastPlaceOf_10 rfl (lv_at hl 0 rfl) ?_
    refine lv_if_lt (tgt := 32) hx hb dX0_lastPlaceOf_11 (by decide) (fun c_9 => ?_) (fun c_9 => ?_)
    · refine lv_iconst (v := (-1)) hx hb dX0_lastPlaceOf_32 (by decide) ?_
      exact p_i hx hb hr hlocks dX0_lastPlaceOf_33 (Or.inr ⟨fun k q => absurd q.1 (by omega), rfl⟩)
    · exact absurd (subI_neg (by omega) (by omega) hlt) c_9
  · rw [show nI t.length - nI u.length = nI (t.length - u.length + 1) - 1 by rw [pk_sub hge, nI_pred]] at hl
    refine dloop (P := fun j => ∀ (ls : Array Slot) , lv_has ls 3 [(2, .int (nI j - 1)), (0, .ref a), (1, .ref b)] → j ≤ t.length - u.length + 1 → (∀ k : Nat, j ≤ k → ¬ stL false t u k) → W p l e rmX0_lastPlaceOf s m [.ref a, .ref b].toArray below meth c s.heap [] 0 0 (MQ below (vp_Si (lstR (fun k => stL false t u k))) [.ref a, .ref b].toArray s 0 0 (fun _ => False)) (F0 m 10 ls [])) ?_ (t.length - u.length + 1) ls  hl (Nat.le_refl _) (fun k h1 q => absurd q.1 (by omega))
    clear hl
    intro j ih ls  hl
    intro hj hg
    cases j with
    | zero =>
      refine lv_iload_n hx hb dX0_lastPlaceOf_10 rfl (lv_at hl 0 rfl) ?_
      refine lv_if_lt (tgt := 32) hx hb dX0_lastPlaceOf_11 (by decide) (fun _ => ?_) (fun q => absurd (by decide) q)
      refine lv_iconst (v := (-1)) hx hb dX0_lastPlaceOf_32 (by decide) ?_
      exact p_i hx hb hr hlocks dX0_lastPlaceOf_33 (Or.inr ⟨fun k q => hg k (Nat.zero_le _) q, rfl⟩)
    | succ j =>
      rw [nI_pred] at hl
      refine lv_iload_n hx hb dX0_lastPlaceOf_10 rfl (lv_at hl 0 rfl) ?_
      refine z_lt (tgt := 32) hx hb dX0_lastPlaceOf_11 (by decide) (by omega) ?_
      refine lv_aload_n hx hb dX0_lastPlaceOf_14 rfl (lv_at hl 1 rfl) ?_
      refine lv_aload_n hx hb dX0_lastPlaceOf_15 rfl (lv_at hl 2 rfl) ?_
      refine lv_iload_n hx hb dX0_lastPlaceOf_16 rfl (lv_at hl 0 rfl) ?_
      refine lv_iconst (v := nI 0) hx hb dX0_lastPlaceOf_17 (by decide) ?_
      refine kV_i (A := A) (b := a) (As := [.ref b, .int (nI j), .int (bI false)]) (rest := []) ⟨hx, hb, hml, hown, hts⟩ (mX0_standsAt (A := A) (ca := ca) (cb := cb) (i := j) (b0 := false) (by omega)) (cwV 3 hts (gV tw_2_15 tw_2_16 tw_2_17 tw_1_2 tw_2_18) rfl rfl rfl (by decide +kernel) ⟨Nat.le_of_ble_eq_true rfl, Nat.le_of_ble_eq_true rfl⟩) hC hS hA (hWa.recv hK) ⟨hWa, hWb⟩ rfl rfl hl.1 (Nat.le_of_ble_eq_true rfl) ⟨Nat.zero_le _, Nat.zero_le _⟩ dX0_lastPlaceOf_18 (fun r_11 hr_11 => ?_)
      obtain ⟨v, hv, rfl⟩ := hr_11
      refine f_eq (tgt := 26) hx hb dX0_lastPlaceOf_21 (by decide) (fun c_12 => ?_) (fun c_12 => ?_)
      · subst c_12
        refine lv_iinc (v := nI j - 1) (lv' := [(2, .int (nI j - 1)), (0, .ref a), (1, .ref b)]) hx hb dX0_lastPlaceOf_26 hl (k := 0) rfl (m1_eq j) (by decide) rfl (fun ls hl => ?_)
        refine lv_goto (tgt := 10) hx hb dX0_lastPlaceOf_29 (by decide) ?_
        exact ih j (Nat.lt_succ_self j) ls hl (by omega) (fun k h1 => by rcases Nat.lt_or_ge j k with q | q; exact hg k q; rw [show k = j by omega]; exact fun z => Bool.noConfusion (hv.mpr z))
      · refine lv_iload_n hx hb dX0_lastPlaceOf_24 rfl (lv_at hl 0 rfl) ?_
        exact p_i hx hb hr hlocks dX0_lastPlaceOf_25 (Or.inl ⟨j, hv.mp c_12, fun k h1 => hg k h1, rfl⟩)

abbrev rmX0_holds : Room := { frames := 4, cells := 0, slots := 0, locals := 87 }
theorem mX0_holds {l : Launch} {G : Cx} {A : Nat → Prop} {a ca b cb : Nat} {t u : List Nat} : Met l yX0_holds (.code yX0_holds cX0_holds 2 (some .boolean) :: GW) rmX0_holds (PC G A [.ref a, .ref b] (fun H => LA G a ca t H ∧ LA G b cb u H)) (vp_Si (fun r => ∃ v : Bool, (v = true ↔ ∃ k, stL false t u k) ∧ r = bI v)) 0 0 (fun _ => False) := by
  refine mstart "Signtext$Line" (by decide +kernel) rfl (Nat.le_of_ble_eq_true rfl) ?_
  intro p e s m below meth c ls hx hb hr hts hown hml hlocks hname hC hA hW hl
  have hl : lv_has ls 2 [(0, .ref a), (1, .ref b)] := hl
  have hK := hC.1
  have hS : va_S A s.heap s.heap [] := va_S.rf
  obtain ⟨hWa, hWb⟩ := hW
  have hq9 := hWa
  obtain ⟨t60, tok, tne, hO, f, hF, hf⟩ := hq9
  have u60 := hWb.1
  have uok := hWb.2.1
  refine lv_aload_n hx hb dX0_holds_0 rfl (lv_at hl 0 rfl) ?_
  refine lv_aload_n hx hb dX0_holds_1 rfl (lv_at hl 1 rfl) ?_
  refine kV_i (A := A) (b := a) (As := [.ref b]) (rest := []) ⟨hx, hb, hml, hown, hts⟩ (mX0_firstPlaceOf (A := A) (ca := ca) (cb := cb)) (cwV 1 hts (gV tw_2_118 tw_2_103 tw_2_104 tw_1_2 tw_2_105) rfl rfl rfl (by decide +kernel) ⟨Nat.le_of_ble_eq_true rfl, Nat.le_of_ble_eq_true rfl⟩) hC hS hA (hWa.recv hK) ⟨hWa, hWb⟩ rfl rfl hl.1 (Nat.le_of_ble_eq_true rfl) ⟨Nat.zero_le _, Nat.zero_le _⟩ dX0_holds_2 (fun r_13 hr_13 => ?_)
  have h7 : fstR _ r_13 := hr_13
  refine lv_iconst (v := (-1)) hx hb dX0_holds_5 (by decide) ?_
  refine lv_icmp_eq (tgt := 13) hx hb dX0_holds_6 (by decide) (fun c_14 => ?_) (fun c_14 => ?_)
  · refine lv_iconst (v := nI 0) hx hb dX0_holds_13 (by decide) ?_
    exact p_z (b := false) hx hb hr hlocks dX0_holds_14 ⟨false, ⟨fun q => Bool.noConfusion q, fun ⟨k, q⟩ => by rcases h7 with ⟨j, q0, -, q2⟩ | ⟨q1, -⟩; exact absurd (q2.symm.trans c_14) (nI_nm1 (by have := q0.1; omega)); exact absurd q (q1 k)⟩, rfl⟩
  · refine lv_iconst (v := nI 1) hx hb dX0_holds_9 (by decide) ?_
    refine lv_goto (tgt := 14) hx hb dX0_holds_10 (by decide) ?_
    exact p_z (b := true) hx hb hr hlocks dX0_holds_14 ⟨true, ⟨fun _ => by rcases h7 with ⟨j, q0, -, q2⟩ | ⟨-, q1⟩; exact ⟨j, q0⟩; exact absurd q1 c_14, fun _ => rfl⟩, rfl⟩

abbrev rmX0_isSameAs : Room := { frames := 3, cells := 0, slots := 0, locals := 65 }
theorem mX0_isSameAs {l : Launch} {G : Cx} {A : Nat → Prop} {a ca b cb : Nat} {t u : List Nat} {b0 : Bool} : Met l yX0_isSameAs (.code yX0_isSameAs cX0_isSameAs 3 (some .boolean) :: GW) rmX0_isSameAs (PC G A [.ref a, .ref b, .int (bI b0)] (fun H => LA G a ca t H ∧ LA G b cb u H)) (vp_Si (fun r => ∃ v : Bool, (v = true ↔ t.length = u.length ∧ stL b0 t u 0) ∧ r = bI v)) 0 0 (fun _ => False) := by
  refine mstart "Signtext$Line" (by decide +kernel) rfl (Nat.le_of_ble_eq_true rfl) ?_
  intro p e s m below meth c ls hx hb hr hts hown hml hlocks hname hC hA hW hl
  have hl : lv_has ls 3 [(0, .ref a), (1, .ref b), (2, .int (bI b0))] := hl
  have hK := hC.1
  have hS : va_S A s.heap s.heap [] := va_S.rf
  obtain ⟨hWa, hWb⟩ := hW
  have hq9 := hWa
  obtain ⟨t60, tok, tne, hO, f, hF, hf⟩ := hq9
  have u60 := hWb.1
  have uok := hWb.2.1
  refine lv_aload_n hx hb dX0_isSameAs_0 rfl (lv_at hl 0 rfl) ?_
  refine va_get (D := G.1) (ci := 4) (C := RX0) (T := TX0) (N := 2) hx hb hts inX0 hown hK (at_P hO) 0 rfl rfl 1 (by decide) (hts _ tw_1_45) (fun _ h9 => h9) rfl dX0_isSameAs_1 ?_
  refine lv_aload_n hx hb dX0_isSameAs_4 rfl (lv_at hl 1 rfl) ?_
  refine kV_i (A := A) (b := b) (As := []) (rest := .int (nI t.length) :: []) ⟨hx, hb, hml, hown, hts⟩ (mX0_size (A := A) (ca := cb)) (cwV 0 hts (gV tw_2_11 tw_2_12 tw_2_13 tw_1_2 tw_2_14) rfl rfl rfl (by decide +kernel) ⟨Nat.le_of_ble_eq_true rfl, Nat.le_of_ble_eq_true rfl⟩) hC hS hA (hWb.recv hK) hWb rfl rfl hl.1 (Nat.le_of_ble_eq_true rfl) ⟨Nat.zero_le _, Nat.zero_le _⟩ dX0_isSameAs_5 (fun r9 h9 => lv_cv h9 ?_)
  refine b_ne (tgt := 25) hx hb dX0_isSameAs_8 (by decide) (by omega) (by omega) (fun c_15 => ?_) (fun c_15 => ?_)
  · refine lv_iconst (v := nI 0) hx hb dX0_isSameAs_25 (by decide) ?_
    exact p_z (b := false) hx hb hr hlocks dX0_isSameAs_26 ⟨false, ⟨fun q => Bool.noConfusion q, fun q => absurd q.1 c_15⟩, rfl⟩
  · refine lv_aload_n hx hb dX0_isSameAs_11 rfl (lv_at hl 0 rfl) ?_
    refine lv_aload_n hx hb dX0_isSameAs_12 rfl (lv_at hl 1 rfl) ?_
    refine lv_iconst (v := nI 0) hx hb dX0_isSameAs_13 (by decide) ?_
    refine lv_iload_n hx hb dX0_isSameAs_14 rfl (lv_at hl 2 rfl) ?_
    refine kV_i (A := A) (b := a) (As := [.ref b, .int (nI 0), .int (bI b0)]) (rest := []) ⟨hx, hb, hml, hown, hts⟩ (mX0_standsAt (A := A) (ca := ca) (cb := cb) (i := 0) (b0 := b0) (by decide)) (cwV 3 hts (gV tw_2_15 tw_2_16 tw_2_17 tw_1_2 tw_2_18) rfl rfl rfl (by decide +kernel) ⟨Nat.le_of_ble_eq_true rfl, Nat.le_of_ble_eq_true rfl⟩) hC hS hA (hWa.recv hK) ⟨hWa, hWb⟩ rfl rfl hl.1 (Nat.le_of_ble_eq_true rfl) ⟨Nat.zero_le _, Nat.zero_le _⟩ dX0_isSameAs_15 (fun r_16 hr_16 => ?_)
    obtain ⟨v, hv, rfl⟩ := hr_16
    refine f_eq (tgt := 25) hx hb dX0_isSameAs_18 (by decide) (fun c_17 => ?_) (fun c_17 => ?_)
    · refine lv_iconst (v := nI 0) hx hb dX0_isSameAs_25 (by decide) ?_
      exact p_z (b := false) hx hb hr hlocks dX0_isSameAs_26 ⟨false, ⟨fun q => Bool.noConfusion q, fun q => absurd (hv.mpr q.2) (by rw [c_17]; decide)⟩, rfl⟩
    · refine lv_iconst (v := nI 1) hx hb dX0_isSameAs_21 (by decide) ?_
      refine lv_goto (tgt := 26) hx hb dX0_isSameAs_22 (by decide) ?_
      exact p_z (b := true) hx hb hr hlocks dX0_isSameAs_26 ⟨true, ⟨fun _ => ⟨c_15, hv.mp c_17⟩, fun _ => rfl⟩, rfl⟩

abbrev rmX0_orderTo : Room := { frames := 2, cells := 0, slots := 0, locals := 41 }
theorem mX0_orderTo {l : Launch} {G : Cx} {A : Nat → Prop} {a ca b cb : Nat} {t u : List Nat} {b0 : Bool} : Met l yX0_orderTo (.code yX0_orderTo cX0_orderTo 5 (some .int) :: GW) rmX0_orderTo (PC G A [.ref a, .ref b, .int (bI b0)] (fun H => LA G a ca t H ∧ LA G b cb u H)) (vp_Si (ordR b0 t u)) 0 0 (fun _ => False) := by
  refine mstart "Signtext$Line" (by decide +kernel) rfl (Nat.le_of_ble_eq_true rfl) ?_
  intro p e s m below meth c ls hx hb hr hts hown hml hlocks hname hC hA hW hl
  have hl : lv_has ls 5 [(0, .ref a), (1, .ref b), (2, .int (bI b0))] := hl
  have hK := hC.1
  have hS : va_S A s.heap s.heap [] := va_S.rf
  obtain ⟨hWa, hWb⟩ := hW
  have hq9 := hWa
  obtain ⟨t60, tok, tne, hO, f, hF, hf⟩ := hq9
  have u60 := hWb.1
  have uok := hWb.2.1
  refine lv_iconst (v := nI 0) hx hb dX0_orderTo_0 (by decide) ?_
  refine lv_istore_n (lv' := [(3, .int (nI 0)), (0, .ref a), (1, .ref b), (2, .int (bI b0))]) hx hb dX0_orderTo_1 rfl hl (by decide) rfl (fun ls hl => ?_)
  refine nloop (P := fun j => ∀ (ls : Array Slot) , lv_has ls 5 [(3, .int (nI j)), (0, .ref a), (1, .ref b), (2, .int (bI b0))] → (∀ k : Nat, k < j → k < u.length → viewN b0 (t.getD k 0) = viewN b0 (u.getD k 0)) → W p l e rmX0_orderTo s m [.ref a, .ref b, .int (bI b0)].toArray below meth c s.heap [] 0 0 (MQ below (vp_Si (ordR b0 t u)) [.ref a, .ref b, .int (bI b0)].toArray s 0 0 (fun _ => False)) (F0 m 2 ls [])) t.length ?_ 0 (Nat.zero_le _) ls  hl (fun k hk => absurd hk (Nat.not_lt_zero k))
  clear hl
  intro j hj ih ls  hl
  intro hg
  refine lv_iload_n hx hb dX0_orderTo_2 rfl (lv_at hl 0 rfl) ?_
  refine lv_aload_n hx hb dX0_orderTo_3 rfl (lv_at hl 1 rfl) ?_
  refine va_get (D := G.1) (ci := 4) (C := RX0) (T := TX0) (N := 2) hx hb hts inX0 hown hK (at_P hO) 0 rfl rfl 1 (by decide) (hts _ tw_1_45) (fun _ h9 => h9) rfl dX0_orderTo_4 ?_
  refine b_ge (tgt := 54) hx hb dX0_orderTo_7 (by decide) (by omega) (by omega) (fun c_18 => ?_) (fun c_18 => ?_)
  · refine lv_aload_n hx hb dX0_orderTo_54 rfl (lv_at hl 1 rfl) ?_
    refine va_get (D := G.1) (ci := 4) (C := RX0) (T := TX0) (N := 2) hx hb hts inX0 hown hK (at_P hO) 0 rfl rfl 1 (by decide) (hts _ tw_1_45) (fun _ h9 => h9) rfl dX0_orderTo_55 ?_
    refine lv_aload_n hx hb dX0_orderTo_58 rfl (lv_at hl 2 rfl) ?_
    refine kV_i (A := A) (b := b) (As := []) (rest := .int (nI t.length) :: []) ⟨hx, hb, hml, hown, hts⟩ (mX0_size (A := A) (ca := cb)) (cwV 0 hts (gV tw_2_11 tw_2_12 tw_2_13 tw_1_2 tw_2_14) rfl rfl rfl (by decide +kernel) ⟨Nat.le_of_ble_eq_true rfl, Nat.le_of_ble_eq_true rfl⟩) hC hS hA (hWb.recv hK) hWb rfl rfl hl.1 (Nat.le_of_ble_eq_true rfl) ⟨Nat.zero_le _, Nat.zero_le _⟩ dX0_orderTo_59 (fun r9 h9 => lv_cv h9 ?_)
    refine lv_isub hx hb dX0_orderTo_62 ?_
    exact p_i hx hb hr hlocks dX0_orderTo_63 (Or.inr ⟨fun k h1 h2 => hg k (by omega) h2, rfl⟩)
  · refine lv_iload_n hx hb dX0_orderTo_10 rfl (lv_at hl 0 rfl) ?_
    refine lv_aload_n hx hb dX0_orderTo_11 rfl (lv_at hl 2 rfl) ?_
    refine kV_i (A := A) (b := b) (As := []) (rest := .int (nI j) :: []) ⟨hx, hb, hml, hown, hts⟩ (mX0_size (A := A) (ca := cb)) (cwV 0 hts (gV tw_2_11 tw_2_12 tw_2_13 tw_1_2 tw_2_14) rfl rfl rfl (by decide +kernel) ⟨Nat.le_of_ble_eq_true rfl, Nat.le_of_ble_eq_true rfl⟩) hC hS hA (hWb.recv hK) hWb rfl rfl hl.1 (Nat.le_of_ble_eq_true rfl) ⟨Nat.zero_le _, Nat.zero_le _⟩ dX0_orderTo_12 (fun r9 h9 => lv_cv h9 ?_)
    refine b_ge (tgt := 54) hx hb dX0_orderTo_15 (by decide) (by omega) (by omega) (fun c_19 => ?_) (fun c_19 => ?_)
    · refine lv_aload_n hx hb dX0_orderTo_54 rfl (lv_at hl 1 rfl) ?_
      refine va_get (D := G.1) (ci := 4) (C := RX0) (T := TX0) (N := 2) hx hb hts inX0 hown hK (at_P hO) 0 rfl rfl 1 (by decide) (hts _ tw_1_45) (fun _ h9 => h9) rfl dX0_orderTo_55 ?_
      refine lv_aload_n hx hb dX0_orderTo_58 rfl (lv_at hl 2 rfl) ?_
      refine kV_i (A := A) (b := b) (As := []) (rest := .int (nI t.length) :: []) ⟨hx, hb, hml, hown, hts⟩ (mX0_size (A := A) (ca := cb)) (cwV 0 hts (gV tw_2_11 tw_2_12 tw_2_13 tw_1_2 tw_2_14) rfl rfl rfl (by decide +kernel) ⟨Nat.le_of_ble_eq_true rfl, Nat.le_of_ble_eq_true rfl⟩) hC hS hA (hWb.recv hK) hWb rfl rfl hl.1 (Nat.le_of_ble_eq_true rfl) ⟨Nat.zero_le _, Nat.zero_le _⟩ dX0_orderTo_59 (fun r9 h9 => lv_cv h9 ?_)
      refine lv_isub hx hb dX0_orderTo_62 ?_
      exact p_i hx hb hr hlocks dX0_orderTo_63 (Or.inr ⟨fun k h1 h2 => hg k (by omega) h2, rfl⟩)
    · refine lv_aload_n hx hb dX0_orderTo_18 rfl (lv_at hl 1 rfl) ?_
      refine va_get (D := G.1) (ci := 4) (C := RX0) (T := TX0) (N := 2) hx hb hts inX0 hown hK (at_P hO) 0 rfl rfl 0 (by decide) (hts _ tw_1_44) (fun _ h9 => h9) rfl dX0_orderTo_19 ?_
      refine lv_iload_n hx hb dX0_orderTo_22 rfl (lv_at hl 0 rfl) ?_
      refine va_cald hx hb hK (at_P hF) 0 1 rfl rfl (vp_in_nI (n := j) (N := 60) (by omega) (by omega)) dX0_orderTo_23 ?_
      refine lv_cv (show _ = nI (t.getD j 0) from by rw [nI_clamp (by omega)]; exact hf _ (by omega)) ?_
      refine lv_iload_n hx hb dX0_orderTo_24 rfl (lv_at hl 3 rfl) ?_
      refine kS_i (A := A) (As := [.int (nI (t.getD j 0)), .int (bI b0)]) (rest := []) ⟨hx, hb, hml, hown, hts⟩ (mX0_seen (A := A) (tok j)) (va_cwS 2 hts (gS tw_2_23 tw_2_24 tw_1_2 tw_2_25) rfl rfl rfl (by decide +kernel) ⟨Nat.le_of_ble_eq_true rfl, Nat.le_of_ble_eq_true rfl⟩) hC hS hA  trivial rfl rfl hl.1 (Nat.le_of_ble_eq_true rfl) ⟨Nat.zero_le _, Nat.zero_le _⟩ dX0_orderTo_25 (fun r9 h9 => lv_cv h9 ?_)
      refine lv_aload_n hx hb dX0_orderTo_28 rfl (lv_at hl 2 rfl) ?_
      refine lv_iload_n hx hb dX0_orderTo_29 rfl (lv_at hl 0 rfl) ?_
      refine kV_i (A := A) (b := b) (As := [.int (nI j)]) (rest := .int (nI (viewN b0 (t.getD j 0))) :: []) ⟨hx, hb, hml, hown, hts⟩ (mX0_codeAt (A := A) (ca := cb) (i := j) (by omega)) (cwV 1 hts (gV tw_2_19 tw_2_20 tw_2_21 tw_1_2 tw_2_22) rfl rfl rfl (by decide +kernel) ⟨Nat.le_of_ble_eq_true rfl, Nat.le_of_ble_eq_true rfl⟩) hC hS hA (hWb.recv hK) hWb rfl rfl hl.1 (Nat.le_of_ble_eq_true rfl) ⟨Nat.zero_le _, Nat.zero_le _⟩ dX0_orderTo_30 (fun r9 h9 => lv_cv h9 ?_)
      refine lv_iload_n hx hb dX0_orderTo_33 rfl (lv_at hl 3 rfl) ?_
      refine kS_i (A := A) (As := [.int (nI (u.getD j 0)), .int (bI b0)]) (rest := .int (nI (viewN b0 (t.getD j 0))) :: []) ⟨hx, hb, hml, hown, hts⟩ (mX0_seen (A := A) (uok j)) (va_cwS 2 hts (gS tw_2_23 tw_2_24 tw_1_2 tw_2_25) rfl rfl rfl (by decide +kernel) ⟨Nat.le_of_ble_eq_true rfl, Nat.le_of_ble_eq_true rfl⟩) hC hS hA  trivial rfl rfl hl.1 (Nat.le_of_ble_eq_true rfl) ⟨Nat.zero_le _, Nat.zero_le _⟩ dX0_orderTo_34 (fun r9 h9 => lv_cv h9 ?_)
      refine lv_isub hx hb dX0_orderTo_37 ?_
      refine lv_istore (lv' := [(4, .int (nI (viewN b0 (t.getD j 0)) - nI (viewN b0 (u.getD j 0)))), (3, .int (nI j)), (0, .ref a), (1, .ref b), (2, .int (bI b0))]) hx hb dX0_orderTo_38 hl (by decide) rfl (fun ls hl => ?_)
      refine lv_iload hx hb dX0_orderTo_40 (lv_at hl 0 rfl) ?_
      have v1 := viewN_lt (b := b0) (tok j)
      have v2 := viewN_lt (b := b0) (uok j)
      refine lv_if_eq (tgt := 48) hx hb dX0_orderTo_42 (by decide) (fun c_20 => ?_) (fun c_20 => ?_)
      · refine lv_iinc (v := nI (j + 1)) (lv' := [(3, .int (nI (j + 1))), (4, .int (nI (viewN b0 (t.getD j 0)) - nI (viewN b0 (u.getD j 0)))), (0, .ref a), (1, .ref b), (2, .int (bI b0))]) hx hb dX0_orderTo_48 hl (k := 1) rfl (nI_add j 1) (by decide) rfl (fun ls hl => ?_)
        refine lv_goto (tgt := 2) hx hb dX0_orderTo_51 (by decide) ?_
        exact ih (j + 1) (by omega) (by omega) ls (lv_sub hl [0, 2, 3, 4] rfl) (fun k hk h2 => by rcases Nat.lt_succ_iff_lt_or_eq.mp hk with q | q; exact hg k q h2; rw [q]; exact (subI_0 (by omega) (by omega)).mp c_20)
      · refine lv_iload hx hb dX0_orderTo_45 (lv_at hl 0 rfl) ?_
        exact p_i hx hb hr hlocks dX0_orderTo_47 (Or.inl ⟨j, by omega, by omega, fun k h1 => hg k h1 (by omega), fun q => c_20 ((subI_0 (by omega) (by omega)).mpr q), rfl⟩)
