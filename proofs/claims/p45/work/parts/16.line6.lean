/-! numbers as texts -/
def digs : Nat → Nat → Bool → List Nat
  | 0, _, _ => []
  | k + 1, v, b => (if (b || decide (v / 10 ^ k % 10 ≠ 0) || decide (k = 0)) = true then [48 + v / 10 ^ k % 10] else []) ++ digs k v (b || decide (v / 10 ^ k % 10 ≠ 0) || decide (k = 0))
def numL (x : Int64) : List Nat := (if x < 0 then [45] else []) ++ digs 19 x.toInt.natAbs false
def tnL (k : Nat) : Int64 := if k = 0 then 0 else lN (10 ^ (k - 1))
theorem digs_t {k v d : Nat} {b : Bool} (hd : v / 10 ^ k % 10 = d) (h : (b || decide (d ≠ 0) || decide (k = 0)) = true) : digs (k + 1) v b = [48 + d] ++ digs k v true := by
  subst hd
  show (if (b || decide (v / 10 ^ k % 10 ≠ 0) || decide (k = 0)) = true then [48 + v / 10 ^ k % 10] else []) ++ digs k v (b || decide (v / 10 ^ k % 10 ≠ 0) || decide (k = 0)) = _
  rw [h, if_pos rfl]
theorem digs_f {k v d : Nat} {b : Bool} (hd : v / 10 ^ k % 10 = d) (h : (b || decide (d ≠ 0) || decide (k = 0)) = false) : digs (k + 1) v b = digs k v false := by
  subst hd
  show (if (b || decide (v / 10 ^ k % 10 ≠ 0) || decide (k = 0)) = true then [48 + v / 10 ^ k % 10] else []) ++ digs k v (b || decide (v / 10 ^ k % 10 ≠ 0) || decide (k = 0)) = _
  rw [h, if_neg (by decide)]; rfl
theorem tnL_div {k : Nat} (h : k < 19) : tnL (k + 1) / 10 = tnL k := by
  have q : ∀ x : Fin 19, tnL (x.1 + 1) / 10 = tnL x.1 := by decide +kernel
  exact q ⟨k, h⟩
theorem tnL_cmp0 {k : Nat} (h : k < 19) : lg_cmp (tnL (k + 1)) 0 = 1 := by
  have q : ∀ x : Fin 19, lg_cmp (tnL (x.1 + 1)) 0 = 1 := by decide +kernel
  exact q ⟨k, h⟩
theorem tnL_cmp1 {k : Nat} (h : k < 19) : lg_cmp (tnL (k + 1)) 1 = if k = 0 then 0 else 1 := by
  have q : ∀ x : Fin 19, lg_cmp (tnL (x.1 + 1)) 1 = if x.1 = 0 then 0 else 1 := by decide +kernel
  exact q ⟨k, h⟩
theorem tnL_ne {k : Nat} (h : k < 19) : ¬ tnL (k + 1) = 0 := by
  have q : ∀ x : Fin 19, ¬ tnL (x.1 + 1) = 0 := by decide +kernel
  exact q ⟨k, h⟩
theorem tnL_int {k : Nat} (h : k < 19) : (tnL (k + 1)).toInt = (10 ^ k : Nat) := by
  have q : ∀ x : Fin 19, (tnL (x.1 + 1)).toInt = (10 ^ x.1 : Nat) := by decide +kernel
  exact q ⟨k, h⟩
theorem tdiv_abs (X : Int) (T : Nat) : (X.tdiv T).natAbs ≤ X.natAbs := by
  rw [Int.natAbs_tdiv]; exact Nat.div_le_self _ _
theorem bmod_id {z : Int} (h1 : -9223372036854775808 ≤ z) (h2 : z < 9223372036854775808) : z.bmod (2 ^ 64) = z := by
  apply Int.bmod_eq_of_le <;> omega
theorem bmod_id32 {z : Int} (h1 : -2147483648 ≤ z) (h2 : z < 2147483648) : z.bmod (2 ^ 32) = z := by
  apply Int.bmod_eq_of_le <;> omega
theorem div_int (x y : Int64) (hy : 0 < y.toInt) : (x / y).toInt = x.toInt.tdiv y.toInt :=
  Int64.toInt_div_of_ne_right x y (by rintro rfl; revert hy; decide)
theorem rem_int (x y : Int64) (hy : 0 < y.toInt) : (x - x / y * y).toInt = x.toInt.tmod y.toInt := by
  have hq := div_int x y hy
  have h1 := Int64.le_toInt x
  have h2 := Int64.toInt_lt x
  have e : y.toInt * x.toInt.tdiv y.toInt = x.toInt - x.toInt.tmod y.toInt := by
    have := Int.mul_tdiv_add_tmod x.toInt y.toInt; omega
  have a1 : (x.toInt.tmod y.toInt).natAbs ≤ x.toInt.natAbs := by rw [Int.natAbs_tmod]; exact Nat.mod_le _ _
  have a2 : (y.toInt * x.toInt.tdiv y.toInt).natAbs ≤ x.toInt.natAbs := by
    rw [Int.natAbs_mul, Int.natAbs_tdiv]; exact Nat.mul_div_le _ _
  have e2 : (x / y * y).toInt = y.toInt * x.toInt.tdiv y.toInt := by
    rw [Int64.toInt_mul, hq, Int.mul_comm]
    rcases Int.lt_or_le x.toInt 0 with h | h
    · have h3 : x.toInt.tdiv y.toInt ≤ 0 := by
        have : x.toInt.tdiv y.toInt = -((-x.toInt).tdiv y.toInt) := by rw [Int.neg_tdiv, Int.neg_neg]
        have h5 : 0 ≤ (-x.toInt).tdiv y.toInt := Int.tdiv_nonneg (by omega) (by omega)
        omega
      have h4 : y.toInt * x.toInt.tdiv y.toInt ≤ 0 := Int.mul_nonpos_of_nonneg_of_nonpos (by omega) h3
      exact bmod_id (by omega) (by omega)
    · have h4 : 0 ≤ y.toInt * x.toInt.tdiv y.toInt := Int.mul_nonneg (by omega) (Int.tdiv_nonneg h (by omega))
      exact bmod_id (by omega) (by omega)
  rw [Int64.toInt_sub, e2, e]
  rcases Int.lt_or_le x.toInt 0 with h | h
  · have h3 : x.toInt.tmod y.toInt ≤ 0 := by
      have : x.toInt.tmod y.toInt = -((-x.toInt).tmod y.toInt) := by rw [Int.neg_tmod, Int.neg_neg]
      have h5 : 0 ≤ (-x.toInt).tmod y.toInt := Int.tmod_nonneg _ (by omega)
      omega
    rw [bmod_id (by omega) (by omega)]; omega
  · have h3 : 0 ≤ x.toInt.tmod y.toInt := Int.tmod_nonneg _ h
    rw [bmod_id (by omega) (by omega)]; omega
theorem dig_eq (x : Int64) {k : Nat} (hk : k < 19) : (if 0 ≤ (x / tnL (k + 1) - x / tnL (k + 1) / 10 * 10).toInt32 then (x / tnL (k + 1) - x / tnL (k + 1) / 10 * 10).toInt32 else 0 - (x / tnL (k + 1) - x / tnL (k + 1) / 10 * 10).toInt32) = nI (x.toInt.natAbs / 10 ^ k % 10) := by
  have h0 := tnL_int hk
  have hp : 0 < 10 ^ k := Nat.pow_pos (by decide)
  have h1 := div_int x (tnL (k + 1)) (by rw [h0]; exact_mod_cast hp)
  have h2 := rem_int (x / tnL (k + 1)) 10 (by decide)
  have h3 : (x / tnL (k + 1)).toInt.natAbs = x.toInt.natAbs / 10 ^ k := by rw [h1, h0, Int.natAbs_tdiv]; rfl
  have h4 : ((x / tnL (k + 1)).toInt.tmod 10).natAbs = x.toInt.natAbs / 10 ^ k % 10 := by rw [Int.natAbs_tmod, h3]; rfl
  generalize hr : x / tnL (k + 1) - x / tnL (k + 1) / 10 * 10 = r at *
  have h5 : r.toInt = (x / tnL (k + 1)).toInt.tmod 10 := h2
  rw [← h5] at h4
  have h6 : x.toInt.natAbs / 10 ^ k % 10 < 10 := Nat.mod_lt _ (by decide)
  have h7 : r.toInt32.toInt = r.toInt := by rw [Int64.toInt_toInt32]; exact bmod_id32 (by omega) (by omega)
  rw [← h4]
  split
  · next h =>
    rw [Int32.le_iff_toInt_le, h7] at h
    have h8 : (0 : Int) ≤ r.toInt := h
    rw [← Int32.toInt_inj, h7, nI_toInt (by omega)]; omega
  · next h =>
    rw [Int32.le_iff_toInt_le, h7] at h
    have h8 : ¬ (0 : Int) ≤ r.toInt := h
    rw [Int32.zero_sub, ← Int32.toInt_inj, Int32.toInt_neg, h7, nI_toInt (by omega)]
    rw [bmod_id32 (by omega) (by omega)]; omega
theorem lt0_cmp (x : Int64) : 0 ≤ lg_cmp x 0 ↔ ¬ x < 0 := by
  have z : (0 : Int64).toInt = 0 := rfl
  have e1 : x > 0 ↔ 0 < x.toInt := by rw [gt_iff_lt, Int64.lt_iff_toInt_lt, z]
  have e2 : x < 0 ↔ x.toInt < 0 := by rw [Int64.lt_iff_toInt_lt, z]
  have e3 : x = 0 ↔ x.toInt = 0 := by rw [← Int64.toInt_inj, z]
  unfold lg_cmp
  rw [e2]
  by_cases h : x > 0
  · rw [if_pos h]; rw [e1] at h; exact ⟨fun _ => by omega, fun _ => by decide⟩
  · rw [if_neg h]
    by_cases h2 : x = 0
    · rw [if_pos h2]; rw [e3] at h2; exact ⟨fun _ => by omega, fun _ => by decide⟩
    · rw [if_neg h2]; rw [e1] at h; rw [e3] at h2; exact ⟨fun q => absurd q (by decide), fun q => absurd (show x.toInt < 0 by omega) q⟩
theorem dX0_addNumber_0 : decode cX0_addNumber 0 = .ok (.lload_n 1, 1) := by decide +kernel
theorem dX0_addNumber_1 : decode cX0_addNumber 1 = .ok (.lconst 0, 1) := by decide +kernel
theorem dX0_addNumber_2 : decode cX0_addNumber 2 = .ok (.lcmp, 1) := by decide +kernel
theorem dX0_addNumber_3 : decode cX0_addNumber 3 = .ok (.ifCond .ge 9, 3) := by decide +kernel
theorem dX0_addNumber_6 : decode cX0_addNumber 6 = .ok (.aload_n 0, 1) := by decide +kernel
theorem dX0_addNumber_7 : decode cX0_addNumber 7 = .ok (.bipush 45, 2) := by decide +kernel
theorem dX0_addNumber_9 : decode cX0_addNumber 9 = .ok (.invokevirtual 23, 3) := by decide +kernel
theorem dX0_addNumber_12 : decode cX0_addNumber 12 = .ok (.iconst 0, 1) := by decide +kernel
theorem dX0_addNumber_13 : decode cX0_addNumber 13 = .ok (.istore_n 3, 1) := by decide +kernel
theorem dX0_addNumber_14 : decode cX0_addNumber 14 = .ok (.ldc2_w 44, 3) := by decide +kernel
theorem dX0_addNumber_17 : decode cX0_addNumber 17 = .ok (.lstore 4, 2) := by decide +kernel
theorem dX0_addNumber_19 : decode cX0_addNumber 19 = .ok (.lload 4, 2) := by decide +kernel
theorem dX0_addNumber_21 : decode cX0_addNumber 21 = .ok (.lconst 0, 1) := by decide +kernel
theorem dX0_addNumber_22 : decode cX0_addNumber 22 = .ok (.lcmp, 1) := by decide +kernel
theorem dX0_addNumber_23 : decode cX0_addNumber 23 = .ok (.ifCond .le 63, 3) := by decide +kernel
theorem dX0_addNumber_26 : decode cX0_addNumber 26 = .ok (.lload_n 1, 1) := by decide +kernel
theorem dX0_addNumber_27 : decode cX0_addNumber 27 = .ok (.lload 4, 2) := by decide +kernel
theorem dX0_addNumber_29 : decode cX0_addNumber 29 = .ok (.ldiv, 1) := by decide +kernel
theorem dX0_addNumber_30 : decode cX0_addNumber 30 = .ok (.ldc2_w 46, 3) := by decide +kernel
theorem dX0_addNumber_33 : decode cX0_addNumber 33 = .ok (.lrem, 1) := by decide +kernel
theorem dX0_addNumber_34 : decode cX0_addNumber 34 = .ok (.l2i, 1) := by decide +kernel
theorem dX0_addNumber_35 : decode cX0_addNumber 35 = .ok (.invokestatic 48, 3) := by decide +kernel
theorem dX0_addNumber_38 : decode cX0_addNumber 38 = .ok (.istore 6, 2) := by decide +kernel
theorem dX0_addNumber_40 : decode cX0_addNumber 40 = .ok (.iload_n 3, 1) := by decide +kernel
theorem dX0_addNumber_41 : decode cX0_addNumber 41 = .ok (.ifCond .ne 15, 3) := by decide +kernel
theorem dX0_addNumber_44 : decode cX0_addNumber 44 = .ok (.iload 6, 2) := by decide +kernel
theorem dX0_addNumber_46 : decode cX0_addNumber 46 = .ok (.ifCond .ne 10, 3) := by decide +kernel
theorem dX0_addNumber_49 : decode cX0_addNumber 49 = .ok (.lload 4, 2) := by decide +kernel
theorem dX0_addNumber_51 : decode cX0_addNumber 51 = .ok (.lconst 1, 1) := by decide +kernel
theorem dX0_addNumber_52 : decode cX0_addNumber 52 = .ok (.lcmp, 1) := by decide +kernel
theorem dX0_addNumber_53 : decode cX0_addNumber 53 = .ok (.ifCond .ne 7, 3) := by decide +kernel
theorem dX0_addNumber_56 : decode cX0_addNumber 56 = .ok (.iconst 1, 1) := by decide +kernel
theorem dX0_addNumber_57 : decode cX0_addNumber 57 = .ok (.goto 4, 3) := by decide +kernel
theorem dX0_addNumber_60 : decode cX0_addNumber 60 = .ok (.iconst 0, 1) := by decide +kernel
theorem dX0_addNumber_61 : decode cX0_addNumber 61 = .ok (.istore_n 3, 1) := by decide +kernel
theorem dX0_addNumber_62 : decode cX0_addNumber 62 = .ok (.iload_n 3, 1) := by decide +kernel
theorem dX0_addNumber_63 : decode cX0_addNumber 63 = .ok (.ifCond .eq 12, 3) := by decide +kernel
theorem dX0_addNumber_66 : decode cX0_addNumber 66 = .ok (.aload_n 0, 1) := by decide +kernel
theorem dX0_addNumber_67 : decode cX0_addNumber 67 = .ok (.bipush 48, 2) := by decide +kernel
theorem dX0_addNumber_69 : decode cX0_addNumber 69 = .ok (.iload 6, 2) := by decide +kernel
theorem dX0_addNumber_71 : decode cX0_addNumber 71 = .ok (.iadd, 1) := by decide +kernel
theorem dX0_addNumber_72 : decode cX0_addNumber 72 = .ok (.invokevirtual 23, 3) := by decide +kernel
theorem dX0_addNumber_75 : decode cX0_addNumber 75 = .ok (.lload 4, 2) := by decide +kernel
theorem dX0_addNumber_77 : decode cX0_addNumber 77 = .ok (.ldc2_w 46, 3) := by decide +kernel
theorem dX0_addNumber_80 : decode cX0_addNumber 80 = .ok (.ldiv, 1) := by decide +kernel
theorem dX0_addNumber_81 : decode cX0_addNumber 81 = .ok (.lstore 4, 2) := by decide +kernel
theorem dX0_addNumber_83 : decode cX0_addNumber 83 = .ok (.goto (-64), 3) := by decide +kernel
theorem dX0_addNumber_86 : decode cX0_addNumber 86 = .ok (.return_, 1) := by decide +kernel
abbrev rmX0_addNumber : Room := { frames := 2, cells := 0, slots := 0, locals := 41 }
theorem mX0_addNumber {l : Launch} {G : Cx} {A : Nat → Prop} {a ca : Nat} {t : List Nat} {x : Int64} (hAa : A a) (hAca : A ca) : Met l yX0_addNumber (.code yX0_addNumber cX0_addNumber 7 (none : Option Jvm.ClassFile.FieldType) :: GW) rmX0_addNumber (PC G A [.ref a, .long x] (LA G a ca t)) (qV A (LA G a ca ((t ++ numL x).take 60))) 0 0 (A) := by
  refine mstart "Signtext$Line" (by decide +kernel) rfl (Nat.le_of_ble_eq_true rfl) ?_
  intro p e s m below meth c ls hx hb hr hts hown hml hlocks hname hC hA hW hl
  have hl : lv_has ls 7 [(0, .ref a), (1, .long x)] := hl
  have hK := hC.1
  have hS : va_S A s.heap s.heap [] := va_S.rf
  have t60 := hW.1
  refine lv_lload_n hx hb dX0_addNumber_0 rfl (lv_at hl 1 rfl) ?_
  refine lv_lconst (v := 0) hx hb dX0_addNumber_1 (by decide) ?_
  refine W.lcmp hx hb dX0_addNumber_2 ?_
  have rest : ∀ j : Nat, ∀ (ls : Array Slot) (b : Bool) (w : List Nat) (H : Heap) (L : List Loc), lv_has ls 7 [(4, .long (tnL j)), (3, .int (bI b)), (0, .ref a), (1, .long x)] → j ≤ 19 → va_S A s.heap H L → LA G a ca w H → (w ++ digs j x.toInt.natAbs b).take 60 = ((t ++ (if x < 0 then [45] else [])).take 60 ++ digs 19 x.toInt.natAbs false).take 60 → W p l e rmX0_addNumber s m [.ref a, .long x].toArray below meth c H L 0 0 (MQ below (qV A (LA G a ca ((t ++ numL x).take 60))) [.ref a, .long x].toArray s 0 0 (A)) (F0 m 19 ls []) := by
    refine dloop ?_
    clear hS hl hW
    intro j ih ls b w H L hl hj hS hW hF
    have hZ0 := hS.1
    cases j with
    | zero =>
      have hl : lv_has ls 7 [(4, .long 0), (3, .int (bI b)), (0, .ref a), (1, .long x)] := hl
      refine lv_lload hx hb dX0_addNumber_19 (lv_at hl 0 rfl) ?_
      refine lv_lconst (v := 0) hx hb dX0_addNumber_21 (by decide) ?_
      refine W.lcmp hx hb dX0_addNumber_22 ?_
      refine lv_if_le (tgt := 86) hx hb dX0_addNumber_23 (by decide) (fun _ => ?_) (fun q => absurd (by decide) q)
      exact q_v hx hb hr hlocks dX0_addNumber_86 hS (Nat.le_refl _) (Nat.le_refl _) (by have h8 : (w ++ digs 0 x.toInt.natAbs b).take 60 = w := (show (w ++ []).take 60 = w by rw [List.append_nil, List.take_of_length_le hW.1]); rw [h8] at hF; rw [numL, ← List.append_assoc, ← take_take60, ← hF]; exact hW)
    | succ k =>
      refine lv_lload hx hb dX0_addNumber_19 (lv_at hl 0 rfl) ?_
      refine lv_lconst (v := 0) hx hb dX0_addNumber_21 (by decide) ?_
      refine W.lcmp hx hb dX0_addNumber_22 ?_
      rw [tnL_cmp0 (by omega)]
      refine lv_if_le (tgt := 86) hx hb dX0_addNumber_23 (by decide) (fun q => absurd q (by decide)) (fun _ => ?_)
      refine lv_lload_n hx hb dX0_addNumber_26 rfl (lv_at hl 3 rfl) ?_
      refine lv_lload hx hb dX0_addNumber_27 (lv_at hl 0 rfl) ?_
      refine lv_ldiv hx hb dX0_addNumber_29 (tnL_ne (by omega)) ?_
      refine lv_ldc2 (v := 10) hx hb hown (hts _ tw_3_123) dX0_addNumber_30 ?_
      refine lv_lrem hx hb dX0_addNumber_33 (by decide) ?_
      refine lv_l2i hx hb dX0_addNumber_34 rfl ?_
      refine va_mabs hx hb (hml.trans hl.1.symm) hown (hts _ tw_3_124) (hts _ tw_3_125) (hts _ tw_1_19) (hts _ tw_3_126) (Nat.le_of_ble_eq_true rfl) (Nat.le_of_ble_eq_true rfl) (Nat.zero_le _) (Nat.zero_le _) dX0_addNumber_35 ?_
      refine lv_cv (dig_eq x (by omega)) ?_
      have d10 : x.toInt.natAbs / 10 ^ k % 10 < 10 := Nat.mod_lt _ (by decide)
      generalize hd9 : x.toInt.natAbs / 10 ^ k % 10 = d9 at d10 ⊢
      refine lv_istore (lv' := [(6, .int (nI d9)), (4, .long (tnL (k + 1))), (3, .int (bI b)), (0, .ref a), (1, .long x)]) hx hb dX0_addNumber_38 hl (by decide) rfl (fun ls hl => ?_)
      refine lv_iload_n hx hb dX0_addNumber_40 rfl (lv_at hl 2 rfl) ?_
      refine f_ne (tgt := 56) hx hb dX0_addNumber_41 (by decide) (fun c_1 => ?_) (fun c_1 => ?_)
      · refine lv_iconst (v := nI 1) hx hb dX0_addNumber_56 (by decide) ?_
        refine lv_goto (tgt := 61) hx hb dX0_addNumber_57 (by decide) ?_
        refine lv_istore_n (lv' := [(3, .int (bI true)), (6, .int (nI d9)), (4, .long (tnL (k + 1))), (0, .ref a), (1, .long x)]) hx hb dX0_addNumber_61 rfl hl (by decide) rfl (fun ls hl => ?_)
        refine lv_iload_n hx hb dX0_addNumber_62 rfl (lv_at hl 0 rfl) ?_
        refine f_eq (tgt := 75) hx hb dX0_addNumber_63 (by decide) (fun c_2 => ?_) (fun c_2 => ?_)
        · exact absurd c_2 (by decide)
        · refine lv_aload_n hx hb dX0_addNumber_66 rfl (lv_at hl 3 rfl) ?_
          refine lv_bipush (v := nI 48) hx hb dX0_addNumber_67 (by decide) ?_
          refine lv_iload hx hb dX0_addNumber_69 (lv_at hl 1 rfl) ?_
          refine lv_iadd hx hb dX0_addNumber_71 ?_
          refine lv_cv (nI_add 48 d9) ?_
          refine qV_V (A := A) (A1 := ow a ca H.size) (b := a) (As := [.int (nI (48 + d9))]) (rest := []) ⟨hx, hb, hml, hown, hts⟩ (mX0_addCode (A := ow a ca H.size) (ca := ca) (k0 := 48 + d9) (Or.inl rfl) (Or.inr (Or.inl rfl)) (by omega)) (cwV 1 hts (gV tw_1_133 tw_1_134 tw_1_135 tw_1_2 tw_1_136) rfl rfl rfl (by decide +kernel) ⟨Nat.le_of_ble_eq_true rfl, Nat.le_of_ble_eq_true rfl⟩) hC hS (ow_in hAa hAca hA hZ0) ow_n (hW.recv hK) hW rfl rfl hl.1 (Nat.le_of_ble_eq_true rfl) ⟨Nat.zero_le _, Nat.zero_le _⟩ dX0_addNumber_72 (fun H3 L3 hP3 hk3 hS => ?_)
          have hZ3 := hS.1
          refine lv_lload hx hb dX0_addNumber_75 (lv_at hl 2 rfl) ?_
          refine lv_ldc2 (v := 10) hx hb hown (hts _ tw_3_123) dX0_addNumber_77 ?_
          refine lv_ldiv hx hb dX0_addNumber_80 (by decide) ?_
          refine lv_cvl (tnL_div (by omega)) ?_
          refine lv_lstore (lv' := [(4, .long (tnL k)), (3, .int (bI true)), (6, .int (nI d9)), (0, .ref a), (1, .long x)]) hx hb dX0_addNumber_81 hl (by decide) rfl (fun ls hl => ?_)
          refine lv_goto (tgt := 19) hx hb dX0_addNumber_83 (by decide) ?_
          exact ih k (Nat.lt_succ_self k) ls true _ H3 L3 (lv_sub hl [0, 1, 3, 4] rfl) (by omega) hS hP3 (by rw [← hF, take_take60, List.append_assoc, digs_t hd9 (by rw [c_1]; rfl)])
      · refine lv_iload hx hb dX0_addNumber_44 (lv_at hl 0 rfl) ?_
        refine z_ne (tgt := 56) hx hb dX0_addNumber_46 (by decide) (by omega) (fun c_4 => ?_) (fun c_4 => ?_)
        · refine lv_iconst (v := nI 1) hx hb dX0_addNumber_56 (by decide) ?_
          refine lv_goto (tgt := 61) hx hb dX0_addNumber_57 (by decide) ?_
          refine lv_istore_n (lv' := [(3, .int (bI true)), (6, .int (nI d9)), (4, .long (tnL (k + 1))), (0, .ref a), (1, .long x)]) hx hb dX0_addNumber_61 rfl hl (by decide) rfl (fun ls hl => ?_)
          refine lv_iload_n hx hb dX0_addNumber_62 rfl (lv_at hl 0 rfl) ?_
          refine f_eq (tgt := 75) hx hb dX0_addNumber_63 (by decide) (fun c_5 => ?_) (fun c_5 => ?_)
          · exact absurd c_5 (by decide)
          · refine lv_aload_n hx hb dX0_addNumber_66 rfl (lv_at hl 3 rfl) ?_
            refine lv_bipush (v := nI 48) hx hb dX0_addNumber_67 (by decide) ?_
            refine lv_iload hx hb dX0_addNumber_69 (lv_at hl 1 rfl) ?_
            refine lv_iadd hx hb dX0_addNumber_71 ?_
            refine lv_cv (nI_add 48 d9) ?_
            refine qV_V (A := A) (A1 := ow a ca H.size) (b := a) (As := [.int (nI (48 + d9))]) (rest := []) ⟨hx, hb, hml, hown, hts⟩ (mX0_addCode (A := ow a ca H.size) (ca := ca) (k0 := 48 + d9) (Or.inl rfl) (Or.inr (Or.inl rfl)) (by omega)) (cwV 1 hts (gV tw_1_133 tw_1_134 tw_1_135 tw_1_2 tw_1_136) rfl rfl rfl (by decide +kernel) ⟨Nat.le_of_ble_eq_true rfl, Nat.le_of_ble_eq_true rfl⟩) hC hS (ow_in hAa hAca hA hZ0) ow_n (hW.recv hK) hW rfl rfl hl.1 (Nat.le_of_ble_eq_true rfl) ⟨Nat.zero_le _, Nat.zero_le _⟩ dX0_addNumber_72 (fun H6 L6 hP6 hk6 hS => ?_)
            have hZ6 := hS.1
            refine lv_lload hx hb dX0_addNumber_75 (lv_at hl 2 rfl) ?_
            refine lv_ldc2 (v := 10) hx hb hown (hts _ tw_3_123) dX0_addNumber_77 ?_
            refine lv_ldiv hx hb dX0_addNumber_80 (by decide) ?_
            refine lv_cvl (tnL_div (by omega)) ?_
            refine lv_lstore (lv' := [(4, .long (tnL k)), (3, .int (bI true)), (6, .int (nI d9)), (0, .ref a), (1, .long x)]) hx hb dX0_addNumber_81 hl (by decide) rfl (fun ls hl => ?_)
            refine lv_goto (tgt := 19) hx hb dX0_addNumber_83 (by decide) ?_
            exact ih k (Nat.lt_succ_self k) ls true _ H6 L6 (lv_sub hl [0, 1, 3, 4] rfl) (by omega) hS hP6 (by rw [← hF, take_take60, List.append_assoc, digs_t hd9 (by simp [c_4])])
        · refine lv_lload hx hb dX0_addNumber_49 (lv_at hl 1 rfl) ?_
          refine lv_lconst (v := 1) hx hb dX0_addNumber_51 (by decide) ?_
          refine W.lcmp hx hb dX0_addNumber_52 ?_
          rw [tnL_cmp1 (by omega)]
          refine lv_if_ne (tgt := 60) hx hb dX0_addNumber_53 (by decide) (fun c_7 => ?_) (fun c_7 => ?_)
          · refine lv_iconst (v := nI 0) hx hb dX0_addNumber_60 (by decide) ?_
            refine lv_istore_n (lv' := [(3, .int (bI false)), (6, .int (nI d9)), (4, .long (tnL (k + 1))), (0, .ref a), (1, .long x)]) hx hb dX0_addNumber_61 rfl hl (by decide) rfl (fun ls hl => ?_)
            refine lv_iload_n hx hb dX0_addNumber_62 rfl (lv_at hl 0 rfl) ?_
            refine f_eq (tgt := 75) hx hb dX0_addNumber_63 (by decide) (fun c_8 => ?_) (fun c_8 => ?_)
            · refine lv_lload hx hb dX0_addNumber_75 (lv_at hl 2 rfl) ?_
              refine lv_ldc2 (v := 10) hx hb hown (hts _ tw_3_123) dX0_addNumber_77 ?_
              refine lv_ldiv hx hb dX0_addNumber_80 (by decide) ?_
              refine lv_cvl (tnL_div (by omega)) ?_
              refine lv_lstore (lv' := [(4, .long (tnL k)), (3, .int (bI false)), (6, .int (nI d9)), (0, .ref a), (1, .long x)]) hx hb dX0_addNumber_81 hl (by decide) rfl (fun ls hl => ?_)
              refine lv_goto (tgt := 19) hx hb dX0_addNumber_83 (by decide) ?_
              exact ih k (Nat.lt_succ_self k) ls false _ H L (lv_sub hl [0, 1, 3, 4] rfl) (by omega) hS hW (by rw [← hF, digs_f hd9 (by have k0 : k ≠ 0 := fun q => c_7 (if_pos q); rw [c_1, c_4]; simp [k0])])
            · exact absurd c_8 (by decide)
          · refine lv_iconst (v := nI 1) hx hb dX0_addNumber_56 (by decide) ?_
            refine lv_goto (tgt := 61) hx hb dX0_addNumber_57 (by decide) ?_
            refine lv_istore_n (lv' := [(3, .int (bI true)), (6, .int (nI d9)), (4, .long (tnL (k + 1))), (0, .ref a), (1, .long x)]) hx hb dX0_addNumber_61 rfl hl (by decide) rfl (fun ls hl => ?_)
            refine lv_iload_n hx hb dX0_addNumber_62 rfl (lv_at hl 0 rfl) ?_
            refine f_eq (tgt := 75) hx hb dX0_addNumber_63 (by decide) (fun c_9 => ?_) (fun c_9 => ?_)
            · exact absurd c_9 (by decide)
            · refine lv_aload_n hx hb dX0_addNumber_66 rfl (lv_at hl 3 rfl) ?_
              refine lv_bipush (v := nI 48) hx hb dX0_addNumber_67 (by decide) ?_
              refine lv_iload hx hb dX0_addNumber_69 (lv_at hl 1 rfl) ?_
              refine lv_iadd hx hb dX0_addNumber_71 ?_
              refine lv_cv (nI_add 48 d9) ?_
              refine qV_V (A := A) (A1 := ow a ca H.size) (b := a) (As := [.int (nI (48 + d9))]) (rest := []) ⟨hx, hb, hml, hown, hts⟩ (mX0_addCode (A := ow a ca H.size) (ca := ca) (k0 := 48 + d9) (Or.inl rfl) (Or.inr (Or.inl rfl)) (by omega)) (cwV 1 hts (gV tw_1_133 tw_1_134 tw_1_135 tw_1_2 tw_1_136) rfl rfl rfl (by decide +kernel) ⟨Nat.le_of_ble_eq_true rfl, Nat.le_of_ble_eq_true rfl⟩) hC hS (ow_in hAa hAca hA hZ0) ow_n (hW.recv hK) hW rfl rfl hl.1 (Nat.le_of_ble_eq_true rfl) ⟨Nat.zero_le _, Nat.zero_le _⟩ dX0_addNumber_72 (fun H10 L10 hP10 hk10 hS => ?_)
              have hZ10 := hS.1
              refine lv_lload hx hb dX0_addNumber_75 (lv_at hl 2 rfl) ?_
              refine lv_ldc2 (v := 10) hx hb hown (hts _ tw_3_123) dX0_addNumber_77 ?_
              refine lv_ldiv hx hb dX0_addNumber_80 (by decide) ?_
              refine lv_cvl (tnL_div (by omega)) ?_
              refine lv_lstore (lv' := [(4, .long (tnL k)), (3, .int (bI true)), (6, .int (nI d9)), (0, .ref a), (1, .long x)]) hx hb dX0_addNumber_81 hl (by decide) rfl (fun ls hl => ?_)
              refine lv_goto (tgt := 19) hx hb dX0_addNumber_83 (by decide) ?_
              exact ih k (Nat.lt_succ_self k) ls true _ H10 L10 (lv_sub hl [0, 1, 3, 4] rfl) (by omega) hS hP10 (by rw [← hF, take_take60, List.append_assoc, digs_t hd9 (by have k0 : k = 0 := Decidable.byContradiction (fun q => absurd ((if_neg q).symm.trans c_7) (by decide)); rw [k0]; simp)])
  refine lv_if_ge (tgt := 12) hx hb dX0_addNumber_3 (by decide) (fun c_11 => ?_) (fun c_11 => ?_)
  · have c9 : ¬ x < 0 := (lt0_cmp x).mp c_11
    refine lv_iconst (v := nI 0) hx hb dX0_addNumber_12 (by decide) ?_
    refine lv_istore_n (lv' := [(3, .int (nI 0)), (0, .ref a), (1, .long x)]) hx hb dX0_addNumber_13 rfl hl (by decide) rfl (fun ls hl => ?_)
    refine lv_ldc2 (v := 1000000000000000000) hx hb hown (hts _ tw_3_122) dX0_addNumber_14 ?_
    refine lv_lstore (lv' := [(4, .long 1000000000000000000), (3, .int (nI 0)), (0, .ref a), (1, .long x)]) hx hb dX0_addNumber_17 hl (by decide) rfl (fun ls hl => ?_)
    exact rest 19 ls false (t) s.heap [] hl (Nat.le_refl _) hS hW (by rw [if_neg c9, List.append_nil, List.take_of_length_le t60])
  · have c9 : x < 0 := Decidable.byContradiction (fun q => c_11 ((lt0_cmp x).mpr q))
    refine lv_aload_n hx hb dX0_addNumber_6 rfl (lv_at hl 0 rfl) ?_
    refine lv_bipush (v := nI 45) hx hb dX0_addNumber_7 (by decide) ?_
    refine qV_V (A := A) (A1 := ow a ca s.heap.size) (b := a) (As := [.int (nI 45)]) (rest := []) ⟨hx, hb, hml, hown, hts⟩ (mX0_addCode (A := ow a ca s.heap.size) (ca := ca) (k0 := 45) (Or.inl rfl) (Or.inr (Or.inl rfl)) (by decide)) (cwV 1 hts (gV tw_1_133 tw_1_134 tw_1_135 tw_1_2 tw_1_136) rfl rfl rfl (by decide +kernel) ⟨Nat.le_of_ble_eq_true rfl, Nat.le_of_ble_eq_true rfl⟩) hC hS (ow_in hAa hAca hA (Nat.le_refl _)) ow_n (hW.recv hK) hW rfl rfl hl.1 (Nat.le_of_ble_eq_true rfl) ⟨Nat.zero_le _, Nat.zero_le _⟩ dX0_addNumber_9 (fun H12 L12 hP12 hk12 hS => ?_)
    have hZ12 := hS.1
    refine lv_iconst (v := nI 0) hx hb dX0_addNumber_12 (by decide) ?_
    refine lv_istore_n (lv' := [(3, .int (nI 0)), (0, .ref a), (1, .long x)]) hx hb dX0_addNumber_13 rfl hl (by decide) rfl (fun ls hl => ?_)
    refine lv_ldc2 (v := 1000000000000000000) hx hb hown (hts _ tw_3_122) dX0_addNumber_14 ?_
    refine lv_lstore (lv' := [(4, .long 1000000000000000000), (3, .int (nI 0)), (0, .ref a), (1, .long x)]) hx hb dX0_addNumber_17 hl (by decide) rfl (fun ls hl => ?_)
    exact rest 19 ls false ((t ++ [45]).take 60) H12 L12 hl (Nat.le_refl _) hS hP12 (by rw [if_pos c9])
