/-! The model, 14: numbers as rows -/
theorem abs19 (x : Int64) : x.toInt.natAbs < 10 ^ 19 := by
  have h1 := Int64.le_toInt x
  have h2 := Int64.toInt_lt x
  have h3 : (10 : Nat) ^ 19 = 10000000000000000000 := rfl
  omega
theorem pow19 {v n : Nat} (hv : v < 10 ^ 19) (hn : 19 ≤ n) : v / 10 ^ n = 0 := Nat.div_eq_of_lt (Nat.lt_of_lt_of_le hv (Nat.pow_le_pow_right (by decide) hn))
theorem div10 {y : Int64} {v : Nat} (hy : y.toInt.natAbs = v) : (y / 10).toInt.natAbs = v / 10 := by
  rw [div_int y 10 (by decide), Int.natAbs_tdiv, hy]; rfl
theorem cmp0 {z : Int64} (h : z.toInt.natAbs = 0) : lg_cmp z 0 = 0 := by
  have e3 : z = 0 := by rw [← Int64.toInt_inj]; exact Int.natAbs_eq_zero.mp h
  rw [e3]; rfl
theorem cmp0r {z : Int64} (h : lg_cmp z 0 = 0) : z.toInt.natAbs = 0 := by
  unfold lg_cmp at h
  split at h
  · exact absurd h (by decide)
  · split at h
    · next q => rw [q]; rfl
    · exact absurd h (by decide)
theorem dig_abs {y : Int64} {v : Nat} (hy : y.toInt.natAbs = v) : (y - y / 10 * 10).toInt.natAbs = v % 10 := by
  rw [rem_int y 10 (by decide), Int.natAbs_tmod, hy]; rfl
theorem dig_ge {y : Int64} {v : Nat} (hy : y.toInt.natAbs = v) (h : 0 ≤ lg_cmp (y - y / 10 * 10) 0) : (y - y / 10 * 10).toInt32 = nI (v % 10) := by
  have h1 := dig_abs hy
  have h2 := (lt0_cmp _).mp h
  generalize y - y / 10 * 10 = r at *
  have h6 : v % 10 < 10 := Nat.mod_lt _ (by decide)
  have h7 : r.toInt32.toInt = r.toInt := by rw [Int64.toInt_toInt32]; exact bmod_id32 (by omega) (by omega)
  have h8 : ¬ r.toInt < 0 := fun q => h2 (by rw [Int64.lt_iff_toInt_lt]; exact q)
  rw [← Int32.toInt_inj, h7, nI_toInt (by omega)]; omega
theorem dig_lt {y : Int64} {v : Nat} (hy : y.toInt.natAbs = v) (h : ¬ 0 ≤ lg_cmp (y - y / 10 * 10) 0) : (-(y - y / 10 * 10)).toInt32 = nI (v % 10) := by
  have h1 := dig_abs hy
  have h2 : y - y / 10 * 10 < 0 := Decidable.byContradiction (fun q => h ((lt0_cmp _).mpr q))
  generalize y - y / 10 * 10 = r at *
  have h6 : v % 10 < 10 := Nat.mod_lt _ (by decide)
  have h8 : r.toInt < 0 := by rw [Int64.lt_iff_toInt_lt] at h2; exact h2
  have h9 : (-r).toInt = -r.toInt := by rw [Int64.toInt_neg]; exact bmod_id (by omega) (by omega)
  have h7 : (-r).toInt32.toInt = -r.toInt := by rw [Int64.toInt_toInt32, h9]; exact bmod_id32 (by omega) (by omega)
  rw [← Int32.toInt_inj, h7, nI_toInt (by omega)]; omega
theorem digsT (n v : Nat) : (digs n v true).length = n ∧ ∀ i : Nat, i < n → (digs n v true).getD (n - 1 - i) 0 = 48 + v / 10 ^ i % 10 := by
  induction n with
  | zero => exact ⟨rfl, fun i hi => absurd hi (Nat.not_lt_zero i)⟩
  | succ n ih =>
    rw [digs_t rfl rfl]
    refine ⟨by rw [List.length_append, ih.1]; show 1 + n = n + 1; omega, fun i hi => ?_⟩
    rcases Nat.lt_succ_iff_lt_or_eq.mp hi with q | q
    · rw [show n + 1 - 1 - i = (n - 1 - i) + 1 by omega]
      show (_ :: digs n v true).getD (n - 1 - i + 1) 0 = _
      rw [List.getD_cons_succ]; exact ih.2 i q
    · rw [q, show n + 1 - 1 - n = 0 by omega]; rfl
theorem digsF {m v : Nat} (h0 : 1 ≤ m) (h1 : m = 1 ∨ v / 10 ^ (m - 1) ≠ 0) (h2 : v / 10 ^ m = 0) : ∀ n : Nat, m ≤ n → digs n v false = digs m v true := by
  intro n hn
  induction n with
  | zero => omega
  | succ n ih =>
    rcases Nat.lt_or_ge n m with q | q
    · have e : m = n + 1 := by omega
      subst e
      rw [Nat.add_sub_cancel] at h1
      have h3 : v / 10 ^ n < 10 := by
        rw [Nat.pow_succ, ← Nat.div_div_eq_div_mul] at h2
        exact Decidable.byContradiction (fun z => by omega)
      rw [digs_t rfl (b := true) rfl]
      rw [digs_t rfl (by
        rcases h1 with z | z
        · rw [show n = 0 by omega]; simp
        · rw [Nat.mod_eq_of_lt h3]; simp [z])]
    · have h3 : v / 10 ^ n = 0 := by
        rw [show n = m + (n - m) by omega, Nat.pow_add, ← Nat.div_div_eq_div_mul, h2, Nat.zero_div]
      rw [digs_f (d := 0) (by rw [h3]) (by have z : n ≠ 0 := (by omega); simp [z])]
      exact ih q
theorem numL_get {x : Int64} {m sg : Nat} (h0 : 1 ≤ m) (hm : m ≤ 19) (h1 : m = 1 ∨ x.toInt.natAbs / 10 ^ (m - 1) ≠ 0) (h2 : x.toInt.natAbs / 10 ^ m = 0) (hs : sg = if x < 0 then 1 else 0) : (numL x).length = m + sg ∧ (∀ i : Nat, i < m → (numL x).getD (m + sg - 1 - i) 0 = 48 + x.toInt.natAbs / 10 ^ i % 10) ∧ (x < 0 → (numL x).getD 0 0 = 45) := by
  have hd := digsT m x.toInt.natAbs
  unfold numL
  rw [digsF h0 h1 h2 19 hm]
  by_cases c : x < 0
  · rw [if_pos c] at hs ⊢
    subst hs
    refine ⟨by rw [List.length_append, hd.1]; show 1 + m = m + 1; omega, fun i hi => ?_, fun _ => rfl⟩
    rw [show m + 1 - 1 - i = (m - 1 - i) + 1 by omega]
    show (45 :: digs m _ true).getD (m - 1 - i + 1) 0 = _
    rw [List.getD_cons_succ]; exact hd.2 i hi
  · rw [if_neg c] at hs ⊢
    subst hs
    exact ⟨hd.1, fun i hi => hd.2 i hi, fun q => absurd q c⟩
theorem digs_len (n v : Nat) (b : Bool) : (digs n v b).length ≤ n ∧ okc (digs n v b) := by
  induction n generalizing b with
  | zero => exact ⟨Nat.le_refl _, okc_nil⟩
  | succ n ih =>
    have h6 : v / 10 ^ n % 10 < 10 := Nat.mod_lt _ (by decide)
    unfold digs
    have h7 := ih (b || decide (v / 10 ^ n % 10 ≠ 0) || decide (n = 0))
    rw [List.length_append]
    refine ⟨?_, okc_app ?_ h7.2⟩
    · split
      · show 1 + _ ≤ _; omega
      · show 0 + _ ≤ _; omega
    · split
      · exact okc_one (by omega)
      · exact okc_nil
theorem numL_len (x : Int64) : (numL x).length ≤ 20 := by
  have h := (digs_len 19 x.toInt.natAbs false).1
  unfold numL
  rw [List.length_append]
  split
  · show 1 + _ ≤ _; omega
  · show 0 + _ ≤ _; omega
theorem numL_take {x : Int64} : (numL x).take 60 = numL x := List.take_of_length_le (by have := numL_len x; omega)
theorem numL_ok (x : Int64) : okc ((numL x).take 60) ∧ ((numL x).take 60).length ≤ 20 := by
  rw [numL_take]
  refine ⟨?_, numL_len x⟩
  unfold numL
  refine okc_app ?_ (digs_len 19 x.toInt.natAbs false).2
  split
  · exact okc_one (by decide)
  · exact okc_nil
theorem dX4_digits_0 : decode cX4_digits 0 = .ok (.bipush 20, 2) := by decide +kernel
theorem dX4_digits_2 : decode cX4_digits 2 = .ok (.newarray .int, 2) := by decide +kernel
theorem dX4_digits_4 : decode cX4_digits 4 = .ok (.astore_n 2, 1) := by decide +kernel
theorem dX4_digits_5 : decode cX4_digits 5 = .ok (.iconst 0, 1) := by decide +kernel
theorem dX4_digits_6 : decode cX4_digits 6 = .ok (.istore_n 3, 1) := by decide +kernel
theorem dX4_digits_7 : decode cX4_digits 7 = .ok (.lload_n 0, 1) := by decide +kernel
theorem dX4_digits_8 : decode cX4_digits 8 = .ok (.lstore 4, 2) := by decide +kernel
theorem dX4_digits_10 : decode cX4_digits 10 = .ok (.lload 4, 2) := by decide +kernel
theorem dX4_digits_12 : decode cX4_digits 12 = .ok (.ldc2_w 15, 3) := by decide +kernel
theorem dX4_digits_15 : decode cX4_digits 15 = .ok (.lrem, 1) := by decide +kernel
theorem dX4_digits_16 : decode cX4_digits 16 = .ok (.lstore 6, 2) := by decide +kernel
theorem dX4_digits_18 : decode cX4_digits 18 = .ok (.aload_n 2, 1) := by decide +kernel
theorem dX4_digits_19 : decode cX4_digits 19 = .ok (.iload_n 3, 1) := by decide +kernel
theorem dX4_digits_20 : decode cX4_digits 20 = .ok (.bipush 48, 2) := by decide +kernel
theorem dX4_digits_22 : decode cX4_digits 22 = .ok (.lload 6, 2) := by decide +kernel
theorem dX4_digits_24 : decode cX4_digits 24 = .ok (.lconst 0, 1) := by decide +kernel
theorem dX4_digits_25 : decode cX4_digits 25 = .ok (.lcmp, 1) := by decide +kernel
theorem dX4_digits_26 : decode cX4_digits 26 = .ok (.ifCond .ge 9, 3) := by decide +kernel
theorem dX4_digits_29 : decode cX4_digits 29 = .ok (.lload 6, 2) := by decide +kernel
theorem dX4_digits_31 : decode cX4_digits 31 = .ok (.lneg, 1) := by decide +kernel
theorem dX4_digits_32 : decode cX4_digits 32 = .ok (.goto 5, 3) := by decide +kernel
theorem dX4_digits_35 : decode cX4_digits 35 = .ok (.lload 6, 2) := by decide +kernel
theorem dX4_digits_37 : decode cX4_digits 37 = .ok (.l2i, 1) := by decide +kernel
theorem dX4_digits_38 : decode cX4_digits 38 = .ok (.iadd, 1) := by decide +kernel
theorem dX4_digits_39 : decode cX4_digits 39 = .ok (.iastore, 1) := by decide +kernel
theorem dX4_digits_40 : decode cX4_digits 40 = .ok (.iinc 3 1, 3) := by decide +kernel
theorem dX4_digits_43 : decode cX4_digits 43 = .ok (.lload 4, 2) := by decide +kernel
theorem dX4_digits_45 : decode cX4_digits 45 = .ok (.ldc2_w 15, 3) := by decide +kernel
theorem dX4_digits_48 : decode cX4_digits 48 = .ok (.ldiv, 1) := by decide +kernel
theorem dX4_digits_49 : decode cX4_digits 49 = .ok (.lstore 4, 2) := by decide +kernel
theorem dX4_digits_51 : decode cX4_digits 51 = .ok (.lload 4, 2) := by decide +kernel
theorem dX4_digits_53 : decode cX4_digits 53 = .ok (.lconst 0, 1) := by decide +kernel
theorem dX4_digits_54 : decode cX4_digits 54 = .ok (.lcmp, 1) := by decide +kernel
theorem dX4_digits_55 : decode cX4_digits 55 = .ok (.ifCond .ne (-45), 3) := by decide +kernel
theorem dX4_digits_58 : decode cX4_digits 58 = .ok (.iload_n 3, 1) := by decide +kernel
theorem dX4_digits_59 : decode cX4_digits 59 = .ok (.lload_n 0, 1) := by decide +kernel
theorem dX4_digits_60 : decode cX4_digits 60 = .ok (.lconst 0, 1) := by decide +kernel
theorem dX4_digits_61 : decode cX4_digits 61 = .ok (.lcmp, 1) := by decide +kernel
theorem dX4_digits_62 : decode cX4_digits 62 = .ok (.ifCond .ge 7, 3) := by decide +kernel
theorem dX4_digits_65 : decode cX4_digits 65 = .ok (.iconst 1, 1) := by decide +kernel
theorem dX4_digits_66 : decode cX4_digits 66 = .ok (.goto 4, 3) := by decide +kernel
theorem dX4_digits_69 : decode cX4_digits 69 = .ok (.iconst 0, 1) := by decide +kernel
theorem dX4_digits_70 : decode cX4_digits 70 = .ok (.invokestatic 17, 3) := by decide +kernel
theorem dX4_digits_73 : decode cX4_digits 73 = .ok (.iadd, 1) := by decide +kernel
theorem dX4_digits_74 : decode cX4_digits 74 = .ok (.newarray .int, 2) := by decide +kernel
theorem dX4_digits_76 : decode cX4_digits 76 = .ok (.astore 6, 2) := by decide +kernel
theorem dX4_digits_78 : decode cX4_digits 78 = .ok (.lload_n 0, 1) := by decide +kernel
theorem dX4_digits_79 : decode cX4_digits 79 = .ok (.lconst 0, 1) := by decide +kernel
theorem dX4_digits_80 : decode cX4_digits 80 = .ok (.lcmp, 1) := by decide +kernel
theorem dX4_digits_81 : decode cX4_digits 81 = .ok (.ifCond .ge 9, 3) := by decide +kernel
theorem dX4_digits_84 : decode cX4_digits 84 = .ok (.aload 6, 2) := by decide +kernel
theorem dX4_digits_86 : decode cX4_digits 86 = .ok (.iconst 0, 1) := by decide +kernel
theorem dX4_digits_87 : decode cX4_digits 87 = .ok (.bipush 45, 2) := by decide +kernel
theorem dX4_digits_89 : decode cX4_digits 89 = .ok (.iastore, 1) := by decide +kernel
theorem dX4_digits_90 : decode cX4_digits 90 = .ok (.iconst 0, 1) := by decide +kernel
theorem dX4_digits_91 : decode cX4_digits 91 = .ok (.istore 7, 2) := by decide +kernel
theorem dX4_digits_93 : decode cX4_digits 93 = .ok (.iload 7, 2) := by decide +kernel
theorem dX4_digits_95 : decode cX4_digits 95 = .ok (.iload_n 3, 1) := by decide +kernel
theorem dX4_digits_96 : decode cX4_digits 96 = .ok (.if_icmp .ge 24, 3) := by decide +kernel
theorem dX4_digits_99 : decode cX4_digits 99 = .ok (.aload 6, 2) := by decide +kernel
theorem dX4_digits_101 : decode cX4_digits 101 = .ok (.aload 6, 2) := by decide +kernel
theorem dX4_digits_103 : decode cX4_digits 103 = .ok (.arraylength, 1) := by decide +kernel
theorem dX4_digits_104 : decode cX4_digits 104 = .ok (.iconst 1, 1) := by decide +kernel
theorem dX4_digits_105 : decode cX4_digits 105 = .ok (.isub, 1) := by decide +kernel
theorem dX4_digits_106 : decode cX4_digits 106 = .ok (.iload 7, 2) := by decide +kernel
theorem dX4_digits_108 : decode cX4_digits 108 = .ok (.isub, 1) := by decide +kernel
theorem dX4_digits_109 : decode cX4_digits 109 = .ok (.aload_n 2, 1) := by decide +kernel
theorem dX4_digits_110 : decode cX4_digits 110 = .ok (.iload 7, 2) := by decide +kernel
theorem dX4_digits_112 : decode cX4_digits 112 = .ok (.iaload, 1) := by decide +kernel
theorem dX4_digits_113 : decode cX4_digits 113 = .ok (.iastore, 1) := by decide +kernel
theorem dX4_digits_114 : decode cX4_digits 114 = .ok (.iinc 7 1, 3) := by decide +kernel
theorem dX4_digits_117 : decode cX4_digits 117 = .ok (.goto (-24), 3) := by decide +kernel
theorem dX4_digits_120 : decode cX4_digits 120 = .ok (.aload 6, 2) := by decide +kernel
theorem dX4_digits_122 : decode cX4_digits 122 = .ok (.areturn, 1) := by decide +kernel
abbrev rmX4_digits : Room := { frames := 1, cells := 2, slots := 40, locals := 20 }
theorem mX4_digits {l : Launch} {G : Cx} {A : Nat → Prop} {x : Int64} {sz : Nat} : Met l yX4_digits (.code yX4_digits cX4_digits 8 (some (.array .int)) :: GW) rmX4_digits (PC G A [.long x] (fun H => H.size = sz)) (qR A (fun r H => sz ≤ r ∧ IA0 G r ((numL x).take 60) H)) 2 40 (A) := by
  refine mstart "SigntextModel" (by decide +kernel) rfl (Nat.le_of_ble_eq_true rfl) ?_
  intro p e s m below meth c ls hx hb hr hts hown hml hlocks hname hC hA hW hl
  have hl : lv_has ls 8 [(0, .long x)] := hl
  have hK := hC.1
  have hS : va_S A s.heap s.heap [] := va_S.rf
  have hv19 := abs19 x
  refine lv_bipush (v := nI 20) hx hb dX4_digits_0 (by decide) ?_
  refine h_newa (D := G.1) (atype := .int) (N := 20) (z := (20, .inl (fun _ => 0))) hx hb (hts _ tw_1_70) rfl (fun h => h) hK 0 rfl hS rfl (nI_pos (by omega)) (nI_clamp (by omega)) (show 20 * _ ≤ _ from by show 20 * 4 ≤ 536870912; omega) (Nat.le_trans (show 0 + 1 ≤ 2 by omega) (Nat.le_of_ble_eq_true rfl)) (Nat.le_trans (show 0 + 20 ≤ 40 by omega) (Nat.le_of_ble_eq_true rfl)) dX4_digits_2 (fun na H1 hna hFna z1 o1 hS => ?_)
  have hZ1 := hS.1
  have hMna : A na := hA na (by omega)
  have naz : sz ≤ na := by omega
  refine lv_astore_n (lv' := [(2, .ref na), (0, .long x)]) hx hb dX4_digits_4 rfl hl (by decide) rfl (fun ls hl => ?_)
  refine lv_iconst (v := nI 0) hx hb dX4_digits_5 (by decide) ?_
  refine lv_istore_n (lv' := [(3, .int (nI 0)), (2, .ref na), (0, .long x)]) hx hb dX4_digits_6 rfl hl (by decide) rfl (fun ls hl => ?_)
  refine lv_lload_n hx hb dX4_digits_7 rfl (lv_at hl 2 rfl) ?_
  refine lv_lstore (lv' := [(4, .long x), (3, .int (nI 0)), (2, .ref na), (0, .long x)]) hx hb dX4_digits_8 hl (by decide) rfl (fun ls hl => ?_)
  refine nloop (P := fun j => ∀ (ls : Array Slot) (H : Heap) (L : List Loc) (y : Int64) (f : Nat → Int32), lv_has ls 8 [(4, .long y), (3, .int (nI j)), (2, .ref na), (0, .long x)] → va_S A s.heap H L → y.toInt.natAbs = x.toInt.natAbs / 10 ^ j → (j = 0 ∨ x.toInt.natAbs / 10 ^ j ≠ 0) → va_at G.1 vwCl (na, .inl (G.2.1 0, 20, .inl f)) H → (∀ q : Nat, q < j → f q = nI (48 + x.toInt.natAbs / 10 ^ q % 10)) → W p l e rmX4_digits s m [.long x].toArray below meth c H L (0 + 1) (0 + 20) (MQ below (qR A (fun r H => sz ≤ r ∧ IA0 G r ((numL x).take 60) H)) [.long x].toArray s 2 40 (A)) (F0 m 10 ls [])) 18 ?_ 0 (Nat.zero_le _) ls H1 [] x (fun _ => 0) hl hS (by rw [Nat.pow_zero, Nat.div_one]) (Or.inl rfl) hFna (fun q hq => absurd hq (Nat.not_lt_zero q))
  clear hl
  intro j hj ih ls H L y f hl
  clear hS hFna
  intro hS hy hjz hFna hf
  have hZ0 := hS.1
  refine lv_lload hx hb dX4_digits_10 (lv_at hl 0 rfl) ?_
  refine lv_ldc2 (v := 10) hx hb hown (hts _ tw_5_25) dX4_digits_12 ?_
  refine lv_lrem hx hb dX4_digits_15 (by decide) ?_
  refine lv_lstore (lv' := [(6, .long (y - y / 10 * 10)), (4, .long y), (3, .int (nI j)), (2, .ref na), (0, .long x)]) hx hb dX4_digits_16 hl (by decide) rfl (fun ls hl => ?_)
  refine lv_aload_n hx hb dX4_digits_18 rfl (lv_at hl 3 rfl) ?_
  refine lv_iload_n hx hb dX4_digits_19 rfl (lv_at hl 2 rfl) ?_
  refine lv_bipush (v := nI 48) hx hb dX4_digits_20 (by decide) ?_
  refine lv_lload hx hb dX4_digits_22 (lv_at hl 0 rfl) ?_
  refine lv_lconst (v := 0) hx hb dX4_digits_24 (by decide) ?_
  refine W.lcmp hx hb dX4_digits_25 ?_
  refine lv_if_ge (tgt := 35) hx hb dX4_digits_26 (by decide) (fun c_2 => ?_) (fun c_2 => ?_)
  · refine lv_lload hx hb dX4_digits_35 (lv_at hl 0 rfl) ?_
    refine lv_l2i hx hb dX4_digits_37 rfl ?_
    refine lv_cv (dig_ge hy c_2) ?_
    have d10 : x.toInt.natAbs / 10 ^ j % 10 < 10 := Nat.mod_lt _ (by decide)
    refine lv_iadd hx hb dX4_digits_38 ?_
    refine lv_cv (nI_add 48 (x.toInt.natAbs / 10 ^ j % 10)) ?_
    refine h_ist (D := G.1) hx hb hK 0 hFna rfl hS hMna (vp_in_nI (n := j) (N := 20) (by omega) (by omega)) dX4_digits_39 (fun H3 L3 hFna z3 o3 hS => ?_)
    rw [nI_clamp (n := j) (by omega)] at hFna
    have hZ3 := hS.1
    have hf : ∀ q : Nat, q < j + 1 → (upd f j (nI (48 + x.toInt.natAbs / 10 ^ j % 10))) q = nI (48 + x.toInt.natAbs / 10 ^ q % 10) := fun q hq => by by_cases e9 : q = j; rw [e9, pk_us]; rw [pk_un e9]; exact hf q (by omega)
    refine lv_iinc (v := nI (j + 1)) (lv' := [(3, .int (nI (j + 1))), (6, .long (y - y / 10 * 10)), (4, .long y), (2, .ref na), (0, .long x)]) hx hb dX4_digits_40 hl (k := 2) rfl (nI_add j 1) (by decide) rfl (fun ls hl => ?_)
    refine lv_lload hx hb dX4_digits_43 (lv_at hl 2 rfl) ?_
    refine lv_ldc2 (v := 10) hx hb hown (hts _ tw_5_25) dX4_digits_45 ?_
    refine lv_ldiv hx hb dX4_digits_48 (by decide) ?_
    have hy2 : (y / 10).toInt.natAbs = x.toInt.natAbs / 10 ^ (j + 1) := by rw [div10 hy, Nat.div_div_eq_div_mul, ← Nat.pow_succ]
    refine lv_lstore (lv' := [(4, .long (y / 10)), (3, .int (nI (j + 1))), (6, .long (y - y / 10 * 10)), (2, .ref na), (0, .long x)]) hx hb dX4_digits_49 hl (by decide) rfl (fun ls hl => ?_)
    refine lv_lload hx hb dX4_digits_51 (lv_at hl 0 rfl) ?_
    refine lv_lconst (v := 0) hx hb dX4_digits_53 (by decide) ?_
    refine W.lcmp hx hb dX4_digits_54 ?_
    refine lv_if_ne (tgt := 10) hx hb dX4_digits_55 (by decide) (fun c_4 => ?_) (fun c_4 => ?_)
    · have hnz : x.toInt.natAbs / 10 ^ (j + 1) ≠ 0 := fun q => c_4 (cmp0 (hy2.trans q))
      have hj18 : j + 1 ≤ 18 := by rcases Nat.lt_or_ge j 18 with q | q; omega; exact absurd (pow19 hv19 (by omega)) hnz
      exact ih (j + 1) (by omega) hj18 ls H3 L3 _ _ (lv_sub hl [0, 1, 3, 4] rfl) hS hy2 (Or.inr hnz) hFna hf
    · have hz9 : x.toInt.natAbs / 10 ^ (j + 1) = 0 := by rw [← hy2]; exact cmp0r c_4
      clear ih
      refine lv_iload_n hx hb dX4_digits_58 rfl (lv_at hl 1 rfl) ?_
      refine lv_lload_n hx hb dX4_digits_59 rfl (lv_at hl 4 rfl) ?_
      refine lv_lconst (v := 0) hx hb dX4_digits_60 (by decide) ?_
      refine W.lcmp hx hb dX4_digits_61 ?_
      refine lv_if_ge (tgt := 69) hx hb dX4_digits_62 (by decide) (fun c_5 => ?_) (fun c_5 => ?_)
      · have c9 : ¬ x < 0 := (lt0_cmp x).mp c_5
        refine lv_iconst (v := nI 0) hx hb dX4_digits_69 (by decide) ?_
        refine kS_i (A := A) (As := [.int (bI false)]) (rest := .int (nI (j + 1)) :: []) ⟨hx, hb, hml, hown, hts⟩ (mX4_one (A := A) ) (va_cwS 1 hts (gS tw_5_26 tw_5_27 tw_1_8 tw_5_28) rfl rfl rfl (by decide +kernel) ⟨Nat.le_of_ble_eq_true rfl, Nat.le_of_ble_eq_true rfl⟩) hC hS hA  trivial rfl rfl hl.1 (Nat.le_of_ble_eq_true rfl) ⟨Nat.le_trans (show (0 + 1) ≤ 2 by omega) (Nat.le_of_ble_eq_true rfl), Nat.le_trans (show (0 + 20) ≤ 40 by omega) (Nat.le_of_ble_eq_true rfl)⟩ dX4_digits_70 (fun r9 h9 => lv_cv h9 ?_)
        refine lv_cv (show bI false = nI 0 from rfl) ?_
        refine lv_iadd hx hb dX4_digits_73 ?_
        refine lv_cv (nI_add (j + 1) 0) ?_
        refine h_newa (D := G.1) (atype := .int) (N := j + 1 + 0) (z := (j + 1 + 0, .inl (fun _ => 0))) hx hb (hts _ tw_1_70) rfl (fun h => h) hK 0 rfl hS rfl (nI_pos (by omega)) (nI_clamp (by omega)) (show (j + 1 + 0) * _ ≤ _ from by show (j + 1 + 0) * 4 ≤ 536870912; omega) (Nat.le_trans (show (0 + 1) + 1 ≤ 2 by omega) (Nat.le_of_ble_eq_true rfl)) (Nat.le_trans (show (0 + 20) + (j + 1 + 0) ≤ 40 by omega) (Nat.le_of_ble_eq_true rfl)) dX4_digits_74 (fun nb H6 hnb hFnb z6 o6 hS => ?_)
        have n6hFna : na ≠ nb := fun q => absurd hFna.lt (by rw [q, hnb]; exact Nat.lt_irrefl _)
        have hFna := at_n hFna o6
        have hZ6 := hS.1
        have hMnb : A nb := hA nb (by omega)
        refine lv_astore (lv' := [(6, .ref nb), (4, .long (y / 10)), (3, .int (nI (j + 1))), (2, .ref na), (0, .long x)]) hx hb dX4_digits_76 hl (by decide) rfl (fun ls hl => ?_)
        refine lv_lload_n hx hb dX4_digits_78 rfl (lv_at hl 4 rfl) ?_
        refine lv_lconst (v := 0) hx hb dX4_digits_79 (by decide) ?_
        refine W.lcmp hx hb dX4_digits_80 ?_
        refine lv_if_ge (tgt := 90) hx hb dX4_digits_81 (by decide) (fun c_7 => ?_) (fun c_7 => ?_)
        · refine lv_iconst (v := nI 0) hx hb dX4_digits_90 (by decide) ?_
          refine lv_istore (lv' := [(7, .int (nI 0)), (6, .ref nb), (4, .long (y / 10)), (3, .int (nI (j + 1))), (2, .ref na), (0, .long x)]) hx hb dX4_digits_91 hl (by decide) rfl (fun ls hl => ?_)
          have nea : na ≠ nb := n6hFna
          obtain ⟨f2, hf2⟩ : ∃ f2, f2 = (upd f j (nI (48 + x.toInt.natAbs / 10 ^ j % 10))) := ⟨_, rfl⟩
          rw [← hf2] at hFna hf
          have hl : lv_has ls 8 [(7, .int (nI 0)), (6, .ref nb), (3, .int (nI (j + 1))), (2, .ref na)] := (lv_sub hl [0, 1, 3, 4] rfl)
          refine nloop (P := fun q => ∀ (ls : Array Slot) (H : Heap) (L : List Loc) (g : Nat → Int32), lv_has ls 8 [(7, .int (nI q)), (6, .ref nb), (3, .int (nI (j + 1))), (2, .ref na)] → va_S A s.heap H L → va_at G.1 vwCl (na, .inl (G.2.1 0, 20, .inl f2)) H → va_at G.1 vwCl (nb, .inl (G.2.1 0, j + 1 + 0, .inl g)) H → (∀ i : Nat, i < q → g (j + 1 + 0 - 1 - i) = nI (48 + x.toInt.natAbs / 10 ^ i % 10)) → W p l e rmX4_digits s m [.long x].toArray below meth c H L ((0 + 1) + 1) ((0 + 20) + (j + 1 + 0)) (MQ below (qR A (fun r H => sz ≤ r ∧ IA0 G r ((numL x).take 60) H)) [.long x].toArray s 2 40 (A)) (F0 m 93 ls [])) (j + 1) ?_ 0 (Nat.zero_le _) ls H6 L3 (fun _ => 0) hl hS hFna hFnb (fun i hi => absurd hi (Nat.not_lt_zero i)) 
          clear hl
          intro q hq ih ls H L g hl
          clear hS hFna hFnb
          intro hS hFna hFnb hg
          have hZ0 := hS.1
          refine lv_iload hx hb dX4_digits_93 (lv_at hl 0 rfl) ?_
          refine lv_iload_n hx hb dX4_digits_95 rfl (lv_at hl 2 rfl) ?_
          refine b_ge (tgt := 120) hx hb dX4_digits_96 (by decide) (by omega) (by omega) (fun c_8 => ?_) (fun c_8 => ?_)
          · have e9 : q = j + 1 := by omega
            subst e9
            refine lv_aload hx hb dX4_digits_120 (lv_at hl 1 rfl) ?_
            obtain ⟨nl1, nl2, nl3⟩ := numL_get (x := x) (m := j + 1) (sg := 0) (by omega) (by omega) (by rcases hjz with q | q; exact Or.inl (by omega); exact Or.inr q) hz9 (by rw [if_neg c9])
            exact q_a hx hb hr (Or.inr ⟨_, rfl⟩) hlocks dX4_digits_122 hS (by omega) (by omega) ⟨by omega, by rw [numL_take]; exact IA0.mk hFnb nl1.symm (fun i hi => by have e8 : j + 1 + 0 - 1 - (j + 1 + 0 - 1 - i) = i := (by omega); have h8 := hg (j + 1 + 0 - 1 - i) (by omega); have h9 := nl2 (j + 1 + 0 - 1 - i) (by omega); rw [e8] at h8 h9; rw [h8, h9])⟩
          · refine lv_aload hx hb dX4_digits_99 (lv_at hl 1 rfl) ?_
            refine lv_aload hx hb dX4_digits_101 (lv_at hl 1 rfl) ?_
            refine va_alen hx hb hK (at_P hFnb) 0 0 (v := nI (j + 1 + 0)) rfl rfl rfl dX4_digits_103 ?_
            refine lv_iconst (v := nI 1) hx hb dX4_digits_104 (by decide) ?_
            refine lv_isub hx hb dX4_digits_105 ?_
            refine lv_cv (pk_sub (a := j + 1 + 0) (b := 1) (by omega)) ?_
            refine lv_iload hx hb dX4_digits_106 (lv_at hl 0 rfl) ?_
            refine lv_isub hx hb dX4_digits_108 ?_
            refine lv_cv (pk_sub (a := j + 1 + 0 - 1) (b := q) (by omega)) ?_
            refine lv_aload_n hx hb dX4_digits_109 rfl (lv_at hl 3 rfl) ?_
            refine lv_iload hx hb dX4_digits_110 (lv_at hl 0 rfl) ?_
            refine va_iald hx hb hK (at_P hFna) 0 0 rfl rfl (vp_in_nI (n := q) (N := 20) (by omega) (by omega)) dX4_digits_112 ?_
            refine lv_cv (show _ = f2 q from by rw [nI_clamp (by omega)]) ?_
            refine lv_cv (hf q (by omega)) ?_
            refine h_ist (D := G.1) hx hb hK 0 hFnb rfl hS hMnb (vp_in_nI (n := j + 1 + 0 - 1 - q) (N := j + 1 + 0) (by omega) (by omega)) dX4_digits_113 (fun H9 L9 hFnb z9 o9 hS => ?_)
            rw [nI_clamp (n := j + 1 + 0 - 1 - q) (by omega)] at hFnb
            have hFna := at_o hFna o9 nea
            have hZ9 := hS.1
            refine lv_iinc (v := nI (q + 1)) (lv' := [(7, .int (nI (q + 1))), (6, .ref nb), (3, .int (nI (j + 1))), (2, .ref na)]) hx hb dX4_digits_114 hl (k := 0) rfl (nI_add q 1) (by decide) rfl (fun ls hl => ?_)
            refine lv_goto (tgt := 93) hx hb dX4_digits_117 (by decide) ?_
            exact ih (q + 1) (by omega) (by omega) ls H9 L9 _ (lv_sub hl [0, 1, 2, 3] rfl) hS hFna hFnb (fun i hi => by by_cases e9 : i = q; rw [e9, show j + 1 + 0 - 1 - q = j + 1 + 0 - 1 - q by omega, pk_us]; rw [pk_un (by omega)]; exact hg i (by omega))
        · exact absurd ((lt0_cmp x).mpr c9) c_7
      · have c9 : x < 0 := Decidable.byContradiction (fun q => c_5 ((lt0_cmp x).mpr q))
        refine lv_iconst (v := nI 1) hx hb dX4_digits_65 (by decide) ?_
        refine lv_goto (tgt := 70) hx hb dX4_digits_66 (by decide) ?_
        refine kS_i (A := A) (As := [.int (bI true)]) (rest := .int (nI (j + 1)) :: []) ⟨hx, hb, hml, hown, hts⟩ (mX4_one (A := A) ) (va_cwS 1 hts (gS tw_5_26 tw_5_27 tw_1_8 tw_5_28) rfl rfl rfl (by decide +kernel) ⟨Nat.le_of_ble_eq_true rfl, Nat.le_of_ble_eq_true rfl⟩) hC hS hA  trivial rfl rfl hl.1 (Nat.le_of_ble_eq_true rfl) ⟨Nat.le_trans (show (0 + 1) ≤ 2 by omega) (Nat.le_of_ble_eq_true rfl), Nat.le_trans (show (0 + 20) ≤ 40 by omega) (Nat.le_of_ble_eq_true rfl)⟩ dX4_digits_70 (fun r9 h9 => lv_cv h9 ?_)
        refine lv_cv (show bI true = nI 1 from rfl) ?_
        refine lv_iadd hx hb dX4_digits_73 ?_
        refine lv_cv (nI_add (j + 1) 1) ?_
        refine h_newa (D := G.1) (atype := .int) (N := j + 1 + 1) (z := (j + 1 + 1, .inl (fun _ => 0))) hx hb (hts _ tw_1_70) rfl (fun h => h) hK 0 rfl hS rfl (nI_pos (by omega)) (nI_clamp (by omega)) (show (j + 1 + 1) * _ ≤ _ from by show (j + 1 + 1) * 4 ≤ 536870912; omega) (Nat.le_trans (show (0 + 1) + 1 ≤ 2 by omega) (Nat.le_of_ble_eq_true rfl)) (Nat.le_trans (show (0 + 20) + (j + 1 + 1) ≤ 40 by omega) (Nat.le_of_ble_eq_true rfl)) dX4_digits_74 (fun nb H10 hnb hFnb z10 o10 hS => ?_)
        have n10hFna : na ≠ nb := fun q => absurd hFna.lt (by rw [q, hnb]; exact Nat.lt_irrefl _)
        have hFna := at_n hFna o10
        have hZ10 := hS.1
        have hMnb : A nb := hA nb (by omega)
        refine lv_astore (lv' := [(6, .ref nb), (4, .long (y / 10)), (3, .int (nI (j + 1))), (2, .ref na), (0, .long x)]) hx hb dX4_digits_76 hl (by decide) rfl (fun ls hl => ?_)
        refine lv_lload_n hx hb dX4_digits_78 rfl (lv_at hl 4 rfl) ?_
        refine lv_lconst (v := 0) hx hb dX4_digits_79 (by decide) ?_
        refine W.lcmp hx hb dX4_digits_80 ?_
        refine lv_if_ge (tgt := 90) hx hb dX4_digits_81 (by decide) (fun c_11 => ?_) (fun c_11 => ?_)
        · exact absurd c9 ((lt0_cmp x).mp c_11)
        · refine lv_aload hx hb dX4_digits_84 (lv_at hl 0 rfl) ?_
          refine lv_iconst (v := nI 0) hx hb dX4_digits_86 (by decide) ?_
          refine lv_bipush (v := nI 45) hx hb dX4_digits_87 (by decide) ?_
          have nea : na ≠ nb := n10hFna
          refine h_ist (D := G.1) hx hb hK 0 hFnb rfl hS hMnb (vp_in_nI (n := 0) (N := j + 1 + 1) (by omega) (by omega)) dX4_digits_89 (fun H12 L12 hFnb z12 o12 hS => ?_)
          rw [nI_clamp (n := 0) (by omega)] at hFnb
          have hFna := at_o hFna o12 n10hFna
          have hZ12 := hS.1
          refine lv_iconst (v := nI 0) hx hb dX4_digits_90 (by decide) ?_
          refine lv_istore (lv' := [(7, .int (nI 0)), (6, .ref nb), (4, .long (y / 10)), (3, .int (nI (j + 1))), (2, .ref na), (0, .long x)]) hx hb dX4_digits_91 hl (by decide) rfl (fun ls hl => ?_)
          obtain ⟨f2, hf2⟩ : ∃ f2, f2 = (upd f j (nI (48 + x.toInt.natAbs / 10 ^ j % 10))) := ⟨_, rfl⟩
          rw [← hf2] at hFna hf
          have hl : lv_has ls 8 [(7, .int (nI 0)), (6, .ref nb), (3, .int (nI (j + 1))), (2, .ref na)] := (lv_sub hl [0, 1, 3, 4] rfl)
          refine nloop (P := fun q => ∀ (ls : Array Slot) (H : Heap) (L : List Loc) (g : Nat → Int32), lv_has ls 8 [(7, .int (nI q)), (6, .ref nb), (3, .int (nI (j + 1))), (2, .ref na)] → va_S A s.heap H L → va_at G.1 vwCl (na, .inl (G.2.1 0, 20, .inl f2)) H → va_at G.1 vwCl (nb, .inl (G.2.1 0, j + 1 + 1, .inl g)) H → (∀ i : Nat, i < q → g (j + 1 + 1 - 1 - i) = nI (48 + x.toInt.natAbs / 10 ^ i % 10)) → (g 0 = nI 45) → W p l e rmX4_digits s m [.long x].toArray below meth c H L ((0 + 1) + 1) ((0 + 20) + (j + 1 + 1)) (MQ below (qR A (fun r H => sz ≤ r ∧ IA0 G r ((numL x).take 60) H)) [.long x].toArray s 2 40 (A)) (F0 m 93 ls [])) (j + 1) ?_ 0 (Nat.zero_le _) ls H12 L12 (upd (fun _ => 0) 0 (nI 45)) hl hS hFna hFnb (fun i hi => absurd hi (Nat.not_lt_zero i)) pk_us
          clear hl
          intro q hq ih ls H L g hl
          clear hS hFna hFnb
          intro hS hFna hFnb hg hg0
          have hZ0 := hS.1
          refine lv_iload hx hb dX4_digits_93 (lv_at hl 0 rfl) ?_
          refine lv_iload_n hx hb dX4_digits_95 rfl (lv_at hl 2 rfl) ?_
          refine b_ge (tgt := 120) hx hb dX4_digits_96 (by decide) (by omega) (by omega) (fun c_13 => ?_) (fun c_13 => ?_)
          · have e9 : q = j + 1 := by omega
            subst e9
            refine lv_aload hx hb dX4_digits_120 (lv_at hl 1 rfl) ?_
            obtain ⟨nl1, nl2, nl3⟩ := numL_get (x := x) (m := j + 1) (sg := 1) (by omega) (by omega) (by rcases hjz with q | q; exact Or.inl (by omega); exact Or.inr q) hz9 (by rw [if_pos c9])
            exact q_a hx hb hr (Or.inr ⟨_, rfl⟩) hlocks dX4_digits_122 hS (by omega) (by omega) ⟨by omega, by rw [numL_take]; exact IA0.mk hFnb nl1.symm (fun i hi => by rcases Nat.eq_zero_or_pos i with q | q; rw [q, nl3 c9]; exact hg0; have e8 : j + 1 + 1 - 1 - (j + 1 + 1 - 1 - i) = i := (by omega); have h8 := hg (j + 1 + 1 - 1 - i) (by omega); have h9 := nl2 (j + 1 + 1 - 1 - i) (by omega); rw [e8] at h8 h9; rw [h8, h9])⟩
          · refine lv_aload hx hb dX4_digits_99 (lv_at hl 1 rfl) ?_
            refine lv_aload hx hb dX4_digits_101 (lv_at hl 1 rfl) ?_
            refine va_alen hx hb hK (at_P hFnb) 0 0 (v := nI (j + 1 + 1)) rfl rfl rfl dX4_digits_103 ?_
            refine lv_iconst (v := nI 1) hx hb dX4_digits_104 (by decide) ?_
            refine lv_isub hx hb dX4_digits_105 ?_
            refine lv_cv (nI_pred (j + 1)) ?_
            refine lv_iload hx hb dX4_digits_106 (lv_at hl 0 rfl) ?_
            refine lv_isub hx hb dX4_digits_108 ?_
            refine lv_cv (pk_sub (a := j + 1) (b := q) (by omega)) ?_
            refine lv_aload_n hx hb dX4_digits_109 rfl (lv_at hl 3 rfl) ?_
            refine lv_iload hx hb dX4_digits_110 (lv_at hl 0 rfl) ?_
            refine va_iald hx hb hK (at_P hFna) 0 0 rfl rfl (vp_in_nI (n := q) (N := 20) (by omega) (by omega)) dX4_digits_112 ?_
            refine lv_cv (show _ = f2 q from by rw [nI_clamp (by omega)]) ?_
            refine lv_cv (hf q (by omega)) ?_
            refine h_ist (D := G.1) hx hb hK 0 hFnb rfl hS hMnb (vp_in_nI (n := j + 1 - q) (N := j + 1 + 1) (by omega) (by omega)) dX4_digits_113 (fun H14 L14 hFnb z14 o14 hS => ?_)
            rw [nI_clamp (n := j + 1 - q) (by omega)] at hFnb
            have hFna := at_o hFna o14 nea
            have hZ14 := hS.1
            refine lv_iinc (v := nI (q + 1)) (lv' := [(7, .int (nI (q + 1))), (6, .ref nb), (3, .int (nI (j + 1))), (2, .ref na)]) hx hb dX4_digits_114 hl (k := 0) rfl (nI_add q 1) (by decide) rfl (fun ls hl => ?_)
            refine lv_goto (tgt := 93) hx hb dX4_digits_117 (by decide) ?_
            exact ih (q + 1) (by omega) (by omega) ls H14 L14 _ (lv_sub hl [0, 1, 2, 3] rfl) hS hFna hFnb (fun i hi => by by_cases e9 : i = q; rw [e9, show j + 1 + 1 - 1 - q = j + 1 - q by omega, pk_us]; rw [pk_un (by omega)]; exact hg i (by omega)) (by rw [pk_un (by omega)]; exact hg0)
  · refine lv_lload hx hb dX4_digits_29 (lv_at hl 0 rfl) ?_
    refine lv_lneg hx hb dX4_digits_31 ?_
    refine lv_goto (tgt := 37) hx hb dX4_digits_32 (by decide) ?_
    refine lv_l2i hx hb dX4_digits_37 rfl ?_
    refine lv_cv (dig_lt hy c_2) ?_
    have d10 : x.toInt.natAbs / 10 ^ j % 10 < 10 := Nat.mod_lt _ (by decide)
    refine lv_iadd hx hb dX4_digits_38 ?_
    refine lv_cv (nI_add 48 (x.toInt.natAbs / 10 ^ j % 10)) ?_
    refine h_ist (D := G.1) hx hb hK 0 hFna rfl hS hMna (vp_in_nI (n := j) (N := 20) (by omega) (by omega)) dX4_digits_39 (fun H15 L15 hFna z15 o15 hS => ?_)
    rw [nI_clamp (n := j) (by omega)] at hFna
    have hZ15 := hS.1
    have hf : ∀ q : Nat, q < j + 1 → (upd f j (nI (48 + x.toInt.natAbs / 10 ^ j % 10))) q = nI (48 + x.toInt.natAbs / 10 ^ q % 10) := fun q hq => by by_cases e9 : q = j; rw [e9, pk_us]; rw [pk_un e9]; exact hf q (by omega)
    refine lv_iinc (v := nI (j + 1)) (lv' := [(3, .int (nI (j + 1))), (6, .long (y - y / 10 * 10)), (4, .long y), (2, .ref na), (0, .long x)]) hx hb dX4_digits_40 hl (k := 2) rfl (nI_add j 1) (by decide) rfl (fun ls hl => ?_)
    refine lv_lload hx hb dX4_digits_43 (lv_at hl 2 rfl) ?_
    refine lv_ldc2 (v := 10) hx hb hown (hts _ tw_5_25) dX4_digits_45 ?_
    refine lv_ldiv hx hb dX4_digits_48 (by decide) ?_
    have hy2 : (y / 10).toInt.natAbs = x.toInt.natAbs / 10 ^ (j + 1) := by rw [div10 hy, Nat.div_div_eq_div_mul, ← Nat.pow_succ]
    refine lv_lstore (lv' := [(4, .long (y / 10)), (3, .int (nI (j + 1))), (6, .long (y - y / 10 * 10)), (2, .ref na), (0, .long x)]) hx hb dX4_digits_49 hl (by decide) rfl (fun ls hl => ?_)
    refine lv_lload hx hb dX4_digits_51 (lv_at hl 0 rfl) ?_
    refine lv_lconst (v := 0) hx hb dX4_digits_53 (by decide) ?_
    refine W.lcmp hx hb dX4_digits_54 ?_
    refine lv_if_ne (tgt := 10) hx hb dX4_digits_55 (by decide) (fun c_16 => ?_) (fun c_16 => ?_)
    · have hnz : x.toInt.natAbs / 10 ^ (j + 1) ≠ 0 := fun q => c_16 (cmp0 (hy2.trans q))
      have hj18 : j + 1 ≤ 18 := by rcases Nat.lt_or_ge j 18 with q | q; omega; exact absurd (pow19 hv19 (by omega)) hnz
      exact ih (j + 1) (by omega) hj18 ls H15 L15 _ _ (lv_sub hl [0, 1, 3, 4] rfl) hS hy2 (Or.inr hnz) hFna hf
    · have hz9 : x.toInt.natAbs / 10 ^ (j + 1) = 0 := by rw [← hy2]; exact cmp0r c_16
      clear ih
      refine lv_iload_n hx hb dX4_digits_58 rfl (lv_at hl 1 rfl) ?_
      refine lv_lload_n hx hb dX4_digits_59 rfl (lv_at hl 4 rfl) ?_
      refine lv_lconst (v := 0) hx hb dX4_digits_60 (by decide) ?_
      refine W.lcmp hx hb dX4_digits_61 ?_
      refine lv_if_ge (tgt := 69) hx hb dX4_digits_62 (by decide) (fun c_17 => ?_) (fun c_17 => ?_)
      · have c9 : ¬ x < 0 := (lt0_cmp x).mp c_17
        refine lv_iconst (v := nI 0) hx hb dX4_digits_69 (by decide) ?_
        refine kS_i (A := A) (As := [.int (bI false)]) (rest := .int (nI (j + 1)) :: []) ⟨hx, hb, hml, hown, hts⟩ (mX4_one (A := A) ) (va_cwS 1 hts (gS tw_5_26 tw_5_27 tw_1_8 tw_5_28) rfl rfl rfl (by decide +kernel) ⟨Nat.le_of_ble_eq_true rfl, Nat.le_of_ble_eq_true rfl⟩) hC hS hA  trivial rfl rfl hl.1 (Nat.le_of_ble_eq_true rfl) ⟨Nat.le_trans (show (0 + 1) ≤ 2 by omega) (Nat.le_of_ble_eq_true rfl), Nat.le_trans (show (0 + 20) ≤ 40 by omega) (Nat.le_of_ble_eq_true rfl)⟩ dX4_digits_70 (fun r9 h9 => lv_cv h9 ?_)
        refine lv_cv (show bI false = nI 0 from rfl) ?_
        refine lv_iadd hx hb dX4_digits_73 ?_
        refine lv_cv (nI_add (j + 1) 0) ?_
        refine h_newa (D := G.1) (atype := .int) (N := j + 1 + 0) (z := (j + 1 + 0, .inl (fun _ => 0))) hx hb (hts _ tw_1_70) rfl (fun h => h) hK 0 rfl hS rfl (nI_pos (by omega)) (nI_clamp (by omega)) (show (j + 1 + 0) * _ ≤ _ from by show (j + 1 + 0) * 4 ≤ 536870912; omega) (Nat.le_trans (show (0 + 1) + 1 ≤ 2 by omega) (Nat.le_of_ble_eq_true rfl)) (Nat.le_trans (show (0 + 20) + (j + 1 + 0) ≤ 40 by omega) (Nat.le_of_ble_eq_true rfl)) dX4_digits_74 (fun nb H18 hnb hFnb z18 o18 hS => ?_)
        have n18hFna : na ≠ nb := fun q => absurd hFna.lt (by rw [q, hnb]; exact Nat.lt_irrefl _)
        have hFna := at_n hFna o18
        have hZ18 := hS.1
        have hMnb : A nb := hA nb (by omega)
        refine lv_astore (lv' := [(6, .ref nb), (4, .long (y / 10)), (3, .int (nI (j + 1))), (2, .ref na), (0, .long x)]) hx hb dX4_digits_76 hl (by decide) rfl (fun ls hl => ?_)
        refine lv_lload_n hx hb dX4_digits_78 rfl (lv_at hl 4 rfl) ?_
        refine lv_lconst (v := 0) hx hb dX4_digits_79 (by decide) ?_
        refine W.lcmp hx hb dX4_digits_80 ?_
        refine lv_if_ge (tgt := 90) hx hb dX4_digits_81 (by decide) (fun c_19 => ?_) (fun c_19 => ?_)
        · refine lv_iconst (v := nI 0) hx hb dX4_digits_90 (by decide) ?_
          refine lv_istore (lv' := [(7, .int (nI 0)), (6, .ref nb), (4, .long (y / 10)), (3, .int (nI (j + 1))), (2, .ref na), (0, .long x)]) hx hb dX4_digits_91 hl (by decide) rfl (fun ls hl => ?_)
          have nea : na ≠ nb := n18hFna
          obtain ⟨f2, hf2⟩ : ∃ f2, f2 = (upd f j (nI (48 + x.toInt.natAbs / 10 ^ j % 10))) := ⟨_, rfl⟩
          rw [← hf2] at hFna hf
          have hl : lv_has ls 8 [(7, .int (nI 0)), (6, .ref nb), (3, .int (nI (j + 1))), (2, .ref na)] := (lv_sub hl [0, 1, 3, 4] rfl)
          refine nloop (P := fun q => ∀ (ls : Array Slot) (H : Heap) (L : List Loc) (g : Nat → Int32), lv_has ls 8 [(7, .int (nI q)), (6, .ref nb), (3, .int (nI (j + 1))), (2, .ref na)] → va_S A s.heap H L → va_at G.1 vwCl (na, .inl (G.2.1 0, 20, .inl f2)) H → va_at G.1 vwCl (nb, .inl (G.2.1 0, j + 1 + 0, .inl g)) H → (∀ i : Nat, i < q → g (j + 1 + 0 - 1 - i) = nI (48 + x.toInt.natAbs / 10 ^ i % 10)) → W p l e rmX4_digits s m [.long x].toArray below meth c H L ((0 + 1) + 1) ((0 + 20) + (j + 1 + 0)) (MQ below (qR A (fun r H => sz ≤ r ∧ IA0 G r ((numL x).take 60) H)) [.long x].toArray s 2 40 (A)) (F0 m 93 ls [])) (j + 1) ?_ 0 (Nat.zero_le _) ls H18 L15 (fun _ => 0) hl hS hFna hFnb (fun i hi => absurd hi (Nat.not_lt_zero i)) 
          clear hl
          intro q hq ih ls H L g hl
          clear hS hFna hFnb
          intro hS hFna hFnb hg
          have hZ0 := hS.1
          refine lv_iload hx hb dX4_digits_93 (lv_at hl 0 rfl) ?_
          refine lv_iload_n hx hb dX4_digits_95 rfl (lv_at hl 2 rfl) ?_
          refine b_ge (tgt := 120) hx hb dX4_digits_96 (by decide) (by omega) (by omega) (fun c_20 => ?_) (fun c_20 => ?_)
          · have e9 : q = j + 1 := by omega
            subst e9
            refine lv_aload hx hb dX4_digits_120 (lv_at hl 1 rfl) ?_
            obtain ⟨nl1, nl2, nl3⟩ := numL_get (x := x) (m := j + 1) (sg := 0) (by omega) (by omega) (by rcases hjz with q | q; exact Or.inl (by omega); exact Or.inr q) hz9 (by rw [if_neg c9])
            exact q_a hx hb hr (Or.inr ⟨_, rfl⟩) hlocks dX4_digits_122 hS (by omega) (by omega) ⟨by omega, by rw [numL_take]; exact IA0.mk hFnb nl1.symm (fun i hi => by have e8 : j + 1 + 0 - 1 - (j + 1 + 0 - 1 - i) = i := (by omega); have h8 := hg (j + 1 + 0 - 1 - i) (by omega); have h9 := nl2 (j + 1 + 0 - 1 - i) (by omega); rw [e8] at h8 h9; rw [h8, h9])⟩
          · refine lv_aload hx hb dX4_digits_99 (lv_at hl 1 rfl) ?_
            refine lv_aload hx hb dX4_digits_101 (lv_at hl 1 rfl) ?_
            refine va_alen hx hb hK (at_P hFnb) 0 0 (v := nI (j + 1 + 0)) rfl rfl rfl dX4_digits_103 ?_
            refine lv_iconst (v := nI 1) hx hb dX4_digits_104 (by decide) ?_
            refine lv_isub hx hb dX4_digits_105 ?_
            refine lv_cv (pk_sub (a := j + 1 + 0) (b := 1) (by omega)) ?_
            refine lv_iload hx hb dX4_digits_106 (lv_at hl 0 rfl) ?_
            refine lv_isub hx hb dX4_digits_108 ?_
            refine lv_cv (pk_sub (a := j + 1 + 0 - 1) (b := q) (by omega)) ?_
            refine lv_aload_n hx hb dX4_digits_109 rfl (lv_at hl 3 rfl) ?_
            refine lv_iload hx hb dX4_digits_110 (lv_at hl 0 rfl) ?_
            refine va_iald hx hb hK (at_P hFna) 0 0 rfl rfl (vp_in_nI (n := q) (N := 20) (by omega) (by omega)) dX4_digits_112 ?_
            refine lv_cv (show _ = f2 q from by rw [nI_clamp (by omega)]) ?_
            refine lv_cv (hf q (by omega)) ?_
            refine h_ist (D := G.1) hx hb hK 0 hFnb rfl hS hMnb (vp_in_nI (n := j + 1 + 0 - 1 - q) (N := j + 1 + 0) (by omega) (by omega)) dX4_digits_113 (fun H21 L21 hFnb z21 o21 hS => ?_)
            rw [nI_clamp (n := j + 1 + 0 - 1 - q) (by omega)] at hFnb
            have hFna := at_o hFna o21 nea
            have hZ21 := hS.1
            refine lv_iinc (v := nI (q + 1)) (lv' := [(7, .int (nI (q + 1))), (6, .ref nb), (3, .int (nI (j + 1))), (2, .ref na)]) hx hb dX4_digits_114 hl (k := 0) rfl (nI_add q 1) (by decide) rfl (fun ls hl => ?_)
            refine lv_goto (tgt := 93) hx hb dX4_digits_117 (by decide) ?_
            exact ih (q + 1) (by omega) (by omega) ls H21 L21 _ (lv_sub hl [0, 1, 2, 3] rfl) hS hFna hFnb (fun i hi => by by_cases e9 : i = q; rw [e9, show j + 1 + 0 - 1 - q = j + 1 + 0 - 1 - q by omega, pk_us]; rw [pk_un (by omega)]; exact hg i (by omega))
        · exact absurd ((lt0_cmp x).mpr c9) c_19
      · have c9 : x < 0 := Decidable.byContradiction (fun q => c_17 ((lt0_cmp x).mpr q))
        refine lv_iconst (v := nI 1) hx hb dX4_digits_65 (by decide) ?_
        refine lv_goto (tgt := 70) hx hb dX4_digits_66 (by decide) ?_
        refine kS_i (A := A) (As := [.int (bI true)]) (rest := .int (nI (j + 1)) :: []) ⟨hx, hb, hml, hown, hts⟩ (mX4_one (A := A) ) (va_cwS 1 hts (gS tw_5_26 tw_5_27 tw_1_8 tw_5_28) rfl rfl rfl (by decide +kernel) ⟨Nat.le_of_ble_eq_true rfl, Nat.le_of_ble_eq_true rfl⟩) hC hS hA  trivial rfl rfl hl.1 (Nat.le_of_ble_eq_true rfl) ⟨Nat.le_trans (show (0 + 1) ≤ 2 by omega) (Nat.le_of_ble_eq_true rfl), Nat.le_trans (show (0 + 20) ≤ 40 by omega) (Nat.le_of_ble_eq_true rfl)⟩ dX4_digits_70 (fun r9 h9 => lv_cv h9 ?_)
        refine lv_cv (show bI true = nI 1 from rfl) ?_
        refine lv_iadd hx hb dX4_digits_73 ?_
        refine lv_cv (nI_add (j + 1) 1) ?_
        refine h_newa (D := G.1) (atype := .int) (N := j + 1 + 1) (z := (j + 1 + 1, .inl (fun _ => 0))) hx hb (hts _ tw_1_70) rfl (fun h => h) hK 0 rfl hS rfl (nI_pos (by omega)) (nI_clamp (by omega)) (show (j + 1 + 1) * _ ≤ _ from by show (j + 1 + 1) * 4 ≤ 536870912; omega) (Nat.le_trans (show (0 + 1) + 1 ≤ 2 by omega) (Nat.le_of_ble_eq_true rfl)) (Nat.le_trans (show (0 + 20) + (j + 1 + 1) ≤ 40 by omega) (Nat.le_of_ble_eq_true rfl)) dX4_digits_74 (fun nb H22 hnb hFnb z22 o22 hS => ?_)
        have n22hFna : na ≠ nb := fun q => absurd hFna.lt (by rw [q, hnb]; exact Nat.lt_irrefl _)
        have hFna := at_n hFna o22
        have hZ22 := hS.1
        have hMnb : A nb := hA nb (by omega)
        refine lv_astore (lv' := [(6, .ref nb), (4, .long (y / 10)), (3, .int (nI (j + 1))), (2, .ref na), (0, .long x)]) hx hb dX4_digits_76 hl (by decide) rfl (fun ls hl => ?_)
        refine lv_lload_n hx hb dX4_digits_78 rfl (lv_at hl 4 rfl) ?_
        refine lv_lconst (v := 0) hx hb dX4_digits_79 (by decide) ?_
        refine W.lcmp hx hb dX4_digits_80 ?_
        refine lv_if_ge (tgt := 90) hx hb dX4_digits_81 (by decide) (fun c_23 => ?_) (fun c_23 => ?_)
        · exact absurd c9 ((lt0_cmp x).mp c_23)
        · refine lv_aload hx hb dX4_digits_84 (lv_at hl 0 rfl) ?_
          refine lv_iconst (v := nI 0) hx hb dX4_digits_86 (by decide) ?_
          refine lv_bipush (v := nI 45) hx hb dX4_digits_87 (by decide) ?_
          have nea : na ≠ nb := n22hFna
          refine h_ist (D := G.1) hx hb hK 0 hFnb rfl hS hMnb (vp_in_nI (n := 0) (N := j + 1 + 1) (by omega) (by omega)) dX4_digits_89 (fun H24 L24 hFnb z24 o24 hS => ?_)
          rw [nI_clamp (n := 0) (by omega)] at hFnb
          have hFna := at_o hFna o24 n22hFna
          have hZ24 := hS.1
          refine lv_iconst (v := nI 0) hx hb dX4_digits_90 (by decide) ?_
          refine lv_istore (lv' := [(7, .int (nI 0)), (6, .ref nb), (4, .long (y / 10)), (3, .int (nI (j + 1))), (2, .ref na), (0, .long x)]) hx hb dX4_digits_91 hl (by decide) rfl (fun ls hl => ?_)
          obtain ⟨f2, hf2⟩ : ∃ f2, f2 = (upd f j (nI (48 + x.toInt.natAbs / 10 ^ j % 10))) := ⟨_, rfl⟩
          rw [← hf2] at hFna hf
          have hl : lv_has ls 8 [(7, .int (nI 0)), (6, .ref nb), (3, .int (nI (j + 1))), (2, .ref na)] := (lv_sub hl [0, 1, 3, 4] rfl)
          refine nloop (P := fun q => ∀ (ls : Array Slot) (H : Heap) (L : List Loc) (g : Nat → Int32), lv_has ls 8 [(7, .int (nI q)), (6, .ref nb), (3, .int (nI (j + 1))), (2, .ref na)] → va_S A s.heap H L → va_at G.1 vwCl (na, .inl (G.2.1 0, 20, .inl f2)) H → va_at G.1 vwCl (nb, .inl (G.2.1 0, j + 1 + 1, .inl g)) H → (∀ i : Nat, i < q → g (j + 1 + 1 - 1 - i) = nI (48 + x.toInt.natAbs / 10 ^ i % 10)) → (g 0 = nI 45) → W p l e rmX4_digits s m [.long x].toArray below meth c H L ((0 + 1) + 1) ((0 + 20) + (j + 1 + 1)) (MQ below (qR A (fun r H => sz ≤ r ∧ IA0 G r ((numL x).take 60) H)) [.long x].toArray s 2 40 (A)) (F0 m 93 ls [])) (j + 1) ?_ 0 (Nat.zero_le _) ls H24 L24 (upd (fun _ => 0) 0 (nI 45)) hl hS hFna hFnb (fun i hi => absurd hi (Nat.not_lt_zero i)) pk_us
          clear hl
          intro q hq ih ls H L g hl
          clear hS hFna hFnb
          intro hS hFna hFnb hg hg0
          have hZ0 := hS.1
          refine lv_iload hx hb dX4_digits_93 (lv_at hl 0 rfl) ?_
          refine lv_iload_n hx hb dX4_digits_95 rfl (lv_at hl 2 rfl) ?_
          refine b_ge (tgt := 120) hx hb dX4_digits_96 (by decide) (by omega) (by omega) (fun c_25 => ?_) (fun c_25 => ?_)
          · have e9 : q = j + 1 := by omega
            subst e9
            refine lv_aload hx hb dX4_digits_120 (lv_at hl 1 rfl) ?_
            obtain ⟨nl1, nl2, nl3⟩ := numL_get (x := x) (m := j + 1) (sg := 1) (by omega) (by omega) (by rcases hjz with q | q; exact Or.inl (by omega); exact Or.inr q) hz9 (by rw [if_pos c9])
            exact q_a hx hb hr (Or.inr ⟨_, rfl⟩) hlocks dX4_digits_122 hS (by omega) (by omega) ⟨by omega, by rw [numL_take]; exact IA0.mk hFnb nl1.symm (fun i hi => by rcases Nat.eq_zero_or_pos i with q | q; rw [q, nl3 c9]; exact hg0; have e8 : j + 1 + 1 - 1 - (j + 1 + 1 - 1 - i) = i := (by omega); have h8 := hg (j + 1 + 1 - 1 - i) (by omega); have h9 := nl2 (j + 1 + 1 - 1 - i) (by omega); rw [e8] at h8 h9; rw [h8, h9])⟩
          · refine lv_aload hx hb dX4_digits_99 (lv_at hl 1 rfl) ?_
            refine lv_aload hx hb dX4_digits_101 (lv_at hl 1 rfl) ?_
            refine va_alen hx hb hK (at_P hFnb) 0 0 (v := nI (j + 1 + 1)) rfl rfl rfl dX4_digits_103 ?_
            refine lv_iconst (v := nI 1) hx hb dX4_digits_104 (by decide) ?_
            refine lv_isub hx hb dX4_digits_105 ?_
            refine lv_cv (nI_pred (j + 1)) ?_
            refine lv_iload hx hb dX4_digits_106 (lv_at hl 0 rfl) ?_
            refine lv_isub hx hb dX4_digits_108 ?_
            refine lv_cv (pk_sub (a := j + 1) (b := q) (by omega)) ?_
            refine lv_aload_n hx hb dX4_digits_109 rfl (lv_at hl 3 rfl) ?_
            refine lv_iload hx hb dX4_digits_110 (lv_at hl 0 rfl) ?_
            refine va_iald hx hb hK (at_P hFna) 0 0 rfl rfl (vp_in_nI (n := q) (N := 20) (by omega) (by omega)) dX4_digits_112 ?_
            refine lv_cv (show _ = f2 q from by rw [nI_clamp (by omega)]) ?_
            refine lv_cv (hf q (by omega)) ?_
            refine h_ist (D := G.1) hx hb hK 0 hFnb rfl hS hMnb (vp_in_nI (n := j + 1 - q) (N := j + 1 + 1) (by omega) (by omega)) dX4_digits_113 (fun H26 L26 hFnb z26 o26 hS => ?_)
            rw [nI_clamp (n := j + 1 - q) (by omega)] at hFnb
            have hFna := at_o hFna o26 nea
            have hZ26 := hS.1
            refine lv_iinc (v := nI (q + 1)) (lv' := [(7, .int (nI (q + 1))), (6, .ref nb), (3, .int (nI (j + 1))), (2, .ref na)]) hx hb dX4_digits_114 hl (k := 0) rfl (nI_add q 1) (by decide) rfl (fun ls hl => ?_)
            refine lv_goto (tgt := 93) hx hb dX4_digits_117 (by decide) ?_
            exact ih (q + 1) (by omega) (by omega) ls H26 L26 _ (lv_sub hl [0, 1, 2, 3] rfl) hS hFna hFnb (fun i hi => by by_cases e9 : i = q; rw [e9, show j + 1 + 1 - 1 - q = j + 1 - q by omega, pk_us]; rw [pk_un (by omega)]; exact hg i (by omega)) (by rw [pk_un (by omega)]; exact hg0)
