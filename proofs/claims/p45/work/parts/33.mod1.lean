/-! The model, 1: leaves -/
/-- a row of ints of the class of all that are made here -/
def IA0 (G : Cx) (a : Nat) (t : List Nat) (H : Heap) : Prop := ∃ f : Nat → Int32, va_at G.1 vwCl (a, .inl (G.2.1 0, t.length, .inl f)) H ∧ ∀ j : Nat, j < t.length → f j = nI (t.getD j 0)
theorem IA0.mk {G : Cx} {a n : Nat} {t : List Nat} {f : Nat → Int32} {H : Heap} (h : va_at G.1 vwCl (a, .inl (G.2.1 0, n, .inl f)) H) (hn : n = t.length) (hf : ∀ j, j < n → f j = nI (t.getD j 0)) : IA0 G a t H := by
  subst hn; exact ⟨f, h, hf⟩
theorem IA0.ia {G : Cx} {a : Nat} {t : List Nat} {H : Heap} (h6 : G.2.1 6 = G.2.1 0) (h : IA0 G a t H) : IA G a t H := by
  obtain ⟨f, h1, h2⟩ := h
  exact IA.mk h6 h1 rfl h2
theorem IA0.lt {G : Cx} {a : Nat} {t : List Nat} {H : Heap} (h : IA0 G a t H) : a < H.size := by
  obtain ⟨f, h1, -⟩ := h; exact h1.lt
theorem IA0.kp {G : Cx} {a : Nat} {t : List Nat} {X : Nat → Prop} {H H1 : Heap} (h : IA0 G a t H) (hk : kp X H H1) (hX : ¬ X a) : IA0 G a t H1 := by
  obtain ⟨f, h1, h2⟩ := h; exact ⟨f, at_kp h1 hk hX, h2⟩
theorem IA0.o {G : Cx} {a b : Nat} {t : List Nat} {H H1 : Heap} (h : IA0 G a t H) (oq : ∀ q : Nat, q ≠ b → H1[q]? = H[q]?) (n : a ≠ b) : IA0 G a t H1 := by
  obtain ⟨f, h1, h2⟩ := h; exact ⟨f, at_o h1 oq n, h2⟩
theorem IA0.n {G : Cx} {a : Nat} {t : List Nat} {H H1 : Heap} (h : IA0 G a t H) (oq : ∀ q : Nat, q < H.size → H1[q]? = H[q]?) : IA0 G a t H1 := by
  obtain ⟨f, h1, h2⟩ := h; exact ⟨f, at_n h1 oq, h2⟩
theorem IA0.cell {G : Cx} {a : Nat} {t : List Nat} {H : Heap} (h : IA0 G a t H) : ∃ cv : Cell, H[a]? = some cv ∧ cv.cls = G.2.1 0 ∧ ∀ q, cv.vm ≠ .statics q := by
  obtain ⟨f, h1, -⟩ := h
  exact ⟨_, h1, rfl, fun q h => by cases h⟩
theorem rngI {n : Nat} (hn : n < 2 ^ 31) {x : Int32} : (nI 0 ≤ x ∧ x ≤ nI n) ↔ ∃ i : Nat, i ≤ n ∧ x = nI i := by
  constructor
  · intro ⟨h1, h2⟩
    have h3 : ¬ x < 0 := fun q => absurd (Int32.lt_of_lt_of_le q h1) (Int32.lt_irrefl)
    obtain ⟨j, hj, rfl⟩ := nI_of h3
    exact ⟨j, (nI_leI hj hn).mp h2, rfl⟩
  · rintro ⟨i, hi, rfl⟩
    exact ⟨nI_le (Nat.zero_le _) (by omega), nI_le hi hn⟩
theorem cutL_getD {t : List Nat} {i j k : Nat} (h : k < j - i) : (cutL t i j).getD k 0 = t.getD (i + k) 0 := by
  unfold cutL
  rw [List.getD_eq_getElem?_getD, List.getElem?_take, if_pos h, List.getElem?_drop, ← List.getD_eq_getElem?_getD]
theorem getD_app2 {t u : List Nat} {j : Nat} : (t ++ u).getD (t.length + j) 0 = u.getD j 0 := by
  rw [List.getD_eq_getElem?_getD, List.getElem?_append_right (by omega), Nat.add_sub_cancel_left, ← List.getD_eq_getElem?_getD]
theorem dX4_isIn_0 : decode cX4_isIn 0 = .ok (.iload_n 0, 1) := by decide +kernel
theorem dX4_isIn_1 : decode cX4_isIn 1 = .ok (.iload_n 1, 1) := by decide +kernel
theorem dX4_isIn_2 : decode cX4_isIn 2 = .ok (.if_icmp .lt 12, 3) := by decide +kernel
theorem dX4_isIn_5 : decode cX4_isIn 5 = .ok (.iload_n 0, 1) := by decide +kernel
theorem dX4_isIn_6 : decode cX4_isIn 6 = .ok (.iload_n 2, 1) := by decide +kernel
theorem dX4_isIn_7 : decode cX4_isIn 7 = .ok (.if_icmp .gt 7, 3) := by decide +kernel
theorem dX4_isIn_10 : decode cX4_isIn 10 = .ok (.iconst 1, 1) := by decide +kernel
theorem dX4_isIn_11 : decode cX4_isIn 11 = .ok (.goto 4, 3) := by decide +kernel
theorem dX4_isIn_14 : decode cX4_isIn 14 = .ok (.iconst 0, 1) := by decide +kernel
theorem dX4_isIn_15 : decode cX4_isIn 15 = .ok (.ireturn, 1) := by decide +kernel
theorem dX4_one_0 : decode cX4_one 0 = .ok (.iload_n 0, 1) := by decide +kernel
theorem dX4_one_1 : decode cX4_one 1 = .ok (.ifCond .eq 7, 3) := by decide +kernel
theorem dX4_one_4 : decode cX4_one 4 = .ok (.iconst 1, 1) := by decide +kernel
theorem dX4_one_5 : decode cX4_one 5 = .ok (.goto 4, 3) := by decide +kernel
theorem dX4_one_8 : decode cX4_one 8 = .ok (.iconst 0, 1) := by decide +kernel
theorem dX4_one_9 : decode cX4_one 9 = .ok (.ireturn, 1) := by decide +kernel
theorem dX4_cut_0 : decode cX4_cut 0 = .ok (.iload_n 2, 1) := by decide +kernel
theorem dX4_cut_1 : decode cX4_cut 1 = .ok (.iload_n 1, 1) := by decide +kernel
theorem dX4_cut_2 : decode cX4_cut 2 = .ok (.isub, 1) := by decide +kernel
theorem dX4_cut_3 : decode cX4_cut 3 = .ok (.newarray .int, 2) := by decide +kernel
theorem dX4_cut_5 : decode cX4_cut 5 = .ok (.astore_n 3, 1) := by decide +kernel
theorem dX4_cut_6 : decode cX4_cut 6 = .ok (.iload_n 1, 1) := by decide +kernel
theorem dX4_cut_7 : decode cX4_cut 7 = .ok (.istore 4, 2) := by decide +kernel
theorem dX4_cut_9 : decode cX4_cut 9 = .ok (.iload 4, 2) := by decide +kernel
theorem dX4_cut_11 : decode cX4_cut 11 = .ok (.iload_n 2, 1) := by decide +kernel
theorem dX4_cut_12 : decode cX4_cut 12 = .ok (.if_icmp .ge 19, 3) := by decide +kernel
theorem dX4_cut_15 : decode cX4_cut 15 = .ok (.aload_n 3, 1) := by decide +kernel
theorem dX4_cut_16 : decode cX4_cut 16 = .ok (.iload 4, 2) := by decide +kernel
theorem dX4_cut_18 : decode cX4_cut 18 = .ok (.iload_n 1, 1) := by decide +kernel
theorem dX4_cut_19 : decode cX4_cut 19 = .ok (.isub, 1) := by decide +kernel
theorem dX4_cut_20 : decode cX4_cut 20 = .ok (.aload_n 0, 1) := by decide +kernel
theorem dX4_cut_21 : decode cX4_cut 21 = .ok (.iload 4, 2) := by decide +kernel
theorem dX4_cut_23 : decode cX4_cut 23 = .ok (.iaload, 1) := by decide +kernel
theorem dX4_cut_24 : decode cX4_cut 24 = .ok (.iastore, 1) := by decide +kernel
theorem dX4_cut_25 : decode cX4_cut 25 = .ok (.iinc 4 1, 3) := by decide +kernel
theorem dX4_cut_28 : decode cX4_cut 28 = .ok (.goto (-19), 3) := by decide +kernel
theorem dX4_cut_31 : decode cX4_cut 31 = .ok (.aload_n 3, 1) := by decide +kernel
theorem dX4_cut_32 : decode cX4_cut 32 = .ok (.areturn, 1) := by decide +kernel
theorem dX4_joined_0 : decode cX4_joined 0 = .ok (.aload_n 0, 1) := by decide +kernel
theorem dX4_joined_1 : decode cX4_joined 1 = .ok (.arraylength, 1) := by decide +kernel
theorem dX4_joined_2 : decode cX4_joined 2 = .ok (.aload_n 1, 1) := by decide +kernel
theorem dX4_joined_3 : decode cX4_joined 3 = .ok (.arraylength, 1) := by decide +kernel
theorem dX4_joined_4 : decode cX4_joined 4 = .ok (.iadd, 1) := by decide +kernel
theorem dX4_joined_5 : decode cX4_joined 5 = .ok (.newarray .int, 2) := by decide +kernel
theorem dX4_joined_7 : decode cX4_joined 7 = .ok (.astore_n 2, 1) := by decide +kernel
theorem dX4_joined_8 : decode cX4_joined 8 = .ok (.iconst 0, 1) := by decide +kernel
theorem dX4_joined_9 : decode cX4_joined 9 = .ok (.istore_n 3, 1) := by decide +kernel
theorem dX4_joined_10 : decode cX4_joined 10 = .ok (.iload_n 3, 1) := by decide +kernel
theorem dX4_joined_11 : decode cX4_joined 11 = .ok (.aload_n 0, 1) := by decide +kernel
theorem dX4_joined_12 : decode cX4_joined 12 = .ok (.arraylength, 1) := by decide +kernel
theorem dX4_joined_13 : decode cX4_joined 13 = .ok (.if_icmp .ge 15, 3) := by decide +kernel
theorem dX4_joined_16 : decode cX4_joined 16 = .ok (.aload_n 2, 1) := by decide +kernel
theorem dX4_joined_17 : decode cX4_joined 17 = .ok (.iload_n 3, 1) := by decide +kernel
theorem dX4_joined_18 : decode cX4_joined 18 = .ok (.aload_n 0, 1) := by decide +kernel
theorem dX4_joined_19 : decode cX4_joined 19 = .ok (.iload_n 3, 1) := by decide +kernel
theorem dX4_joined_20 : decode cX4_joined 20 = .ok (.iaload, 1) := by decide +kernel
theorem dX4_joined_21 : decode cX4_joined 21 = .ok (.iastore, 1) := by decide +kernel
theorem dX4_joined_22 : decode cX4_joined 22 = .ok (.iinc 3 1, 3) := by decide +kernel
theorem dX4_joined_25 : decode cX4_joined 25 = .ok (.goto (-15), 3) := by decide +kernel
theorem dX4_joined_28 : decode cX4_joined 28 = .ok (.iconst 0, 1) := by decide +kernel
theorem dX4_joined_29 : decode cX4_joined 29 = .ok (.istore_n 3, 1) := by decide +kernel
theorem dX4_joined_30 : decode cX4_joined 30 = .ok (.iload_n 3, 1) := by decide +kernel
theorem dX4_joined_31 : decode cX4_joined 31 = .ok (.aload_n 1, 1) := by decide +kernel
theorem dX4_joined_32 : decode cX4_joined 32 = .ok (.arraylength, 1) := by decide +kernel
theorem dX4_joined_33 : decode cX4_joined 33 = .ok (.if_icmp .ge 18, 3) := by decide +kernel
theorem dX4_joined_36 : decode cX4_joined 36 = .ok (.aload_n 2, 1) := by decide +kernel
theorem dX4_joined_37 : decode cX4_joined 37 = .ok (.aload_n 0, 1) := by decide +kernel
theorem dX4_joined_38 : decode cX4_joined 38 = .ok (.arraylength, 1) := by decide +kernel
theorem dX4_joined_39 : decode cX4_joined 39 = .ok (.iload_n 3, 1) := by decide +kernel
theorem dX4_joined_40 : decode cX4_joined 40 = .ok (.iadd, 1) := by decide +kernel
theorem dX4_joined_41 : decode cX4_joined 41 = .ok (.aload_n 1, 1) := by decide +kernel
theorem dX4_joined_42 : decode cX4_joined 42 = .ok (.iload_n 3, 1) := by decide +kernel
theorem dX4_joined_43 : decode cX4_joined 43 = .ok (.iaload, 1) := by decide +kernel
theorem dX4_joined_44 : decode cX4_joined 44 = .ok (.iastore, 1) := by decide +kernel
theorem dX4_joined_45 : decode cX4_joined 45 = .ok (.iinc 3 1, 3) := by decide +kernel
theorem dX4_joined_48 : decode cX4_joined 48 = .ok (.goto (-18), 3) := by decide +kernel
theorem dX4_joined_51 : decode cX4_joined 51 = .ok (.aload_n 2, 1) := by decide +kernel
theorem dX4_joined_52 : decode cX4_joined 52 = .ok (.areturn, 1) := by decide +kernel
theorem dX4_isWhite_0 : decode cX4_isWhite 0 = .ok (.iload_n 0, 1) := by decide +kernel
theorem dX4_isWhite_1 : decode cX4_isWhite 1 = .ok (.bipush 32, 2) := by decide +kernel
theorem dX4_isWhite_3 : decode cX4_isWhite 3 = .ok (.if_icmp .eq 21, 3) := by decide +kernel
theorem dX4_isWhite_6 : decode cX4_isWhite 6 = .ok (.iload_n 0, 1) := by decide +kernel
theorem dX4_isWhite_7 : decode cX4_isWhite 7 = .ok (.bipush 9, 2) := by decide +kernel
theorem dX4_isWhite_9 : decode cX4_isWhite 9 = .ok (.if_icmp .eq 15, 3) := by decide +kernel
theorem dX4_isWhite_12 : decode cX4_isWhite 12 = .ok (.iload_n 0, 1) := by decide +kernel
theorem dX4_isWhite_13 : decode cX4_isWhite 13 = .ok (.bipush 10, 2) := by decide +kernel
theorem dX4_isWhite_15 : decode cX4_isWhite 15 = .ok (.if_icmp .eq 9, 3) := by decide +kernel
theorem dX4_isWhite_18 : decode cX4_isWhite 18 = .ok (.iload_n 0, 1) := by decide +kernel
theorem dX4_isWhite_19 : decode cX4_isWhite 19 = .ok (.bipush 28, 2) := by decide +kernel
theorem dX4_isWhite_21 : decode cX4_isWhite 21 = .ok (.if_icmp .ne 7, 3) := by decide +kernel
theorem dX4_isWhite_24 : decode cX4_isWhite 24 = .ok (.iconst 1, 1) := by decide +kernel
theorem dX4_isWhite_25 : decode cX4_isWhite 25 = .ok (.goto 4, 3) := by decide +kernel
theorem dX4_isWhite_28 : decode cX4_isWhite 28 = .ok (.iconst 0, 1) := by decide +kernel
theorem dX4_isWhite_29 : decode cX4_isWhite 29 = .ok (.ireturn, 1) := by decide +kernel
theorem dX4_goes_0 : decode cX4_goes 0 = .ok (.iload_n 1, 1) := by decide +kernel
theorem dX4_goes_1 : decode cX4_goes 1 = .ok (.ifCond .eq 10, 3) := by decide +kernel
theorem dX4_goes_4 : decode cX4_goes 4 = .ok (.iload_n 0, 1) := by decide +kernel
theorem dX4_goes_5 : decode cX4_goes 5 = .ok (.invokestatic 23, 3) := by decide +kernel
theorem dX4_goes_8 : decode cX4_goes 8 = .ok (.goto 14, 3) := by decide +kernel
theorem dX4_goes_11 : decode cX4_goes 11 = .ok (.iload_n 0, 1) := by decide +kernel
theorem dX4_goes_12 : decode cX4_goes 12 = .ok (.bipush 32, 2) := by decide +kernel
theorem dX4_goes_14 : decode cX4_goes 14 = .ok (.if_icmp .gt 7, 3) := by decide +kernel
theorem dX4_goes_17 : decode cX4_goes 17 = .ok (.iconst 1, 1) := by decide +kernel
theorem dX4_goes_18 : decode cX4_goes 18 = .ok (.goto 4, 3) := by decide +kernel
theorem dX4_goes_21 : decode cX4_goes 21 = .ok (.iconst 0, 1) := by decide +kernel
theorem dX4_goes_22 : decode cX4_goes 22 = .ok (.ireturn, 1) := by decide +kernel
theorem dX4_isNone_0 : decode cX4_isNone 0 = .ok (.iload_n 0, 1) := by decide +kernel
theorem dX4_isNone_1 : decode cX4_isNone 1 = .ok (.iconst 0, 1) := by decide +kernel
theorem dX4_isNone_2 : decode cX4_isNone 2 = .ok (.iconst 3, 1) := by decide +kernel
theorem dX4_isNone_3 : decode cX4_isNone 3 = .ok (.invokestatic 90, 3) := by decide +kernel
theorem dX4_isNone_6 : decode cX4_isNone 6 = .ok (.ifCond .ne 7, 3) := by decide +kernel
theorem dX4_isNone_9 : decode cX4_isNone 9 = .ok (.iconst 1, 1) := by decide +kernel
theorem dX4_isNone_10 : decode cX4_isNone 10 = .ok (.goto 4, 3) := by decide +kernel
theorem dX4_isNone_13 : decode cX4_isNone 13 = .ok (.iconst 0, 1) := by decide +kernel
theorem dX4_isNone_14 : decode cX4_isNone 14 = .ok (.ireturn, 1) := by decide +kernel
theorem dX4_isNoSign_0 : decode cX4_isNoSign 0 = .ok (.iload_n 0, 1) := by decide +kernel
theorem dX4_isNoSign_1 : decode cX4_isNoSign 1 = .ok (.iconst 0, 1) := by decide +kernel
theorem dX4_isNoSign_2 : decode cX4_isNoSign 2 = .ok (.getstatic 94, 3) := by decide +kernel
theorem dX4_isNoSign_5 : decode cX4_isNoSign 5 = .ok (.arraylength, 1) := by decide +kernel
theorem dX4_isNoSign_6 : decode cX4_isNoSign 6 = .ok (.iconst 1, 1) := by decide +kernel
theorem dX4_isNoSign_7 : decode cX4_isNoSign 7 = .ok (.isub, 1) := by decide +kernel
theorem dX4_isNoSign_8 : decode cX4_isNoSign 8 = .ok (.invokestatic 90, 3) := by decide +kernel
theorem dX4_isNoSign_11 : decode cX4_isNoSign 11 = .ok (.ifCond .ne 7, 3) := by decide +kernel
theorem dX4_isNoSign_14 : decode cX4_isNoSign 14 = .ok (.iconst 1, 1) := by decide +kernel
theorem dX4_isNoSign_15 : decode cX4_isNoSign 15 = .ok (.goto 4, 3) := by decide +kernel
theorem dX4_isNoSign_18 : decode cX4_isNoSign 18 = .ok (.iconst 0, 1) := by decide +kernel
theorem dX4_isNoSign_19 : decode cX4_isNoSign 19 = .ok (.ireturn, 1) := by decide +kernel
theorem dX4_isNoKnown_0 : decode cX4_isNoKnown 0 = .ok (.iload_n 0, 1) := by decide +kernel
theorem dX4_isNoKnown_1 : decode cX4_isNoKnown 1 = .ok (.iconst 0, 1) := by decide +kernel
theorem dX4_isNoKnown_2 : decode cX4_isNoKnown 2 = .ok (.getstatic 97, 3) := by decide +kernel
theorem dX4_isNoKnown_5 : decode cX4_isNoKnown 5 = .ok (.arraylength, 1) := by decide +kernel
theorem dX4_isNoKnown_6 : decode cX4_isNoKnown 6 = .ok (.iconst 1, 1) := by decide +kernel
theorem dX4_isNoKnown_7 : decode cX4_isNoKnown 7 = .ok (.isub, 1) := by decide +kernel
theorem dX4_isNoKnown_8 : decode cX4_isNoKnown 8 = .ok (.invokestatic 90, 3) := by decide +kernel
theorem dX4_isNoKnown_11 : decode cX4_isNoKnown 11 = .ok (.ifCond .ne 7, 3) := by decide +kernel
theorem dX4_isNoKnown_14 : decode cX4_isNoKnown 14 = .ok (.iconst 1, 1) := by decide +kernel
theorem dX4_isNoKnown_15 : decode cX4_isNoKnown 15 = .ok (.goto 4, 3) := by decide +kernel
theorem dX4_isNoKnown_18 : decode cX4_isNoKnown 18 = .ok (.iconst 0, 1) := by decide +kernel
theorem dX4_isNoKnown_19 : decode cX4_isNoKnown 19 = .ok (.ireturn, 1) := by decide +kernel
abbrev rmX4_isIn : Room := { frames := 0, cells := 0, slots := 0, locals := 0 }
theorem mX4_isIn {l : Launch} {G : Cx} {A : Nat → Prop} {x a9 b9 : Int32} : Met l yX4_isIn (.code yX4_isIn cX4_isIn 3 (some .boolean) :: GW) rmX4_isIn (PC G A [.int x, .int a9, .int b9] (fun _ => True)) (vp_Si (fun r => r = bI (decide (a9 ≤ x ∧ x ≤ b9)))) 0 0 (fun _ => False) := by
  refine mstart "SigntextModel" (by decide +kernel) rfl (Nat.le_of_ble_eq_true rfl) ?_
  intro p e s m below meth c ls hx hb hr hts hown hml hlocks hname hC hA hW hl
  have hl : lv_has ls 3 [(0, .int x), (1, .int a9), (2, .int b9)] := hl
  have hK := hC.1
  have hS : va_S A s.heap s.heap [] := va_S.rf
  refine lv_iload_n hx hb dX4_isIn_0 rfl (lv_at hl 0 rfl) ?_
  refine lv_iload_n hx hb dX4_isIn_1 rfl (lv_at hl 1 rfl) ?_
  refine lv_icmp_lt (tgt := 14) hx hb dX4_isIn_2 (by decide) (fun c_1 => ?_) (fun c_1 => ?_)
  · refine lv_iconst (v := nI 0) hx hb dX4_isIn_14 (by decide) ?_
    exact p_z (b := false) hx hb hr hlocks dX4_isIn_15 (by rw [decide_eq_false (fun q => absurd c_1 (Int32.not_lt.mpr q.1))])
  · refine lv_iload_n hx hb dX4_isIn_5 rfl (lv_at hl 0 rfl) ?_
    refine lv_iload_n hx hb dX4_isIn_6 rfl (lv_at hl 2 rfl) ?_
    refine lv_icmp_gt (tgt := 14) hx hb dX4_isIn_7 (by decide) (fun c_2 => ?_) (fun c_2 => ?_)
    · refine lv_iconst (v := nI 0) hx hb dX4_isIn_14 (by decide) ?_
      exact p_z (b := false) hx hb hr hlocks dX4_isIn_15 (by rw [decide_eq_false (fun q => absurd c_2 (Int32.not_lt.mpr q.2))])
    · refine lv_iconst (v := nI 1) hx hb dX4_isIn_10 (by decide) ?_
      refine lv_goto (tgt := 15) hx hb dX4_isIn_11 (by decide) ?_
      exact p_z (b := true) hx hb hr hlocks dX4_isIn_15 (by rw [decide_eq_true ⟨Int32.not_lt.mp c_1, Int32.not_lt.mp c_2⟩])

abbrev rmX4_isNone : Room := { frames := 1, cells := 0, slots := 0, locals := 22 }
theorem mX4_isNone {l : Launch} {G : Cx} {A : Nat → Prop} {x : Int32} : Met l yX4_isNone (.code yX4_isNone cX4_isNone 1 (some .boolean) :: GW) rmX4_isNone (PC G A [.int x] (fun _ => True)) (vp_Si (fun r => ∃ v : Bool, (v = true ↔ NT x) ∧ r = bI v)) 0 0 (fun _ => False) := by
  refine mstart "SigntextModel" (by decide +kernel) rfl (Nat.le_of_ble_eq_true rfl) ?_
  intro p e s m below meth c ls hx hb hr hts hown hml hlocks hname hC hA hW hl
  have hl : lv_has ls 1 [(0, .int x)] := hl
  have hK := hC.1
  have hS : va_S A s.heap s.heap [] := va_S.rf
  obtain ⟨z1, z2, z3, z4, z5, z6, z7, z8, z9, z10, z11, z12, z13⟩ := hC.2.2.1
  refine lv_iload_n hx hb dX4_isNone_0 rfl (lv_at hl 0 rfl) ?_
  refine lv_iconst (v := nI 0) hx hb dX4_isNone_1 (by decide) ?_
  refine lv_iconst (v := nI 3) hx hb dX4_isNone_2 (by decide) ?_
  refine kS_i (A := A) (As := [.int x, .int (nI 0), .int (nI 3)]) (rest := []) ⟨hx, hb, hml, hown, hts⟩ (mX4_isIn (A := A) ) (va_cwS 3 hts (gS tw_4_197 tw_4_198 tw_1_8 tw_4_199) rfl rfl rfl (by decide +kernel) ⟨Nat.le_of_ble_eq_true rfl, Nat.le_of_ble_eq_true rfl⟩) hC hS hA  trivial rfl rfl hl.1 (Nat.le_of_ble_eq_true rfl) ⟨Nat.zero_le _, Nat.zero_le _⟩ dX4_isNone_3 (fun r9 h9 => lv_cv h9 ?_)
  refine f_ne (tgt := 13) hx hb dX4_isNone_6 (by decide) (fun c_3 => ?_) (fun c_3 => ?_)
  · refine lv_iconst (v := nI 0) hx hb dX4_isNone_13 (by decide) ?_
    exact p_z (b := false) hx hb hr hlocks dX4_isNone_14 ⟨false, ⟨fun q => Bool.noConfusion q, fun q => absurd ((rngI (n := 3) (by decide)).mp (of_decide_eq_true c_3)) (fun ⟨i, h1, h2⟩ => q ⟨i, by omega, h2⟩)⟩, rfl⟩
  · refine lv_iconst (v := nI 1) hx hb dX4_isNone_9 (by decide) ?_
    refine lv_goto (tgt := 14) hx hb dX4_isNone_10 (by decide) ?_
    exact p_z (b := true) hx hb hr hlocks dX4_isNone_14 ⟨true, ⟨fun _ ⟨i, h1, h2⟩ => absurd ((rngI (n := 3) (by decide)).mpr ⟨i, by omega, h2⟩) (of_decide_eq_false c_3), fun _ => rfl⟩, rfl⟩

abbrev rmX4_isNoSign : Room := { frames := 1, cells := 0, slots := 0, locals := 22 }
theorem mX4_isNoSign {l : Launch} {G : Cx} {A : Nat → Prop} {x : Int32} : Met l yX4_isNoSign (.code yX4_isNoSign cX4_isNoSign 1 (some .boolean) :: GW) rmX4_isNoSign (PC G A [.int x] (fun _ => True)) (vp_Si (fun r => ∃ v : Bool, (v = true ↔ NS x) ∧ r = bI v)) 0 0 (fun _ => False) := by
  refine mstart "SigntextModel" (by decide +kernel) rfl (Nat.le_of_ble_eq_true rfl) ?_
  intro p e s m below meth c ls hx hb hr hts hown hml hlocks hname hC hA hW hl
  have hl : lv_has ls 1 [(0, .int x)] := hl
  have hK := hC.1
  have hS : va_S A s.heap s.heap [] := va_S.rf
  obtain ⟨z1, z2, z3, z4, z5, z6, z7, z8, z9, z10, z11, z12, z13⟩ := hC.2.2.1
  refine lv_iload_n hx hb dX4_isNoSign_0 rfl (lv_at hl 0 rfl) ?_
  refine lv_iconst (v := nI 0) hx hb dX4_isNoSign_1 (by decide) ?_
  refine va_gets (v := .ref (G.2.2 1)) hx hb z3 hS hown (hts _ tw_4_195) (fun _ h9 => h9) dX4_isNoSign_2 ?_
  refine va_tlen (v := nI 24) hx hb z4 hS rfl dX4_isNoSign_5 ?_
  refine lv_iconst (v := nI 1) hx hb dX4_isNoSign_6 (by decide) ?_
  refine lv_isub hx hb dX4_isNoSign_7 ?_
  refine lv_cv (pk_sub (a := 24) (b := 1) (by omega)) ?_
  refine kS_i (A := A) (As := [.int x, .int (nI 0), .int (nI (24 - 1))]) (rest := []) ⟨hx, hb, hml, hown, hts⟩ (mX4_isIn (A := A) ) (va_cwS 3 hts (gS tw_4_197 tw_4_198 tw_1_8 tw_4_199) rfl rfl rfl (by decide +kernel) ⟨Nat.le_of_ble_eq_true rfl, Nat.le_of_ble_eq_true rfl⟩) hC hS hA  trivial rfl rfl hl.1 (Nat.le_of_ble_eq_true rfl) ⟨Nat.zero_le _, Nat.zero_le _⟩ dX4_isNoSign_8 (fun r9 h9 => lv_cv h9 ?_)
  refine f_ne (tgt := 18) hx hb dX4_isNoSign_11 (by decide) (fun c_4 => ?_) (fun c_4 => ?_)
  · refine lv_iconst (v := nI 0) hx hb dX4_isNoSign_18 (by decide) ?_
    exact p_z (b := false) hx hb hr hlocks dX4_isNoSign_19 ⟨false, ⟨fun q => Bool.noConfusion q, fun q => absurd ((rngI (n := 23) (by decide)).mp (of_decide_eq_true c_4)) (fun ⟨i, h1, h2⟩ => q ⟨i, by omega, h2⟩)⟩, rfl⟩
  · refine lv_iconst (v := nI 1) hx hb dX4_isNoSign_14 (by decide) ?_
    refine lv_goto (tgt := 19) hx hb dX4_isNoSign_15 (by decide) ?_
    exact p_z (b := true) hx hb hr hlocks dX4_isNoSign_19 ⟨true, ⟨fun _ ⟨i, h1, h2⟩ => absurd ((rngI (n := 23) (by decide)).mpr ⟨i, by omega, h2⟩) (of_decide_eq_false c_4), fun _ => rfl⟩, rfl⟩

abbrev rmX4_isNoKnown : Room := { frames := 1, cells := 0, slots := 0, locals := 22 }
theorem mX4_isNoKnown {l : Launch} {G : Cx} {A : Nat → Prop} {x : Int32} : Met l yX4_isNoKnown (.code yX4_isNoKnown cX4_isNoKnown 1 (some .boolean) :: GW) rmX4_isNoKnown (PC G A [.int x] (fun _ => True)) (vp_Si (fun r => ∃ v : Bool, (v = true ↔ NK x) ∧ r = bI v)) 0 0 (fun _ => False) := by
  refine mstart "SigntextModel" (by decide +kernel) rfl (Nat.le_of_ble_eq_true rfl) ?_
  intro p e s m below meth c ls hx hb hr hts hown hml hlocks hname hC hA hW hl
  have hl : lv_has ls 1 [(0, .int x)] := hl
  have hK := hC.1
  have hS : va_S A s.heap s.heap [] := va_S.rf
  obtain ⟨z1, z2, z3, z4, z5, z6, z7, z8, z9, z10, z11, z12, z13⟩ := hC.2.2.1
  refine lv_iload_n hx hb dX4_isNoKnown_0 rfl (lv_at hl 0 rfl) ?_
  refine lv_iconst (v := nI 0) hx hb dX4_isNoKnown_1 (by decide) ?_
  refine va_gets (v := .ref (G.2.2 2)) hx hb z5 hS hown (hts _ tw_5_56) (fun _ h9 => h9) dX4_isNoKnown_2 ?_
  refine va_tlen (v := nI 7) hx hb z6 hS rfl dX4_isNoKnown_5 ?_
  refine lv_iconst (v := nI 1) hx hb dX4_isNoKnown_6 (by decide) ?_
  refine lv_isub hx hb dX4_isNoKnown_7 ?_
  refine lv_cv (pk_sub (a := 7) (b := 1) (by omega)) ?_
  refine kS_i (A := A) (As := [.int x, .int (nI 0), .int (nI (7 - 1))]) (rest := []) ⟨hx, hb, hml, hown, hts⟩ (mX4_isIn (A := A) ) (va_cwS 3 hts (gS tw_4_197 tw_4_198 tw_1_8 tw_4_199) rfl rfl rfl (by decide +kernel) ⟨Nat.le_of_ble_eq_true rfl, Nat.le_of_ble_eq_true rfl⟩) hC hS hA  trivial rfl rfl hl.1 (Nat.le_of_ble_eq_true rfl) ⟨Nat.zero_le _, Nat.zero_le _⟩ dX4_isNoKnown_8 (fun r9 h9 => lv_cv h9 ?_)
  refine f_ne (tgt := 18) hx hb dX4_isNoKnown_11 (by decide) (fun c_5 => ?_) (fun c_5 => ?_)
  · refine lv_iconst (v := nI 0) hx hb dX4_isNoKnown_18 (by decide) ?_
    exact p_z (b := false) hx hb hr hlocks dX4_isNoKnown_19 ⟨false, ⟨fun q => Bool.noConfusion q, fun q => absurd ((rngI (n := 6) (by decide)).mp (of_decide_eq_true c_5)) (fun ⟨i, h1, h2⟩ => q ⟨i, by omega, h2⟩)⟩, rfl⟩
  · refine lv_iconst (v := nI 1) hx hb dX4_isNoKnown_14 (by decide) ?_
    refine lv_goto (tgt := 19) hx hb dX4_isNoKnown_15 (by decide) ?_
    exact p_z (b := true) hx hb hr hlocks dX4_isNoKnown_19 ⟨true, ⟨fun _ ⟨i, h1, h2⟩ => absurd ((rngI (n := 6) (by decide)).mpr ⟨i, by omega, h2⟩) (of_decide_eq_false c_5), fun _ => rfl⟩, rfl⟩

abbrev rmX4_one : Room := { frames := 0, cells := 0, slots := 0, locals := 0 }
theorem mX4_one {l : Launch} {G : Cx} {A : Nat → Prop} {b : Bool} : Met l yX4_one (.code yX4_one cX4_one 1 (some .int) :: GW) rmX4_one (PC G A [.int (bI b)] (fun _ => True)) (vp_Si (fun r => r = bI b)) 0 0 (fun _ => False) := by
  refine mstart "SigntextModel" (by decide +kernel) rfl (Nat.le_of_ble_eq_true rfl) ?_
  intro p e s m below meth c ls hx hb hr hts hown hml hlocks hname hC hA hW hl
  have hl : lv_has ls 1 [(0, .int (bI b))] := hl
  have hK := hC.1
  have hS : va_S A s.heap s.heap [] := va_S.rf
  refine lv_iload_n hx hb dX4_one_0 rfl (lv_at hl 0 rfl) ?_
  refine f_eq (tgt := 8) hx hb dX4_one_1 (by decide) (fun c_6 => ?_) (fun c_6 => ?_)
  · refine lv_iconst (v := nI 0) hx hb dX4_one_8 (by decide) ?_
    subst c_6
    exact p_i hx hb hr hlocks dX4_one_9 rfl
  · refine lv_iconst (v := nI 1) hx hb dX4_one_4 (by decide) ?_
    refine lv_goto (tgt := 9) hx hb dX4_one_5 (by decide) ?_
    subst c_6
    exact p_i hx hb hr hlocks dX4_one_9 rfl

abbrev rmX4_isWhite : Room := { frames := 0, cells := 0, slots := 0, locals := 0 }
theorem mX4_isWhite {l : Launch} {G : Cx} {A : Nat → Prop} {k0 : Nat} (hk0 : k0 < 2 ^ 31) : Met l yX4_isWhite (.code yX4_isWhite cX4_isWhite 1 (some .boolean) :: GW) rmX4_isWhite (PC G A [.int (nI k0)] (fun _ => True)) (vp_Si (fun r => r = bI (goesN true k0))) 0 0 (fun _ => False) := by
  refine mstart "SigntextModel" (by decide +kernel) rfl (Nat.le_of_ble_eq_true rfl) ?_
  intro p e s m below meth c ls hx hb hr hts hown hml hlocks hname hC hA hW hl
  have hl : lv_has ls 1 [(0, .int (nI k0))] := hl
  have hK := hC.1
  have hS : va_S A s.heap s.heap [] := va_S.rf
  refine lv_iload_n hx hb dX4_isWhite_0 rfl (lv_at hl 0 rfl) ?_
  refine lv_bipush (v := nI 32) hx hb dX4_isWhite_1 (by decide) ?_
  refine b_eq (tgt := 24) hx hb dX4_isWhite_3 (by decide) (by omega) (by omega) (fun c_7 => ?_) (fun c_7 => ?_)
  · refine lv_iconst (v := nI 1) hx hb dX4_isWhite_24 (by decide) ?_
    refine lv_goto (tgt := 29) hx hb dX4_isWhite_25 (by decide) ?_
    exact p_z (b := true) hx hb hr hlocks dX4_isWhite_29 (by subst c_7; rfl)
  · refine lv_iload_n hx hb dX4_isWhite_6 rfl (lv_at hl 0 rfl) ?_
    refine lv_bipush (v := nI 9) hx hb dX4_isWhite_7 (by decide) ?_
    refine b_eq (tgt := 24) hx hb dX4_isWhite_9 (by decide) (by omega) (by omega) (fun c_8 => ?_) (fun c_8 => ?_)
    · refine lv_iconst (v := nI 1) hx hb dX4_isWhite_24 (by decide) ?_
      refine lv_goto (tgt := 29) hx hb dX4_isWhite_25 (by decide) ?_
      exact p_z (b := true) hx hb hr hlocks dX4_isWhite_29 (by subst c_8; rfl)
    · refine lv_iload_n hx hb dX4_isWhite_12 rfl (lv_at hl 0 rfl) ?_
      refine lv_bipush (v := nI 10) hx hb dX4_isWhite_13 (by decide) ?_
      refine b_eq (tgt := 24) hx hb dX4_isWhite_15 (by decide) (by omega) (by omega) (fun c_9 => ?_) (fun c_9 => ?_)
      · refine lv_iconst (v := nI 1) hx hb dX4_isWhite_24 (by decide) ?_
        refine lv_goto (tgt := 29) hx hb dX4_isWhite_25 (by decide) ?_
        exact p_z (b := true) hx hb hr hlocks dX4_isWhite_29 (by subst c_9; rfl)
      · refine lv_iload_n hx hb dX4_isWhite_18 rfl (lv_at hl 0 rfl) ?_
        refine lv_bipush (v := nI 28) hx hb dX4_isWhite_19 (by decide) ?_
        refine b_ne (tgt := 28) hx hb dX4_isWhite_21 (by decide) (by omega) (by omega) (fun c_10 => ?_) (fun c_10 => ?_)
        · refine lv_iconst (v := nI 0) hx hb dX4_isWhite_28 (by decide) ?_
          exact p_z (b := false) hx hb hr hlocks dX4_isWhite_29 (by have q : goesN true k0 = false := (by simp [goesN]; omega); rw [q])
        · refine lv_iconst (v := nI 1) hx hb dX4_isWhite_24 (by decide) ?_
          refine lv_goto (tgt := 29) hx hb dX4_isWhite_25 (by decide) ?_
          exact p_z (b := true) hx hb hr hlocks dX4_isWhite_29 (by subst c_10; rfl)

abbrev rmX4_goes : Room := { frames := 1, cells := 0, slots := 0, locals := 20 }
theorem mX4_goes {l : Launch} {G : Cx} {A : Nat → Prop} {k0 : Nat} {b : Bool} (hk0 : k0 < 2 ^ 31) : Met l yX4_goes (.code yX4_goes cX4_goes 2 (some .boolean) :: GW) rmX4_goes (PC G A [.int (nI k0), .int (bI b)] (fun _ => True)) (vp_Si (fun r => r = bI (goesN b k0))) 0 0 (fun _ => False) := by
  refine mstart "SigntextModel" (by decide +kernel) rfl (Nat.le_of_ble_eq_true rfl) ?_
  intro p e s m below meth c ls hx hb hr hts hown hml hlocks hname hC hA hW hl
  have hl : lv_has ls 2 [(0, .int (nI k0)), (1, .int (bI b))] := hl
  have hK := hC.1
  have hS : va_S A s.heap s.heap [] := va_S.rf
  refine lv_iload_n hx hb dX4_goes_0 rfl (lv_at hl 1 rfl) ?_
  refine f_eq (tgt := 11) hx hb dX4_goes_1 (by decide) (fun c_11 => ?_) (fun c_11 => ?_)
  · subst c_11
    refine lv_iload_n hx hb dX4_goes_11 rfl (lv_at hl 0 rfl) ?_
    refine lv_bipush (v := nI 32) hx hb dX4_goes_12 (by decide) ?_
    refine b_gt (tgt := 21) hx hb dX4_goes_14 (by decide) (by omega) (by omega) (fun c_12 => ?_) (fun c_12 => ?_)
    · refine lv_iconst (v := nI 0) hx hb dX4_goes_21 (by decide) ?_
      exact p_z (b := false) hx hb hr hlocks dX4_goes_22 (by have q : goesN false k0 = false := (by simp [goesN]; omega); rw [q])
    · refine lv_iconst (v := nI 1) hx hb dX4_goes_17 (by decide) ?_
      refine lv_goto (tgt := 22) hx hb dX4_goes_18 (by decide) ?_
      exact p_z (b := true) hx hb hr hlocks dX4_goes_22 (by have q : goesN false k0 = true := (by simp [goesN]; omega); rw [q])
  · subst c_11
    refine lv_iload_n hx hb dX4_goes_4 rfl (lv_at hl 0 rfl) ?_
    refine kS_i (A := A) (As := [.int (nI k0)]) (rest := []) ⟨hx, hb, hml, hown, hts⟩ (mX4_isWhite (A := A) hk0) (va_cwS 1 hts (gS tw_5_15 tw_5_16 tw_1_8 tw_5_17) rfl rfl rfl (by decide +kernel) ⟨Nat.le_of_ble_eq_true rfl, Nat.le_of_ble_eq_true rfl⟩) hC hS hA  trivial rfl rfl hl.1 (Nat.le_of_ble_eq_true rfl) ⟨Nat.zero_le _, Nat.zero_le _⟩ dX4_goes_5 (fun r9 h9 => lv_cv h9 ?_)
    refine lv_goto (tgt := 22) hx hb dX4_goes_8 (by decide) ?_
    exact p_z (b := goesN true k0) hx hb hr hlocks dX4_goes_22 rfl

abbrev rmX4_cut : Room := { frames := 1, cells := 1, slots := 61, locals := 20 }
theorem mX4_cut {l : Launch} {G : Cx} {A : Nat → Prop} {a sz i i2 : Nat} {t : List Nat} (hi : i ≤ i2) (hi2 : i2 ≤ t.length) (t61 : t.length ≤ 61) : Met l yX4_cut (.code yX4_cut cX4_cut 5 (some (.array .int)) :: GW) rmX4_cut (PC G A [.ref a, .int (nI i), .int (nI i2)] (fun H => H.size = sz ∧ IA G a t H)) (qR A (fun r H => sz ≤ r ∧ IA0 G r (cutL t i i2) H)) 1 61 (A) := by
  refine mstart "SigntextModel" (by decide +kernel) rfl (Nat.le_of_ble_eq_true rfl) ?_
  intro p e s m below meth c ls hx hb hr hts hown hml hlocks hname hC hA hW hl
  have hl : lv_has ls 5 [(0, .ref a), (1, .int (nI i)), (2, .int (nI i2))] := hl
  have hK := hC.1
  have hS : va_S A s.heap s.heap [] := va_S.rf
  obtain ⟨hsz, hI⟩ := hW
  refine lv_iload_n hx hb dX4_cut_0 rfl (lv_at hl 2 rfl) ?_
  refine lv_iload_n hx hb dX4_cut_1 rfl (lv_at hl 1 rfl) ?_
  refine lv_isub hx hb dX4_cut_2 ?_
  refine lv_cv (pk_sub (a := i2) (b := i) (by omega)) ?_
  refine h_newa (D := G.1) (atype := .int) (N := i2 - i) (z := (i2 - i, .inl (fun _ => 0))) hx hb (hts _ tw_1_70) rfl (fun h => h) hK 0 rfl hS rfl (nI_pos (by omega)) (nI_clamp (by omega)) (show (i2 - i) * _ ≤ _ from by show (i2 - i) * 4 ≤ 536870912; omega) (Nat.le_trans (show 0 + 1 ≤ 1 by omega) (Nat.le_of_ble_eq_true rfl)) (Nat.le_trans (show 0 + (i2 - i) ≤ 61 by omega) (Nat.le_of_ble_eq_true rfl)) dX4_cut_3 (fun na H13 hna hFna z13 o13 hS => ?_)
  have n13hI : a ≠ na := fun q => absurd hI.lt (by rw [q, hna]; exact Nat.lt_irrefl _)
  have hI := IA.n hI o13
  have hZ13 := hS.1
  have hMna : A na := hA na (by omega)
  refine lv_astore_n (lv' := [(3, .ref na), (0, .ref a), (1, .int (nI i)), (2, .int (nI i2))]) hx hb dX4_cut_5 rfl hl (by decide) rfl (fun ls hl => ?_)
  refine lv_iload_n hx hb dX4_cut_6 rfl (lv_at hl 2 rfl) ?_
  refine lv_istore (lv' := [(4, .int (nI i)), (3, .ref na), (0, .ref a), (1, .int (nI i)), (2, .int (nI i2))]) hx hb dX4_cut_7 hl (by decide) rfl (fun ls hl => ?_)
  have naz : sz ≤ na := by omega
  have nea := n13hI
  refine nloop (P := fun j => ∀ (ls : Array Slot) (H : Heap) (L : List Loc) (g : Nat → Int32), lv_has ls 5 [(4, .int (nI j)), (3, .ref na), (0, .ref a), (1, .int (nI i)), (2, .int (nI i2))] → va_S A s.heap H L → IA G a t H → va_at G.1 vwCl (na, .inl (G.2.1 0, i2 - i, .inl g)) H → i ≤ j → (∀ k : Nat, k < j - i → g k = nI (t.getD (i + k) 0)) → W p l e rmX4_cut s m [.ref a, .int (nI i), .int (nI i2)].toArray below meth c H L (0 + 1) (0 + (i2 - i)) (MQ below (qR A (fun r H => sz ≤ r ∧ IA0 G r (cutL t i i2) H)) [.ref a, .int (nI i), .int (nI i2)].toArray s 1 61 (A)) (F0 m 9 ls [])) i2 ?_ i hi ls H13 [] (fun _ => 0) hl hS hI hFna (Nat.le_refl _) (fun k hk => absurd hk (by omega))
  clear hl
  intro j hj ih ls H L g hl
  clear hS hI hFna
  intro hS hI hFna hij hg
  refine lv_iload hx hb dX4_cut_9 (lv_at hl 0 rfl) ?_
  refine lv_iload_n hx hb dX4_cut_11 rfl (lv_at hl 4 rfl) ?_
  refine b_ge (tgt := 31) hx hb dX4_cut_12 (by decide) (by omega) (by omega) (fun c_14 => ?_) (fun c_14 => ?_)
  · refine lv_aload_n hx hb dX4_cut_31 rfl (lv_at hl 1 rfl) ?_
    obtain rfl : j = i2 := by omega
    exact q_a hx hb hr (Or.inr ⟨_, rfl⟩) hlocks dX4_cut_32 hS (by omega) (by omega) ⟨naz, IA0.mk hFna (cutL_len hi2).symm (fun k hk => by rw [cutL_getD hk]; exact hg k hk)⟩
  · refine lv_aload_n hx hb dX4_cut_15 rfl (lv_at hl 1 rfl) ?_
    refine lv_iload hx hb dX4_cut_16 (lv_at hl 0 rfl) ?_
    refine lv_iload_n hx hb dX4_cut_18 rfl (lv_at hl 3 rfl) ?_
    refine lv_isub hx hb dX4_cut_19 ?_
    refine lv_cv (pk_sub (a := j) (b := i) (by omega)) ?_
    refine lv_aload_n hx hb dX4_cut_20 rfl (lv_at hl 2 rfl) ?_
    refine lv_iload hx hb dX4_cut_21 (lv_at hl 0 rfl) ?_
    refine h_ild hx hb hC.2.1 hI (i := j) (by omega) (by omega) dX4_cut_23 ?_
    refine h_ist (D := G.1) hx hb hK 0 hFna rfl hS hMna (vp_in_nI (n := j - i) (N := i2 - i) (by omega) (by omega)) dX4_cut_24 (fun H15 L15 hFna z15 o15 hS => ?_)
    rw [nI_clamp (n := j - i) (by omega)] at hFna
    have hI := IA.o hI o15 nea
    have hZ15 := hS.1
    refine lv_iinc (v := nI (j + 1)) (lv' := [(4, .int (nI (j + 1))), (3, .ref na), (0, .ref a), (1, .int (nI i)), (2, .int (nI i2))]) hx hb dX4_cut_25 hl (k := 0) rfl (nI_add j 1) (by decide) rfl (fun ls hl => ?_)
    refine lv_goto (tgt := 9) hx hb dX4_cut_28 (by decide) ?_
    exact ih (j + 1) (by omega) (by omega) ls H15 L15 _ (lv_sub hl [0, 1, 2, 3, 4] rfl) hS hI hFna (by omega) (fun k hk => by by_cases q : k = j - i; rw [q, pk_us, show i + (j - i) = j by omega]; rw [pk_un q]; exact hg k (by omega))

abbrev rmX4_joined : Room := { frames := 1, cells := 1, slots := 61, locals := 20 }
theorem mX4_joined {l : Launch} {G : Cx} {A : Nat → Prop} {a b sz : Nat} {t u : List Nat} (h61 : t.length + u.length ≤ 61) : Met l yX4_joined (.code yX4_joined cX4_joined 4 (some (.array .int)) :: GW) rmX4_joined (PC G A [.ref a, .ref b] (fun H => H.size = sz ∧ IA G a t H ∧ IA G b u H)) (qR A (fun r H => sz ≤ r ∧ IA0 G r (t ++ u) H)) 1 61 (A) := by
  refine mstart "SigntextModel" (by decide +kernel) rfl (Nat.le_of_ble_eq_true rfl) ?_
  intro p e s m below meth c ls hx hb hr hts hown hml hlocks hname hC hA hW hl
  have hl : lv_has ls 4 [(0, .ref a), (1, .ref b)] := hl
  have hK := hC.1
  have hS : va_S A s.heap s.heap [] := va_S.rf
  obtain ⟨hsz, hI, hJ⟩ := hW
  have haz := hI.lt
  have hbz := hJ.lt
  refine lv_aload_n hx hb dX4_joined_0 rfl (lv_at hl 0 rfl) ?_
  refine h_ilen hx hb hC.2.1 hI dX4_joined_1 ?_
  refine lv_aload_n hx hb dX4_joined_2 rfl (lv_at hl 1 rfl) ?_
  refine h_ilen hx hb hC.2.1 hJ dX4_joined_3 ?_
  refine lv_iadd hx hb dX4_joined_4 ?_
  refine lv_cv (nI_add t.length u.length) ?_
  refine h_newa (D := G.1) (atype := .int) (N := t.length + u.length) (z := (t.length + u.length, .inl (fun _ => 0))) hx hb (hts _ tw_1_70) rfl (fun h => h) hK 0 rfl hS rfl (nI_pos (by omega)) (nI_clamp (by omega)) (show (t.length + u.length) * _ ≤ _ from by show (t.length + u.length) * 4 ≤ 536870912; omega) (Nat.le_trans (show 0 + 1 ≤ 1 by omega) (Nat.le_of_ble_eq_true rfl)) (Nat.le_trans (show 0 + (t.length + u.length) ≤ 61 by omega) (Nat.le_of_ble_eq_true rfl)) dX4_joined_5 (fun na H16 hna hFna z16 o16 hS => ?_)
  have n16hI : a ≠ na := fun q => absurd hI.lt (by rw [q, hna]; exact Nat.lt_irrefl _)
  have n16hJ : b ≠ na := fun q => absurd hJ.lt (by rw [q, hna]; exact Nat.lt_irrefl _)
  have hI := IA.n hI o16
  have hJ := IA.n hJ o16
  have hZ16 := hS.1
  have hMna : A na := hA na (by omega)
  refine lv_astore_n (lv' := [(2, .ref na), (0, .ref a), (1, .ref b)]) hx hb dX4_joined_7 rfl hl (by decide) rfl (fun ls hl => ?_)
  refine lv_iconst (v := nI 0) hx hb dX4_joined_8 (by decide) ?_
  refine lv_istore_n (lv' := [(3, .int (nI 0)), (2, .ref na), (0, .ref a), (1, .ref b)]) hx hb dX4_joined_9 rfl hl (by decide) rfl (fun ls hl => ?_)
  have naz : sz ≤ na := by omega
  have nea : a ≠ na := by omega
  have neb : b ≠ na := by omega
  refine nloop (P := fun j => ∀ (ls : Array Slot) (H : Heap) (L : List Loc) (g : Nat → Int32), lv_has ls 4 [(3, .int (nI j)), (2, .ref na), (0, .ref a), (1, .ref b)] → va_S A s.heap H L → IA G a t H → IA G b u H → va_at G.1 vwCl (na, .inl (G.2.1 0, t.length + u.length, .inl g)) H → (∀ k : Nat, k < j → g k = nI (t.getD k 0)) → W p l e rmX4_joined s m [.ref a, .ref b].toArray below meth c H L (0 + 1) (0 + (t.length + u.length)) (MQ below (qR A (fun r H => sz ≤ r ∧ IA0 G r (t ++ u) H)) [.ref a, .ref b].toArray s 1 61 (A)) (F0 m 10 ls [])) t.length ?_ 0 (Nat.zero_le _) ls H16 [] (fun _ => 0) hl hS hI hJ hFna (fun k hk => absurd hk (by omega))
  clear hl
  intro j hj ih ls H L g hl
  clear hS hI hJ hFna
  intro hS hI hJ hFna hg
  refine lv_iload_n hx hb dX4_joined_10 rfl (lv_at hl 0 rfl) ?_
  refine lv_aload_n hx hb dX4_joined_11 rfl (lv_at hl 2 rfl) ?_
  refine h_ilen hx hb hC.2.1 hI dX4_joined_12 ?_
  refine b_ge (tgt := 28) hx hb dX4_joined_13 (by decide) (by omega) (by omega) (fun c_17 => ?_) (fun c_17 => ?_)
  · obtain rfl : j = t.length := by omega
    clear ih
    refine lv_iconst (v := nI 0) hx hb dX4_joined_28 (by decide) ?_
    refine lv_istore_n (lv' := [(3, .int (nI 0)), (2, .ref na), (0, .ref a), (1, .ref b)]) hx hb dX4_joined_29 rfl hl (by decide) rfl (fun ls hl => ?_)
    refine nloop (P := fun j => ∀ (ls : Array Slot) (H : Heap) (L : List Loc) (g : Nat → Int32), lv_has ls 4 [(3, .int (nI j)), (2, .ref na), (0, .ref a), (1, .ref b)] → va_S A s.heap H L → IA G a t H → IA G b u H → va_at G.1 vwCl (na, .inl (G.2.1 0, t.length + u.length, .inl g)) H → (∀ k : Nat, k < t.length + j → g k = nI ((t ++ u).getD k 0)) → W p l e rmX4_joined s m [.ref a, .ref b].toArray below meth c H L (0 + 1) (0 + (t.length + u.length)) (MQ below (qR A (fun r H => sz ≤ r ∧ IA0 G r (t ++ u) H)) [.ref a, .ref b].toArray s 1 61 (A)) (F0 m 30 ls [])) u.length ?_ 0 (Nat.zero_le _) ls H L g hl hS hI hJ hFna (fun k hk => by rw [getD_app1 (by omega)]; exact hg k (by omega))
    clear hl
    intro j hj ih ls H L g hl
    clear hS hI hJ hFna hg
    intro hS hI hJ hFna hg
    refine lv_iload_n hx hb dX4_joined_30 rfl (lv_at hl 0 rfl) ?_
    refine lv_aload_n hx hb dX4_joined_31 rfl (lv_at hl 3 rfl) ?_
    refine h_ilen hx hb hC.2.1 hJ dX4_joined_32 ?_
    refine b_ge (tgt := 51) hx hb dX4_joined_33 (by decide) (by omega) (by omega) (fun c_18 => ?_) (fun c_18 => ?_)
    · refine lv_aload_n hx hb dX4_joined_51 rfl (lv_at hl 1 rfl) ?_
      exact q_a hx hb hr (Or.inr ⟨_, rfl⟩) hlocks dX4_joined_52 hS (by omega) (by omega) ⟨naz, IA0.mk hFna (by rw [List.length_append]) (fun k hk => hg k (by omega))⟩
    · refine lv_aload_n hx hb dX4_joined_36 rfl (lv_at hl 1 rfl) ?_
      refine lv_aload_n hx hb dX4_joined_37 rfl (lv_at hl 2 rfl) ?_
      refine h_ilen hx hb hC.2.1 hI dX4_joined_38 ?_
      refine lv_iload_n hx hb dX4_joined_39 rfl (lv_at hl 0 rfl) ?_
      refine lv_iadd hx hb dX4_joined_40 ?_
      refine lv_cv (nI_add t.length j) ?_
      refine lv_aload_n hx hb dX4_joined_41 rfl (lv_at hl 3 rfl) ?_
      refine lv_iload_n hx hb dX4_joined_42 rfl (lv_at hl 0 rfl) ?_
      refine h_ild hx hb hC.2.1 hJ (i := j) (by omega) (by omega) dX4_joined_43 ?_
      refine h_ist (D := G.1) hx hb hK 0 hFna rfl hS hMna (vp_in_nI (n := t.length + j) (N := t.length + u.length) (by omega) (by omega)) dX4_joined_44 (fun H19 L19 hFna z19 o19 hS => ?_)
      rw [nI_clamp (n := t.length + j) (by omega)] at hFna
      have hI := IA.o hI o19 nea
      have hJ := IA.o hJ o19 neb
      have hZ19 := hS.1
      refine lv_iinc (v := nI (j + 1)) (lv' := [(3, .int (nI (j + 1))), (2, .ref na), (0, .ref a), (1, .ref b)]) hx hb dX4_joined_45 hl (k := 0) rfl (nI_add j 1) (by decide) rfl (fun ls hl => ?_)
      refine lv_goto (tgt := 30) hx hb dX4_joined_48 (by decide) ?_
      exact ih (j + 1) (by omega) (by omega) ls H19 L19 _ (lv_sub hl [0, 1, 2, 3] rfl) hS hI hJ hFna (fun k hk => by by_cases q : k = t.length + j; rw [q, pk_us, getD_app2]; rw [pk_un q]; exact hg k (by omega))
  · refine lv_aload_n hx hb dX4_joined_16 rfl (lv_at hl 1 rfl) ?_
    refine lv_iload_n hx hb dX4_joined_17 rfl (lv_at hl 0 rfl) ?_
    refine lv_aload_n hx hb dX4_joined_18 rfl (lv_at hl 2 rfl) ?_
    refine lv_iload_n hx hb dX4_joined_19 rfl (lv_at hl 0 rfl) ?_
    refine h_ild hx hb hC.2.1 hI (i := j) (by omega) (by omega) dX4_joined_20 ?_
    refine h_ist (D := G.1) hx hb hK 0 hFna rfl hS hMna (vp_in_nI (n := j) (N := t.length + u.length) (by omega) (by omega)) dX4_joined_21 (fun H20 L20 hFna z20 o20 hS => ?_)
    rw [nI_clamp (n := j) (by omega)] at hFna
    have hI := IA.o hI o20 nea
    have hJ := IA.o hJ o20 neb
    have hZ20 := hS.1
    refine lv_iinc (v := nI (j + 1)) (lv' := [(3, .int (nI (j + 1))), (2, .ref na), (0, .ref a), (1, .ref b)]) hx hb dX4_joined_22 hl (k := 0) rfl (nI_add j 1) (by decide) rfl (fun ls hl => ?_)
    refine lv_goto (tgt := 10) hx hb dX4_joined_25 (by decide) ?_
    exact ih (j + 1) (by omega) (by omega) ls H20 L20 _ (lv_sub hl [0, 1, 2, 3] rfl) hS hI hJ hFna (fun k hk => by by_cases q : k = j; rw [q, pk_us]; rw [pk_un q]; exact hg k (by omega))
